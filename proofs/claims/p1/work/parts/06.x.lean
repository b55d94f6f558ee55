/-! the class, on a fresh object. Laid by a program (wip/tool) -/
set_option maxHeartbeats 4000000 in
set_option maxRecDepth 100000 in
theorem cf_X11_isPart (l : Launch) (D : va_G) (ca : Nat → ClassId) (za h : Nat → Nat) (hh : sgH 52 h) (f : sg_F) (L : sg_L) (Q : sg_Q) (x0 : Int32) (sz : Nat) : Met l yX11_isPart gwX11_isPart { frames := 0, cells := 0, slots := 0, locals := 0 } (sgP D vwCl (tyX ca) 52 h (eX ca h) zcX za f L Q sz [.int x0]) (sgQi D vwCl 52 h (eX ca h) sz (fun r f1 L1 Q1 => (f1 = f ∧ L1 = L ∧ Q1 = Q) ∧ ((r = 1 ∧ (0 ≤ x0.toInt ∧ x0.toInt ≤ 2)) ∨ (r = 0 ∧ (¬ (0 ≤ x0.toInt ∧ x0.toInt ≤ 2)))))) 0 0 (sgA 52 h sz) := by
  refine sg_ofWz (cc := cX11_isPart) (maxL := 1) RX11 (by decide) rfl rfl (Nat.le_of_ble_eq_true rfl) ?_
  intro p e s m below meth cd Qz ls hx hb hml hown hts hK hZ hP hS hl hret
  have hA := sgY.self (n := 52) (h := h) (sz := s.heap.size)
  have hl : lv_has ls 1 [(0, .int x0)] := hl
  obtain ⟨H, hH⟩ : ∃ z : Heap, z = s.heap := ⟨_, rfl⟩
  obtain ⟨locs, hlo⟩ : ∃ z : List Loc, z = [] := ⟨_, rfl⟩
  have hP : va_P D vwCl (sgw 52 h (eX ca h) f L Q) H := by rw [hH]; exact hP
  have hS : va_S (sgA 52 h s.heap.size) s.heap H locs := by rw [hH, hlo]; exact hS
  suffices hgo : W p l e ({ frames := 0, cells := 0, slots := 0, locals := 0 }) s m ([.int x0] : List Value).toArray below meth cd H locs 0 0 Qz (F0 m 0 ls []) by rw [hH, hlo] at hgo; exact hgo
  refine lv_iload_n hx hb dX11_isPart_0 rfl (lv_at hl 0 rfl) ?_
  refine lv_if_lt (tgt := 13) hx hb dX11_isPart_1 (by decide) (fun c => ?_) (fun c => ?_)
  · skip
    have c_1 : x0.toInt < 0 := (by have z := bn_lt c; have k1 : (0 : Int32).toInt = 0 := (by decide); omega)
    refine lv_iconst (v := 0) hx hb dX11_isPart_13 (by decide) ?_
    exact hret _ _ _ _ (0) f L Q dX11_isPart_14 (by decide) hP hS ⟨⟨rfl, rfl, rfl⟩, Or.inr (⟨rfl, by omega⟩)⟩
  · skip
    have c_2 : 0 ≤ x0.toInt := (by have z := bn_nlt c; have k1 : (0 : Int32).toInt = 0 := (by decide); omega)
    refine lv_iload_n hx hb dX11_isPart_4 rfl (lv_at hl 0 rfl) ?_
    refine lv_iconst (v := 3) hx hb dX11_isPart_5 (by decide) ?_
    refine lv_icmp_ge (tgt := 13) hx hb dX11_isPart_6 (by decide) (fun c => ?_) (fun c => ?_)
    · skip
      have c_3 : 3 ≤ x0.toInt := (by have z := bn_le c; have k1 : (3 : Int32).toInt = 3 := (by decide); omega)
      refine lv_iconst (v := 0) hx hb dX11_isPart_13 (by decide) ?_
      exact hret _ _ _ _ (0) f L Q dX11_isPart_14 (by decide) hP hS ⟨⟨rfl, rfl, rfl⟩, Or.inr (⟨rfl, by omega⟩)⟩
    · skip
      have c_4 : x0.toInt < 3 := (by have z := bn_nle c; have k1 : (3 : Int32).toInt = 3 := (by decide); omega)
      refine lv_iconst (v := 1) hx hb dX11_isPart_9 (by decide) ?_
      refine lv_goto (tgt := 14) hx hb dX11_isPart_10 (by decide) ?_
      exact hret _ _ _ _ (1) f L Q dX11_isPart_14 (by decide) hP hS ⟨⟨rfl, rfl, rfl⟩, Or.inl ⟨rfl, by omega⟩⟩

set_option maxHeartbeats 4000000 in
set_option maxRecDepth 100000 in
theorem cf_X11_isSetting (l : Launch) (D : va_G) (ca : Nat → ClassId) (za h : Nat → Nat) (hh : sgH 52 h) (f : sg_F) (L : sg_L) (Q : sg_Q) (x0 : Int32) (sz : Nat) : Met l yX11_isSetting gwX11_isSetting { frames := 0, cells := 0, slots := 0, locals := 0 } (sgP D vwCl (tyX ca) 52 h (eX ca h) zcX za f L Q sz [.int x0]) (sgQi D vwCl 52 h (eX ca h) sz (fun r f1 L1 Q1 => (f1 = f ∧ L1 = L ∧ Q1 = Q) ∧ ((r = 1 ∧ (0 ≤ x0.toInt ∧ x0.toInt ≤ 60)) ∨ (r = 0 ∧ (¬ (0 ≤ x0.toInt ∧ x0.toInt ≤ 60)))))) 0 0 (sgA 52 h sz) := by
  refine sg_ofWz (cc := cX11_isSetting) (maxL := 1) RX11 (by decide) rfl rfl (Nat.le_of_ble_eq_true rfl) ?_
  intro p e s m below meth cd Qz ls hx hb hml hown hts hK hZ hP hS hl hret
  have hA := sgY.self (n := 52) (h := h) (sz := s.heap.size)
  have hl : lv_has ls 1 [(0, .int x0)] := hl
  obtain ⟨H, hH⟩ : ∃ z : Heap, z = s.heap := ⟨_, rfl⟩
  obtain ⟨locs, hlo⟩ : ∃ z : List Loc, z = [] := ⟨_, rfl⟩
  have hP : va_P D vwCl (sgw 52 h (eX ca h) f L Q) H := by rw [hH]; exact hP
  have hS : va_S (sgA 52 h s.heap.size) s.heap H locs := by rw [hH, hlo]; exact hS
  suffices hgo : W p l e ({ frames := 0, cells := 0, slots := 0, locals := 0 }) s m ([.int x0] : List Value).toArray below meth cd H locs 0 0 Qz (F0 m 0 ls []) by rw [hH, hlo] at hgo; exact hgo
  refine lv_iload_n hx hb dX11_isSetting_0 rfl (lv_at hl 0 rfl) ?_
  refine lv_if_lt (tgt := 14) hx hb dX11_isSetting_1 (by decide) (fun c => ?_) (fun c => ?_)
  · skip
    have c_1 : x0.toInt < 0 := (by have z := bn_lt c; have k1 : (0 : Int32).toInt = 0 := (by decide); omega)
    refine lv_iconst (v := 0) hx hb dX11_isSetting_14 (by decide) ?_
    exact hret _ _ _ _ (0) f L Q dX11_isSetting_15 (by decide) hP hS ⟨⟨rfl, rfl, rfl⟩, Or.inr (⟨rfl, by omega⟩)⟩
  · skip
    have c_2 : 0 ≤ x0.toInt := (by have z := bn_nlt c; have k1 : (0 : Int32).toInt = 0 := (by decide); omega)
    refine lv_iload_n hx hb dX11_isSetting_4 rfl (lv_at hl 0 rfl) ?_
    refine lv_bipush (v := 60) hx hb dX11_isSetting_5 (by decide) ?_
    refine lv_icmp_gt (tgt := 14) hx hb dX11_isSetting_7 (by decide) (fun c => ?_) (fun c => ?_)
    · skip
      have c_3 : 60 < x0.toInt := (by have z := bn_lt c; have k1 : (60 : Int32).toInt = 60 := (by decide); omega)
      refine lv_iconst (v := 0) hx hb dX11_isSetting_14 (by decide) ?_
      exact hret _ _ _ _ (0) f L Q dX11_isSetting_15 (by decide) hP hS ⟨⟨rfl, rfl, rfl⟩, Or.inr (⟨rfl, by omega⟩)⟩
    · skip
      have c_4 : x0.toInt ≤ 60 := (by have z := bn_nlt c; have k1 : (60 : Int32).toInt = 60 := (by decide); omega)
      refine lv_iconst (v := 1) hx hb dX11_isSetting_10 (by decide) ?_
      refine lv_goto (tgt := 15) hx hb dX11_isSetting_11 (by decide) ?_
      exact hret _ _ _ _ (1) f L Q dX11_isSetting_15 (by decide) hP hS ⟨⟨rfl, rfl, rfl⟩, Or.inl ⟨rfl, by omega⟩⟩

set_option maxHeartbeats 4000000 in
set_option maxRecDepth 100000 in
theorem cf_X11_isShelf (l : Launch) (D : va_G) (ca : Nat → ClassId) (za h : Nat → Nat) (hh : sgH 52 h) (f : sg_F) (L : sg_L) (Q : sg_Q) (x0 : Int32) (sz : Nat) : Met l yX11_isShelf gwX11_isShelf { frames := 0, cells := 0, slots := 0, locals := 0 } (sgP D vwCl (tyX ca) 52 h (eX ca h) zcX za f L Q sz [.int x0]) (sgQi D vwCl 52 h (eX ca h) sz (fun r f1 L1 Q1 => (f1 = f ∧ L1 = L ∧ Q1 = Q) ∧ ((r = 1 ∧ (0 ≤ x0.toInt ∧ x0.toInt ≤ 5)) ∨ (r = 0 ∧ (¬ (0 ≤ x0.toInt ∧ x0.toInt ≤ 5)))))) 0 0 (sgA 52 h sz) := by
  refine sg_ofWz (cc := cX11_isShelf) (maxL := 1) RX11 (by decide) rfl rfl (Nat.le_of_ble_eq_true rfl) ?_
  intro p e s m below meth cd Qz ls hx hb hml hown hts hK hZ hP hS hl hret
  have hA := sgY.self (n := 52) (h := h) (sz := s.heap.size)
  have hl : lv_has ls 1 [(0, .int x0)] := hl
  obtain ⟨H, hH⟩ : ∃ z : Heap, z = s.heap := ⟨_, rfl⟩
  obtain ⟨locs, hlo⟩ : ∃ z : List Loc, z = [] := ⟨_, rfl⟩
  have hP : va_P D vwCl (sgw 52 h (eX ca h) f L Q) H := by rw [hH]; exact hP
  have hS : va_S (sgA 52 h s.heap.size) s.heap H locs := by rw [hH, hlo]; exact hS
  suffices hgo : W p l e ({ frames := 0, cells := 0, slots := 0, locals := 0 }) s m ([.int x0] : List Value).toArray below meth cd H locs 0 0 Qz (F0 m 0 ls []) by rw [hH, hlo] at hgo; exact hgo
  refine lv_iload_n hx hb dX11_isShelf_0 rfl (lv_at hl 0 rfl) ?_
  refine lv_if_lt (tgt := 14) hx hb dX11_isShelf_1 (by decide) (fun c => ?_) (fun c => ?_)
  · skip
    have c_1 : x0.toInt < 0 := (by have z := bn_lt c; have k1 : (0 : Int32).toInt = 0 := (by decide); omega)
    refine lv_iconst (v := 0) hx hb dX11_isShelf_14 (by decide) ?_
    exact hret _ _ _ _ (0) f L Q dX11_isShelf_15 (by decide) hP hS ⟨⟨rfl, rfl, rfl⟩, Or.inr (⟨rfl, by omega⟩)⟩
  · skip
    have c_2 : 0 ≤ x0.toInt := (by have z := bn_nlt c; have k1 : (0 : Int32).toInt = 0 := (by decide); omega)
    refine lv_iload_n hx hb dX11_isShelf_4 rfl (lv_at hl 0 rfl) ?_
    refine lv_bipush (v := 6) hx hb dX11_isShelf_5 (by decide) ?_
    refine lv_icmp_ge (tgt := 14) hx hb dX11_isShelf_7 (by decide) (fun c => ?_) (fun c => ?_)
    · skip
      have c_3 : 6 ≤ x0.toInt := (by have z := bn_le c; have k1 : (6 : Int32).toInt = 6 := (by decide); omega)
      refine lv_iconst (v := 0) hx hb dX11_isShelf_14 (by decide) ?_
      exact hret _ _ _ _ (0) f L Q dX11_isShelf_15 (by decide) hP hS ⟨⟨rfl, rfl, rfl⟩, Or.inr (⟨rfl, by omega⟩)⟩
    · skip
      have c_4 : x0.toInt < 6 := (by have z := bn_nle c; have k1 : (6 : Int32).toInt = 6 := (by decide); omega)
      refine lv_iconst (v := 1) hx hb dX11_isShelf_10 (by decide) ?_
      refine lv_goto (tgt := 15) hx hb dX11_isShelf_11 (by decide) ?_
      exact hret _ _ _ _ (1) f L Q dX11_isShelf_15 (by decide) hP hS ⟨⟨rfl, rfl, rfl⟩, Or.inl ⟨rfl, by omega⟩⟩

set_option maxHeartbeats 4000000 in
set_option maxRecDepth 100000 in
theorem cf_X11_isKind (l : Launch) (D : va_G) (ca : Nat → ClassId) (za h : Nat → Nat) (hh : sgH 52 h) (f : sg_F) (L : sg_L) (Q : sg_Q) (x0 : Int32) (sz : Nat) : Met l yX11_isKind gwX11_isKind { frames := 0, cells := 0, slots := 0, locals := 0 } (sgP D vwCl (tyX ca) 52 h (eX ca h) zcX za f L Q sz [.int x0]) (sgQi D vwCl 52 h (eX ca h) sz (fun r f1 L1 Q1 => (f1 = f ∧ L1 = L ∧ Q1 = Q) ∧ ((r = 1 ∧ (0 ≤ x0.toInt ∧ x0.toInt ≤ 7)) ∨ (r = 0 ∧ (¬ (0 ≤ x0.toInt ∧ x0.toInt ≤ 7)))))) 0 0 (sgA 52 h sz) := by
  refine sg_ofWz (cc := cX11_isKind) (maxL := 1) RX11 (by decide) rfl rfl (Nat.le_of_ble_eq_true rfl) ?_
  intro p e s m below meth cd Qz ls hx hb hml hown hts hK hZ hP hS hl hret
  have hA := sgY.self (n := 52) (h := h) (sz := s.heap.size)
  have hl : lv_has ls 1 [(0, .int x0)] := hl
  obtain ⟨H, hH⟩ : ∃ z : Heap, z = s.heap := ⟨_, rfl⟩
  obtain ⟨locs, hlo⟩ : ∃ z : List Loc, z = [] := ⟨_, rfl⟩
  have hP : va_P D vwCl (sgw 52 h (eX ca h) f L Q) H := by rw [hH]; exact hP
  have hS : va_S (sgA 52 h s.heap.size) s.heap H locs := by rw [hH, hlo]; exact hS
  suffices hgo : W p l e ({ frames := 0, cells := 0, slots := 0, locals := 0 }) s m ([.int x0] : List Value).toArray below meth cd H locs 0 0 Qz (F0 m 0 ls []) by rw [hH, hlo] at hgo; exact hgo
  refine lv_iload_n hx hb dX11_isKind_0 rfl (lv_at hl 0 rfl) ?_
  refine lv_if_lt (tgt := 14) hx hb dX11_isKind_1 (by decide) (fun c => ?_) (fun c => ?_)
  · skip
    have c_1 : x0.toInt < 0 := (by have z := bn_lt c; have k1 : (0 : Int32).toInt = 0 := (by decide); omega)
    refine lv_iconst (v := 0) hx hb dX11_isKind_14 (by decide) ?_
    exact hret _ _ _ _ (0) f L Q dX11_isKind_15 (by decide) hP hS ⟨⟨rfl, rfl, rfl⟩, Or.inr (⟨rfl, by omega⟩)⟩
  · skip
    have c_2 : 0 ≤ x0.toInt := (by have z := bn_nlt c; have k1 : (0 : Int32).toInt = 0 := (by decide); omega)
    refine lv_iload_n hx hb dX11_isKind_4 rfl (lv_at hl 0 rfl) ?_
    refine lv_bipush (v := 8) hx hb dX11_isKind_5 (by decide) ?_
    refine lv_icmp_ge (tgt := 14) hx hb dX11_isKind_7 (by decide) (fun c => ?_) (fun c => ?_)
    · skip
      have c_3 : 8 ≤ x0.toInt := (by have z := bn_le c; have k1 : (8 : Int32).toInt = 8 := (by decide); omega)
      refine lv_iconst (v := 0) hx hb dX11_isKind_14 (by decide) ?_
      exact hret _ _ _ _ (0) f L Q dX11_isKind_15 (by decide) hP hS ⟨⟨rfl, rfl, rfl⟩, Or.inr (⟨rfl, by omega⟩)⟩
    · skip
      have c_4 : x0.toInt < 8 := (by have z := bn_nle c; have k1 : (8 : Int32).toInt = 8 := (by decide); omega)
      refine lv_iconst (v := 1) hx hb dX11_isKind_10 (by decide) ?_
      refine lv_goto (tgt := 15) hx hb dX11_isKind_11 (by decide) ?_
      exact hret _ _ _ _ (1) f L Q dX11_isKind_15 (by decide) hP hS ⟨⟨rfl, rfl, rfl⟩, Or.inl ⟨rfl, by omega⟩⟩

set_option maxHeartbeats 4000000 in
set_option maxRecDepth 100000 in
theorem cf_X11_fits_5 (l : Launch) (D : va_G) (ca : Nat → ClassId) (za h : Nat → Nat) (hh : sgH 52 h) (f : sg_F) (L : sg_L) (Q : sg_Q) (x1 : Int32) (sz : Nat) : Met l yX11_fits gwX11_fits { frames := 0, cells := 0, slots := 0, locals := 0 } (sgP D vwCl (tyX ca) 52 h (eX ca h) zcX za f L Q sz [.int 5, .int x1]) (sgQi D vwCl 52 h (eX ca h) sz (fun r f1 L1 Q1 => (f1 = f ∧ L1 = L ∧ Q1 = Q) ∧ ((r = 1 ∧ (1 ≤ x1.toInt ∧ x1.toInt ≤ 12)) ∨ (r = 0 ∧ (¬ (1 ≤ x1.toInt ∧ x1.toInt ≤ 12)))))) 0 0 (sgA 52 h sz) := by
  refine sg_ofWz (cc := cX11_fits) (maxL := 2) RX11 (by decide) rfl rfl (Nat.le_of_ble_eq_true rfl) ?_
  intro p e s m below meth cd Qz ls hx hb hml hown hts hK hZ hP hS hl hret
  have hA := sgY.self (n := 52) (h := h) (sz := s.heap.size)
  have hl : lv_has ls 2 [(0, .int 5), (1, .int x1)] := hl
  obtain ⟨H, hH⟩ : ∃ z : Heap, z = s.heap := ⟨_, rfl⟩
  obtain ⟨locs, hlo⟩ : ∃ z : List Loc, z = [] := ⟨_, rfl⟩
  have hP : va_P D vwCl (sgw 52 h (eX ca h) f L Q) H := by rw [hH]; exact hP
  have hS : va_S (sgA 52 h s.heap.size) s.heap H locs := by rw [hH, hlo]; exact hS
  suffices hgo : W p l e ({ frames := 0, cells := 0, slots := 0, locals := 0 }) s m ([.int 5, .int x1] : List Value).toArray below meth cd H locs 0 0 Qz (F0 m 0 ls []) by rw [hH, hlo] at hgo; exact hgo
  refine lv_iload_n hx hb dX11_fits_0 rfl (lv_at hl 0 rfl) ?_
  refine lv_if_lt (tgt := 34) hx hb dX11_fits_1 (by decide) (fun c => absurd c (by decide)) (fun c => ?_)
  refine lv_iload_n hx hb dX11_fits_4 rfl (lv_at hl 0 rfl) ?_
  refine sg_gets hx hb hZ 1 rfl hS hown (hts _ (List.mem_cons_of_mem _ mw_0)) (fun _ h9 => h9) dX11_fits_5 ?_
  refine sg_slen hx hb hZ 1 rfl hS (v := 11) (by decide) dX11_fits_8 ?_
  refine lv_icmp_ge (tgt := 34) hx hb dX11_fits_9 (by decide) (fun c => absurd c (by decide)) (fun c => ?_)
  refine lv_iload_n hx hb dX11_fits_12 rfl (lv_at hl 1 rfl) ?_
  refine sg_gets hx hb hZ 0 rfl hS hown (hts _ (List.mem_cons_of_mem _ mw_1)) (fun _ h9 => h9) dX11_fits_13 ?_
  refine lv_iload_n hx hb dX11_fits_16 rfl (lv_at hl 0 rfl) ?_
  refine sg_sald hx hb hZ 0 rfl hS (y := 5) (N := 11) (vp_in_iff.mpr (by decide)) dX11_fits_17 ?_
  refine W.eq (g2 := F0 m 18 ls [.int 1, .int x1]) (by rfl) ?_
  refine lv_icmp_lt (tgt := 34) hx hb dX11_fits_18 (by decide) (fun c => ?_) (fun c => ?_)
  · skip
    have c_1 : x1.toInt < 1 := (by have z := bn_lt c; have k1 : (1 : Int32).toInt = 1 := (by decide); omega)
    refine lv_iconst (v := 0) hx hb dX11_fits_34 (by decide) ?_
    exact hret _ _ _ _ (0) f L Q dX11_fits_35 (by decide) hP hS ⟨⟨rfl, rfl, rfl⟩, Or.inr (⟨rfl, by omega⟩)⟩
  · skip
    have c_2 : 1 ≤ x1.toInt := (by have z := bn_nlt c; have k1 : (1 : Int32).toInt = 1 := (by decide); omega)
    refine lv_iload_n hx hb dX11_fits_21 rfl (lv_at hl 1 rfl) ?_
    refine sg_gets hx hb hZ 1 rfl hS hown (hts _ (List.mem_cons_of_mem _ mw_0)) (fun _ h9 => h9) dX11_fits_22 ?_
    refine lv_iload_n hx hb dX11_fits_25 rfl (lv_at hl 0 rfl) ?_
    refine sg_sald hx hb hZ 1 rfl hS (y := 5) (N := 11) (vp_in_iff.mpr (by decide)) dX11_fits_26 ?_
    refine W.eq (g2 := F0 m 27 ls [.int 12, .int x1]) (by rfl) ?_
    refine lv_icmp_gt (tgt := 34) hx hb dX11_fits_27 (by decide) (fun c => ?_) (fun c => ?_)
    · skip
      have c_3 : 12 < x1.toInt := (by have z := bn_lt c; have k1 : (12 : Int32).toInt = 12 := (by decide); omega)
      refine lv_iconst (v := 0) hx hb dX11_fits_34 (by decide) ?_
      exact hret _ _ _ _ (0) f L Q dX11_fits_35 (by decide) hP hS ⟨⟨rfl, rfl, rfl⟩, Or.inr (⟨rfl, by omega⟩)⟩
    · skip
      have c_4 : x1.toInt ≤ 12 := (by have z := bn_nlt c; have k1 : (12 : Int32).toInt = 12 := (by decide); omega)
      refine lv_iconst (v := 1) hx hb dX11_fits_30 (by decide) ?_
      refine lv_goto (tgt := 35) hx hb dX11_fits_31 (by decide) ?_
      exact hret _ _ _ _ (1) f L Q dX11_fits_35 (by decide) hP hS ⟨⟨rfl, rfl, rfl⟩, Or.inl ⟨rfl, by omega⟩⟩

set_option maxHeartbeats 4000000 in
set_option maxRecDepth 100000 in
theorem cf_X11_fits_8 (l : Launch) (D : va_G) (ca : Nat → ClassId) (za h : Nat → Nat) (hh : sgH 52 h) (f : sg_F) (L : sg_L) (Q : sg_Q) (x1 : Int32) (sz : Nat) : Met l yX11_fits gwX11_fits { frames := 0, cells := 0, slots := 0, locals := 0 } (sgP D vwCl (tyX ca) 52 h (eX ca h) zcX za f L Q sz [.int 8, .int x1]) (sgQi D vwCl 52 h (eX ca h) sz (fun r f1 L1 Q1 => (f1 = f ∧ L1 = L ∧ Q1 = Q) ∧ ((r = 1 ∧ (0 ≤ x1.toInt ∧ x1.toInt ≤ 3)) ∨ (r = 0 ∧ (¬ (0 ≤ x1.toInt ∧ x1.toInt ≤ 3)))))) 0 0 (sgA 52 h sz) := by
  refine sg_ofWz (cc := cX11_fits) (maxL := 2) RX11 (by decide) rfl rfl (Nat.le_of_ble_eq_true rfl) ?_
  intro p e s m below meth cd Qz ls hx hb hml hown hts hK hZ hP hS hl hret
  have hA := sgY.self (n := 52) (h := h) (sz := s.heap.size)
  have hl : lv_has ls 2 [(0, .int 8), (1, .int x1)] := hl
  obtain ⟨H, hH⟩ : ∃ z : Heap, z = s.heap := ⟨_, rfl⟩
  obtain ⟨locs, hlo⟩ : ∃ z : List Loc, z = [] := ⟨_, rfl⟩
  have hP : va_P D vwCl (sgw 52 h (eX ca h) f L Q) H := by rw [hH]; exact hP
  have hS : va_S (sgA 52 h s.heap.size) s.heap H locs := by rw [hH, hlo]; exact hS
  suffices hgo : W p l e ({ frames := 0, cells := 0, slots := 0, locals := 0 }) s m ([.int 8, .int x1] : List Value).toArray below meth cd H locs 0 0 Qz (F0 m 0 ls []) by rw [hH, hlo] at hgo; exact hgo
  refine lv_iload_n hx hb dX11_fits_0 rfl (lv_at hl 0 rfl) ?_
  refine lv_if_lt (tgt := 34) hx hb dX11_fits_1 (by decide) (fun c => absurd c (by decide)) (fun c => ?_)
  refine lv_iload_n hx hb dX11_fits_4 rfl (lv_at hl 0 rfl) ?_
  refine sg_gets hx hb hZ 1 rfl hS hown (hts _ (List.mem_cons_of_mem _ mw_0)) (fun _ h9 => h9) dX11_fits_5 ?_
  refine sg_slen hx hb hZ 1 rfl hS (v := 11) (by decide) dX11_fits_8 ?_
  refine lv_icmp_ge (tgt := 34) hx hb dX11_fits_9 (by decide) (fun c => absurd c (by decide)) (fun c => ?_)
  refine lv_iload_n hx hb dX11_fits_12 rfl (lv_at hl 1 rfl) ?_
  refine sg_gets hx hb hZ 0 rfl hS hown (hts _ (List.mem_cons_of_mem _ mw_1)) (fun _ h9 => h9) dX11_fits_13 ?_
  refine lv_iload_n hx hb dX11_fits_16 rfl (lv_at hl 0 rfl) ?_
  refine sg_sald hx hb hZ 0 rfl hS (y := 8) (N := 11) (vp_in_iff.mpr (by decide)) dX11_fits_17 ?_
  refine W.eq (g2 := F0 m 18 ls [.int 0, .int x1]) (by rfl) ?_
  refine lv_icmp_lt (tgt := 34) hx hb dX11_fits_18 (by decide) (fun c => ?_) (fun c => ?_)
  · skip
    have c_1 : x1.toInt < 0 := (by have z := bn_lt c; have k1 : (0 : Int32).toInt = 0 := (by decide); omega)
    refine lv_iconst (v := 0) hx hb dX11_fits_34 (by decide) ?_
    exact hret _ _ _ _ (0) f L Q dX11_fits_35 (by decide) hP hS ⟨⟨rfl, rfl, rfl⟩, Or.inr (⟨rfl, by omega⟩)⟩
  · skip
    have c_2 : 0 ≤ x1.toInt := (by have z := bn_nlt c; have k1 : (0 : Int32).toInt = 0 := (by decide); omega)
    refine lv_iload_n hx hb dX11_fits_21 rfl (lv_at hl 1 rfl) ?_
    refine sg_gets hx hb hZ 1 rfl hS hown (hts _ (List.mem_cons_of_mem _ mw_0)) (fun _ h9 => h9) dX11_fits_22 ?_
    refine lv_iload_n hx hb dX11_fits_25 rfl (lv_at hl 0 rfl) ?_
    refine sg_sald hx hb hZ 1 rfl hS (y := 8) (N := 11) (vp_in_iff.mpr (by decide)) dX11_fits_26 ?_
    refine W.eq (g2 := F0 m 27 ls [.int 3, .int x1]) (by rfl) ?_
    refine lv_icmp_gt (tgt := 34) hx hb dX11_fits_27 (by decide) (fun c => ?_) (fun c => ?_)
    · skip
      have c_3 : 3 < x1.toInt := (by have z := bn_lt c; have k1 : (3 : Int32).toInt = 3 := (by decide); omega)
      refine lv_iconst (v := 0) hx hb dX11_fits_34 (by decide) ?_
      exact hret _ _ _ _ (0) f L Q dX11_fits_35 (by decide) hP hS ⟨⟨rfl, rfl, rfl⟩, Or.inr (⟨rfl, by omega⟩)⟩
    · skip
      have c_4 : x1.toInt ≤ 3 := (by have z := bn_nlt c; have k1 : (3 : Int32).toInt = 3 := (by decide); omega)
      refine lv_iconst (v := 1) hx hb dX11_fits_30 (by decide) ?_
      refine lv_goto (tgt := 35) hx hb dX11_fits_31 (by decide) ?_
      exact hret _ _ _ _ (1) f L Q dX11_fits_35 (by decide) hP hS ⟨⟨rfl, rfl, rfl⟩, Or.inl ⟨rfl, by omega⟩⟩

set_option maxHeartbeats 4000000 in
set_option maxRecDepth 100000 in
theorem cf_X11_fits_9 (l : Launch) (D : va_G) (ca : Nat → ClassId) (za h : Nat → Nat) (hh : sgH 52 h) (f : sg_F) (L : sg_L) (Q : sg_Q) (x1 : Int32) (sz : Nat) : Met l yX11_fits gwX11_fits { frames := 0, cells := 0, slots := 0, locals := 0 } (sgP D vwCl (tyX ca) 52 h (eX ca h) zcX za f L Q sz [.int 9, .int x1]) (sgQi D vwCl 52 h (eX ca h) sz (fun r f1 L1 Q1 => (f1 = f ∧ L1 = L ∧ Q1 = Q) ∧ ((r = 1 ∧ (0 ≤ x1.toInt ∧ x1.toInt ≤ 9)) ∨ (r = 0 ∧ (¬ (0 ≤ x1.toInt ∧ x1.toInt ≤ 9)))))) 0 0 (sgA 52 h sz) := by
  refine sg_ofWz (cc := cX11_fits) (maxL := 2) RX11 (by decide) rfl rfl (Nat.le_of_ble_eq_true rfl) ?_
  intro p e s m below meth cd Qz ls hx hb hml hown hts hK hZ hP hS hl hret
  have hA := sgY.self (n := 52) (h := h) (sz := s.heap.size)
  have hl : lv_has ls 2 [(0, .int 9), (1, .int x1)] := hl
  obtain ⟨H, hH⟩ : ∃ z : Heap, z = s.heap := ⟨_, rfl⟩
  obtain ⟨locs, hlo⟩ : ∃ z : List Loc, z = [] := ⟨_, rfl⟩
  have hP : va_P D vwCl (sgw 52 h (eX ca h) f L Q) H := by rw [hH]; exact hP
  have hS : va_S (sgA 52 h s.heap.size) s.heap H locs := by rw [hH, hlo]; exact hS
  suffices hgo : W p l e ({ frames := 0, cells := 0, slots := 0, locals := 0 }) s m ([.int 9, .int x1] : List Value).toArray below meth cd H locs 0 0 Qz (F0 m 0 ls []) by rw [hH, hlo] at hgo; exact hgo
  refine lv_iload_n hx hb dX11_fits_0 rfl (lv_at hl 0 rfl) ?_
  refine lv_if_lt (tgt := 34) hx hb dX11_fits_1 (by decide) (fun c => absurd c (by decide)) (fun c => ?_)
  refine lv_iload_n hx hb dX11_fits_4 rfl (lv_at hl 0 rfl) ?_
  refine sg_gets hx hb hZ 1 rfl hS hown (hts _ (List.mem_cons_of_mem _ mw_0)) (fun _ h9 => h9) dX11_fits_5 ?_
  refine sg_slen hx hb hZ 1 rfl hS (v := 11) (by decide) dX11_fits_8 ?_
  refine lv_icmp_ge (tgt := 34) hx hb dX11_fits_9 (by decide) (fun c => absurd c (by decide)) (fun c => ?_)
  refine lv_iload_n hx hb dX11_fits_12 rfl (lv_at hl 1 rfl) ?_
  refine sg_gets hx hb hZ 0 rfl hS hown (hts _ (List.mem_cons_of_mem _ mw_1)) (fun _ h9 => h9) dX11_fits_13 ?_
  refine lv_iload_n hx hb dX11_fits_16 rfl (lv_at hl 0 rfl) ?_
  refine sg_sald hx hb hZ 0 rfl hS (y := 9) (N := 11) (vp_in_iff.mpr (by decide)) dX11_fits_17 ?_
  refine W.eq (g2 := F0 m 18 ls [.int 0, .int x1]) (by rfl) ?_
  refine lv_icmp_lt (tgt := 34) hx hb dX11_fits_18 (by decide) (fun c => ?_) (fun c => ?_)
  · skip
    have c_1 : x1.toInt < 0 := (by have z := bn_lt c; have k1 : (0 : Int32).toInt = 0 := (by decide); omega)
    refine lv_iconst (v := 0) hx hb dX11_fits_34 (by decide) ?_
    exact hret _ _ _ _ (0) f L Q dX11_fits_35 (by decide) hP hS ⟨⟨rfl, rfl, rfl⟩, Or.inr (⟨rfl, by omega⟩)⟩
  · skip
    have c_2 : 0 ≤ x1.toInt := (by have z := bn_nlt c; have k1 : (0 : Int32).toInt = 0 := (by decide); omega)
    refine lv_iload_n hx hb dX11_fits_21 rfl (lv_at hl 1 rfl) ?_
    refine sg_gets hx hb hZ 1 rfl hS hown (hts _ (List.mem_cons_of_mem _ mw_0)) (fun _ h9 => h9) dX11_fits_22 ?_
    refine lv_iload_n hx hb dX11_fits_25 rfl (lv_at hl 0 rfl) ?_
    refine sg_sald hx hb hZ 1 rfl hS (y := 9) (N := 11) (vp_in_iff.mpr (by decide)) dX11_fits_26 ?_
    refine W.eq (g2 := F0 m 27 ls [.int 9, .int x1]) (by rfl) ?_
    refine lv_icmp_gt (tgt := 34) hx hb dX11_fits_27 (by decide) (fun c => ?_) (fun c => ?_)
    · skip
      have c_3 : 9 < x1.toInt := (by have z := bn_lt c; have k1 : (9 : Int32).toInt = 9 := (by decide); omega)
      refine lv_iconst (v := 0) hx hb dX11_fits_34 (by decide) ?_
      exact hret _ _ _ _ (0) f L Q dX11_fits_35 (by decide) hP hS ⟨⟨rfl, rfl, rfl⟩, Or.inr (⟨rfl, by omega⟩)⟩
    · skip
      have c_4 : x1.toInt ≤ 9 := (by have z := bn_nlt c; have k1 : (9 : Int32).toInt = 9 := (by decide); omega)
      refine lv_iconst (v := 1) hx hb dX11_fits_30 (by decide) ?_
      refine lv_goto (tgt := 35) hx hb dX11_fits_31 (by decide) ?_
      exact hret _ _ _ _ (1) f L Q dX11_fits_35 (by decide) hP hS ⟨⟨rfl, rfl, rfl⟩, Or.inl ⟨rfl, by omega⟩⟩

set_option maxHeartbeats 4000000 in
set_option maxRecDepth 100000 in
theorem cf_X11_fits_10 (l : Launch) (D : va_G) (ca : Nat → ClassId) (za h : Nat → Nat) (hh : sgH 52 h) (f : sg_F) (L : sg_L) (Q : sg_Q) (x1 : Int32) (sz : Nat) : Met l yX11_fits gwX11_fits { frames := 0, cells := 0, slots := 0, locals := 0 } (sgP D vwCl (tyX ca) 52 h (eX ca h) zcX za f L Q sz [.int 10, .int x1]) (sgQi D vwCl 52 h (eX ca h) sz (fun r f1 L1 Q1 => (f1 = f ∧ L1 = L ∧ Q1 = Q) ∧ ((r = 1 ∧ (0 ≤ x1.toInt ∧ x1.toInt ≤ 99)) ∨ (r = 0 ∧ (¬ (0 ≤ x1.toInt ∧ x1.toInt ≤ 99)))))) 0 0 (sgA 52 h sz) := by
  refine sg_ofWz (cc := cX11_fits) (maxL := 2) RX11 (by decide) rfl rfl (Nat.le_of_ble_eq_true rfl) ?_
  intro p e s m below meth cd Qz ls hx hb hml hown hts hK hZ hP hS hl hret
  have hA := sgY.self (n := 52) (h := h) (sz := s.heap.size)
  have hl : lv_has ls 2 [(0, .int 10), (1, .int x1)] := hl
  obtain ⟨H, hH⟩ : ∃ z : Heap, z = s.heap := ⟨_, rfl⟩
  obtain ⟨locs, hlo⟩ : ∃ z : List Loc, z = [] := ⟨_, rfl⟩
  have hP : va_P D vwCl (sgw 52 h (eX ca h) f L Q) H := by rw [hH]; exact hP
  have hS : va_S (sgA 52 h s.heap.size) s.heap H locs := by rw [hH, hlo]; exact hS
  suffices hgo : W p l e ({ frames := 0, cells := 0, slots := 0, locals := 0 }) s m ([.int 10, .int x1] : List Value).toArray below meth cd H locs 0 0 Qz (F0 m 0 ls []) by rw [hH, hlo] at hgo; exact hgo
  refine lv_iload_n hx hb dX11_fits_0 rfl (lv_at hl 0 rfl) ?_
  refine lv_if_lt (tgt := 34) hx hb dX11_fits_1 (by decide) (fun c => absurd c (by decide)) (fun c => ?_)
  refine lv_iload_n hx hb dX11_fits_4 rfl (lv_at hl 0 rfl) ?_
  refine sg_gets hx hb hZ 1 rfl hS hown (hts _ (List.mem_cons_of_mem _ mw_0)) (fun _ h9 => h9) dX11_fits_5 ?_
  refine sg_slen hx hb hZ 1 rfl hS (v := 11) (by decide) dX11_fits_8 ?_
  refine lv_icmp_ge (tgt := 34) hx hb dX11_fits_9 (by decide) (fun c => absurd c (by decide)) (fun c => ?_)
  refine lv_iload_n hx hb dX11_fits_12 rfl (lv_at hl 1 rfl) ?_
  refine sg_gets hx hb hZ 0 rfl hS hown (hts _ (List.mem_cons_of_mem _ mw_1)) (fun _ h9 => h9) dX11_fits_13 ?_
  refine lv_iload_n hx hb dX11_fits_16 rfl (lv_at hl 0 rfl) ?_
  refine sg_sald hx hb hZ 0 rfl hS (y := 10) (N := 11) (vp_in_iff.mpr (by decide)) dX11_fits_17 ?_
  refine W.eq (g2 := F0 m 18 ls [.int 0, .int x1]) (by rfl) ?_
  refine lv_icmp_lt (tgt := 34) hx hb dX11_fits_18 (by decide) (fun c => ?_) (fun c => ?_)
  · skip
    have c_1 : x1.toInt < 0 := (by have z := bn_lt c; have k1 : (0 : Int32).toInt = 0 := (by decide); omega)
    refine lv_iconst (v := 0) hx hb dX11_fits_34 (by decide) ?_
    exact hret _ _ _ _ (0) f L Q dX11_fits_35 (by decide) hP hS ⟨⟨rfl, rfl, rfl⟩, Or.inr (⟨rfl, by omega⟩)⟩
  · skip
    have c_2 : 0 ≤ x1.toInt := (by have z := bn_nlt c; have k1 : (0 : Int32).toInt = 0 := (by decide); omega)
    refine lv_iload_n hx hb dX11_fits_21 rfl (lv_at hl 1 rfl) ?_
    refine sg_gets hx hb hZ 1 rfl hS hown (hts _ (List.mem_cons_of_mem _ mw_0)) (fun _ h9 => h9) dX11_fits_22 ?_
    refine lv_iload_n hx hb dX11_fits_25 rfl (lv_at hl 0 rfl) ?_
    refine sg_sald hx hb hZ 1 rfl hS (y := 10) (N := 11) (vp_in_iff.mpr (by decide)) dX11_fits_26 ?_
    refine W.eq (g2 := F0 m 27 ls [.int 99, .int x1]) (by rfl) ?_
    refine lv_icmp_gt (tgt := 34) hx hb dX11_fits_27 (by decide) (fun c => ?_) (fun c => ?_)
    · skip
      have c_3 : 99 < x1.toInt := (by have z := bn_lt c; have k1 : (99 : Int32).toInt = 99 := (by decide); omega)
      refine lv_iconst (v := 0) hx hb dX11_fits_34 (by decide) ?_
      exact hret _ _ _ _ (0) f L Q dX11_fits_35 (by decide) hP hS ⟨⟨rfl, rfl, rfl⟩, Or.inr (⟨rfl, by omega⟩)⟩
    · skip
      have c_4 : x1.toInt ≤ 99 := (by have z := bn_nlt c; have k1 : (99 : Int32).toInt = 99 := (by decide); omega)
      refine lv_iconst (v := 1) hx hb dX11_fits_30 (by decide) ?_
      refine lv_goto (tgt := 35) hx hb dX11_fits_31 (by decide) ?_
      exact hret _ _ _ _ (1) f L Q dX11_fits_35 (by decide) hP hS ⟨⟨rfl, rfl, rfl⟩, Or.inl ⟨rfl, by omega⟩⟩

set_option maxHeartbeats 4000000 in
set_option maxRecDepth 100000 in
theorem cf_X0_has (l : Launch) (D : va_G) (ca : Nat → ClassId) (za h : Nat → Nat) (hh : sgH 52 h) (f : sg_F) (L : sg_L) (Q : sg_Q) (x0 : Int32) (hs : f 1 3 = 0) (sz : Nat) : Met l yX0_has gwX0_has { frames := 0, cells := 0, slots := 0, locals := 0 } (sgP D vwCl (tyX ca) 52 h (eX ca h) zcX za f L Q sz [.ref (h 1), .int x0]) (sgQi D vwCl 52 h (eX ca h) sz (fun r f1 L1 Q1 => (f1 = f ∧ L1 = L ∧ Q1 = Q) ∧ ((r = 0 ∧ (True))))) 0 0 (sgA 52 h sz) := by
  refine sg_ofWz (cc := cX0_has) (maxL := 2) RX0 (by decide) rfl rfl (Nat.le_of_ble_eq_true rfl) ?_
  intro p e s m below meth cd Qz ls hx hb hml hown hts hK hZ hP hS hl hret
  have hA := sgY.self (n := 52) (h := h) (sz := s.heap.size)
  have hl : lv_has ls 2 [(0, .ref (h 1)), (1, .int x0)] := hl
  obtain ⟨H, hH⟩ : ∃ z : Heap, z = s.heap := ⟨_, rfl⟩
  obtain ⟨locs, hlo⟩ : ∃ z : List Loc, z = [] := ⟨_, rfl⟩
  have hP : va_P D vwCl (sgw 52 h (eX ca h) f L Q) H := by rw [hH]; exact hP
  have hS : va_S (sgA 52 h s.heap.size) s.heap H locs := by rw [hH, hlo]; exact hS
  suffices hgo : W p l e ({ frames := 0, cells := 0, slots := 0, locals := 0 }) s m ([.ref (h 1), .int x0] : List Value).toArray below meth cd H locs 0 0 Qz (F0 m 0 ls []) by rw [hH, hlo] at hgo; exact hgo
  refine lv_iload_n hx hb dX0_has_0 rfl (lv_at hl 1 rfl) ?_
  refine lv_if_lt (tgt := 16) hx hb dX0_has_1 (by decide) (fun c => ?_) (fun c => ?_)
  · skip
    have c_1 : x0.toInt < 0 := (by have z := bn_lt c; have k1 : (0 : Int32).toInt = 0 := (by decide); omega)
    refine lv_iconst (v := 0) hx hb dX0_has_16 (by decide) ?_
    exact hret _ _ _ _ (0) f L Q dX0_has_17 (by decide) hP hS ⟨⟨rfl, rfl, rfl⟩, ⟨rfl, trivial⟩⟩
  · skip
    have c_2 : 0 ≤ x0.toInt := (by have z := bn_nlt c; have k1 : (0 : Int32).toInt = 0 := (by decide); omega)
    refine lv_iload_n hx hb dX0_has_4 rfl (lv_at hl 1 rfl) ?_
    refine lv_aload_n hx hb dX0_has_5 rfl (lv_at hl 0 rfl) ?_
    refine sg_get (ci := 0) (v := .int 0) (C := RX0) (T := TX0) (N := 5) hx hb hts (fun w h => List.mem_cons_of_mem _ (gx_0 w h)) hown hK hP 1 (by decide) rfl rfl 3 (by decide) (hts _ (List.mem_cons_of_mem _ mw_2)) (fun _ h9 => h9) (congrArg (fun z => some (Value.int z)) (show f 1 3 = 0 from hs)) dX0_has_6 ?_
    refine lv_icmp_ge (tgt := 16) hx hb dX0_has_9 (by decide) (fun c => ?_) (fun c => ?_)
    · skip
      have c_3 : 0 ≤ x0.toInt := (by have z := bn_le c; have k1 : (0 : Int32).toInt = 0 := (by decide); omega)
      refine lv_iconst (v := 0) hx hb dX0_has_16 (by decide) ?_
      exact hret _ _ _ _ (0) f L Q dX0_has_17 (by decide) hP hS ⟨⟨rfl, rfl, rfl⟩, ⟨rfl, trivial⟩⟩
    · skip
      exfalso; have c_4 : x0.toInt < 0 := (by have z := bn_nle c; have k1 : (0 : Int32).toInt = 0 := (by decide); omega); omega

set_option maxHeartbeats 4000000 in
set_option maxRecDepth 100000 in
theorem cf_X11_refusalOf (l : Launch) (D : va_G) (ca : Nat → ClassId) (za h : Nat → Nat) (hh : sgH 52 h) (x0 : Int32) (b0 : 0 ≤ x0.toInt ∧ x0.toInt ≤ 5) (sz : Nat) : Met l yX11_refusalOf gwX11_refusalOf { frames := 0, cells := 0, slots := 0, locals := 0 } (sgP D vwCl (tyX ca) 52 h (eX ca h) zcX za f0X L0 Q0 sz [.ref (h 0), .int x0]) (sgQi D vwCl 52 h (eX ca h) sz (fun r f1 L1 Q1 => (f1 = f0X ∧ L1 = L0 ∧ Q1 = Q0) ∧ ((r = (-11) ∧ (True))))) 0 0 (sgA 52 h sz) := by
  refine sg_ofWi (cc := cX11_refusalOf) (maxL := 2) RX11 (by decide) rfl rfl (Nat.le_of_ble_eq_true rfl) ?_
  intro p e s m below meth cd Qz ls hx hb hml hown hts hK hZ hP hS hl hret
  have hA := sgY.self (n := 52) (h := h) (sz := s.heap.size)
  have hl : lv_has ls 2 [(0, .ref (h 0)), (1, .int x0)] := hl
  obtain ⟨H, hH⟩ : ∃ z : Heap, z = s.heap := ⟨_, rfl⟩
  obtain ⟨locs, hlo⟩ : ∃ z : List Loc, z = [] := ⟨_, rfl⟩
  have hP : va_P D vwCl (sgw 52 h (eX ca h) f0X L0 Q0) H := by rw [hH]; exact hP
  have hS : va_S (sgA 52 h s.heap.size) s.heap H locs := by rw [hH, hlo]; exact hS
  suffices hgo : W p l e ({ frames := 0, cells := 0, slots := 0, locals := 0 }) s m ([.ref (h 0), .int x0] : List Value).toArray below meth cd H locs 0 0 Qz (F0 m 0 ls []) by rw [hH, hlo] at hgo; exact hgo
  refine lv_aload_n hx hb dX11_refusalOf_0 rfl (lv_at hl 0 rfl) ?_
  refine sg_get (ci := 11) (v := .ref (h 39)) (C := RX11) (T := TX11) (N := 10) hx hb hts (fun w h => List.mem_cons_of_mem _ (gx_11 w h)) hown hK hP 0 (by decide) rfl rfl 9 (by decide) (hts _ (List.mem_cons_of_mem _ mw_3)) (fun _ h9 => h9) rfl dX11_refusalOf_1 ?_
  refine lv_iload_n hx hb dX11_refusalOf_4 rfl (lv_at hl 1 rfl) ?_
  obtain ⟨t_1, et_1⟩ : ∃ z : Nat, z = x0.toNatClampNeg := ⟨_, rfl⟩
  have ht_t_1 : t_1 < 6 := by rw [et_1]; exact bn_kI (by omega) (by omega)
  refine sg_aald hx hb hK hP 39 (by decide) 3 rfl rfl (i := x0) (a := (h (40 + 2 * t_1))) (vp_in_iff.mpr ⟨by omega, by omega⟩) (show (if x0.toNatClampNeg < 6 then some (h (40 + 2 * x0.toNatClampNeg)) else none) = some (h (40 + 2 * t_1)) from by rw [← et_1, if_pos ht_t_1]) dX11_refusalOf_5 ?_
  refine sg_get (ci := 7) (v := .int (-1)) (C := RX7) (T := TX7) (N := 4) hx hb hts (fun w h => List.mem_cons_of_mem _ (gx_7 w h)) hown hK hP (40 + 2 * t_1) (by have := ht_t_1; omega) (eX_sh ca h ht_t_1 _ _ _) rfl 1 (by decide) (hts _ (List.mem_cons_of_mem _ mw_4)) (fun _ h9 => h9) (congrArg (fun z => some (Value.int z)) (show f0X (40 + 2 * t_1) 1 = (-1) from (by rw [f0X_sh ht_t_1]; rfl))) dX11_refusalOf_6 ?_
  refine lv_iconst (v := (-1)) hx hb dX11_refusalOf_9 (by decide) ?_
  refine lv_icmp_ne (tgt := 16) hx hb dX11_refusalOf_10 (by decide) (fun c => absurd c (by decide)) (fun c => ?_)
  refine lv_bipush (v := (-11)) hx hb dX11_refusalOf_13 (by decide) ?_
  exact hret _ _ _ _ (-11) f0X L0 Q0 dX11_refusalOf_15 hP hS ⟨⟨rfl, rfl, rfl⟩, ⟨rfl, trivial⟩⟩

set_option maxHeartbeats 4000000 in
set_option maxRecDepth 100000 in
theorem cf_X11_readWeek (l : Launch) (D : va_G) (ca : Nat → ClassId) (za h : Nat → Nat) (hh : sgH 52 h) (x0 : Int32) (b0 : 0 ≤ x0.toInt ∧ x0.toInt ≤ 5) (sz : Nat) : Met l yX11_readWeek gwX11_readWeek { frames := 1, cells := 0, slots := 0, locals := 21 } (sgP D vwCl (tyX ca) 52 h (eX ca h) zcX za f0X L0 Q0 sz [.ref (h 0), .int x0]) (sgQi D vwCl 52 h (eX ca h) sz (fun r f1 L1 Q1 => (f1 = f0X ∧ L1 = L0 ∧ Q1 = Q0) ∧ ((r = (-11) ∧ (True))))) 0 0 (sgA 52 h sz) := by
  refine sg_ofWi (cc := cX11_readWeek) (maxL := 3) RX11 (by decide) rfl rfl (Nat.le_of_ble_eq_true rfl) ?_
  intro p e s m below meth cd Qz ls hx hb hml hown hts hK hZ hP hS hl hret
  have hA := sgY.self (n := 52) (h := h) (sz := s.heap.size)
  have hl : lv_has ls 3 [(0, .ref (h 0)), (1, .int x0)] := hl
  obtain ⟨H, hH⟩ : ∃ z : Heap, z = s.heap := ⟨_, rfl⟩
  obtain ⟨locs, hlo⟩ : ∃ z : List Loc, z = [] := ⟨_, rfl⟩
  have hP : va_P D vwCl (sgw 52 h (eX ca h) f0X L0 Q0) H := by rw [hH]; exact hP
  have hS : va_S (sgA 52 h s.heap.size) s.heap H locs := by rw [hH, hlo]; exact hS
  suffices hgo : W p l e ({ frames := 1, cells := 0, slots := 0, locals := 21 }) s m ([.ref (h 0), .int x0] : List Value).toArray below meth cd H locs 0 0 Qz (F0 m 0 ls []) by rw [hH, hlo] at hgo; exact hgo
  refine lv_aload_n hx hb dX11_readWeek_0 rfl (lv_at hl 0 rfl) ?_
  refine lv_iload_n hx hb dX11_readWeek_1 rfl (lv_at hl 1 rfl) ?_
  refine sg_calli (va_runV (As := [.int x0]) (rest := []) ⟨hx, hb, hml, hown, hts⟩ (cf_X11_refusalOf l D ca za h hh x0 (by first | omega | decide) H.size) (cwV 1 hts (gw_V (fun _ h => List.mem_cons_of_mem _ h) mw_6 mw_7 mw_8 mw_9 mw_5) rfl rfl rfl (by decide +kernel) ⟨Nat.le_of_ble_eq_true rfl, Nat.le_of_ble_eq_true rfl⟩) (sg_preV (ci := 11) (C := RX11) (T := TX11) (N := 10) hA hK hP hS hZ 0 (by decide) rfl rfl) rfl rfl hl.1 rfl (lv_room (Nat.le_of_ble_eq_true rfl)) dX11_readWeek_2 ⟨Nat.le_refl _, Nat.le_refl _⟩) hA hS (fun r_4 f_1 L_2 Q_3 H locs hq hP hS => ?_)
  obtain ⟨⟨ef9, eL9, eQ9⟩, hq⟩ := hq
  rw [ef9, eL9, eQ9] at hP; clear ef9 eL9 eQ9
  obtain ⟨rfl, hq⟩ := hq
  have q_5 := hq
  refine lv_istore_n (lv' := [(2, .int (-11)), (0, .ref (h 0)), (1, .int x0)]) hx hb dX11_readWeek_5 rfl hl (by decide) rfl (fun ls hl => ?_)
  refine lv_iload_n hx hb dX11_readWeek_6 rfl (lv_at hl 0 rfl) ?_
  refine lv_if_ne (tgt := 30) hx hb dX11_readWeek_7 (by decide) (fun c => ?_) (fun c => absurd c (by decide))
  refine lv_iload_n hx hb dX11_readWeek_30 rfl (lv_at hl 0 rfl) ?_
  exact hret _ _ _ _ (-11) f0X L0 Q0 dX11_readWeek_31 hP hS ⟨⟨rfl, rfl, rfl⟩, ⟨rfl, trivial⟩⟩

set_option maxHeartbeats 4000000 in
set_option maxRecDepth 100000 in
theorem cf_X11_loss (l : Launch) (D : va_G) (ca : Nat → ClassId) (za h : Nat → Nat) (hh : sgH 52 h) (x0 : Int32) (x1 : Int32) (x2 : Int32) (sz : Nat) : Met l yX11_loss gwX11_loss { frames := 1, cells := 0, slots := 0, locals := 21 } (sgP D vwCl (tyX ca) 52 h (eX ca h) zcX za f0X L0 Q0 sz [.ref (h 0), .int x0, .int x1, .int x2]) (sgQi D vwCl 52 h (eX ca h) sz (fun r f1 L1 Q1 => True ∧ ((r = (-1) ∧ (True))))) 0 0 (sgA 52 h sz) := by
  refine sg_ofWi (cc := cX11_loss) (maxL := 4) RX11 (by decide) rfl rfl (Nat.le_of_ble_eq_true rfl) ?_
  intro p e s m below meth cd Qz ls hx hb hml hown hts hK hZ hP hS hl hret
  have hA := sgY.self (n := 52) (h := h) (sz := s.heap.size)
  have hl : lv_has ls 4 [(0, .ref (h 0)), (1, .int x0), (2, .int x1), (3, .int x2)] := hl
  obtain ⟨H, hH⟩ : ∃ z : Heap, z = s.heap := ⟨_, rfl⟩
  obtain ⟨locs, hlo⟩ : ∃ z : List Loc, z = [] := ⟨_, rfl⟩
  have hP : va_P D vwCl (sgw 52 h (eX ca h) f0X L0 Q0) H := by rw [hH]; exact hP
  have hS : va_S (sgA 52 h s.heap.size) s.heap H locs := by rw [hH, hlo]; exact hS
  suffices hgo : W p l e ({ frames := 1, cells := 0, slots := 0, locals := 21 }) s m ([.ref (h 0), .int x0, .int x1, .int x2] : List Value).toArray below meth cd H locs 0 0 Qz (F0 m 0 ls []) by rw [hH, hlo] at hgo; exact hgo
  refine lv_aload_n hx hb dX11_loss_0 rfl (lv_at hl 0 rfl) ?_
  refine sg_get (ci := 11) (v := .ref (h 1)) (C := RX11) (T := TX11) (N := 10) hx hb hts (fun w h => List.mem_cons_of_mem _ (gx_11 w h)) hown hK hP 0 (by decide) rfl rfl 0 (by decide) (hts _ (List.mem_cons_of_mem _ mw_10)) (fun _ h9 => h9) rfl dX11_loss_1 ?_
  refine lv_iload_n hx hb dX11_loss_4 rfl (lv_at hl 1 rfl) ?_
  refine sg_calli (va_runV (As := [.int x0]) (rest := []) ⟨hx, hb, hml, hown, hts⟩ (cf_X0_has l D ca za h hh f0X L0 Q0 x0 rfl H.size) (cwV 1 hts (gw_V (fun _ h => List.mem_cons_of_mem _ h) mw_12 mw_13 mw_14 mw_15 mw_11) rfl rfl rfl (by decide +kernel) ⟨Nat.le_of_ble_eq_true rfl, Nat.le_of_ble_eq_true rfl⟩) (sg_preV (ci := 0) (C := RX0) (T := TX0) (N := 5) hA hK hP hS hZ 1 (by decide) rfl rfl) rfl rfl hl.1 rfl (lv_room (Nat.le_of_ble_eq_true rfl)) dX11_loss_5 ⟨Nat.le_refl _, Nat.le_refl _⟩) hA hS (fun r_4 f_1 L_2 Q_3 H locs hq hP hS => ?_)
  obtain ⟨⟨ef9, eL9, eQ9⟩, hq⟩ := hq
  rw [ef9, eL9, eQ9] at hP; clear ef9 eL9 eQ9
  obtain ⟨rfl, hq⟩ := hq
  have q_5 := hq
  refine lv_if_eq (tgt := 25) hx hb dX11_loss_8 (by decide) (fun c => ?_) (fun c => absurd c (by decide))
  refine lv_iconst (v := (-1)) hx hb dX11_loss_25 (by decide) ?_
  exact hret _ _ _ _ (-1) f0X L0 Q0 dX11_loss_26 hP hS ⟨trivial, ⟨rfl, trivial⟩⟩

set_option maxHeartbeats 4000000 in
set_option maxRecDepth 100000 in
theorem cf_X11_never (l : Launch) (D : va_G) (ca : Nat → ClassId) (za h : Nat → Nat) (hh : sgH 52 h) (x0 : Int32) (x1 : Int32) (x2 : Int32) (sz : Nat) : Met l yX11_never gwX11_never { frames := 2, cells := 0, slots := 0, locals := 43 } (sgP D vwCl (tyX ca) 52 h (eX ca h) zcX za f0X L0 Q0 sz [.ref (h 0), .int x0, .int x1, .int x2]) (sgQi D vwCl 52 h (eX ca h) sz (fun r f1 L1 Q1 => True ∧ ((r = (-11) ∧ ((0 ≤ x0.toInt ∧ x0.toInt ≤ 5) ∧ (0 ≤ x1.toInt ∧ x1.toInt ≤ 2) ∧ (0 ≤ x2.toInt ∧ x2.toInt ≤ 60))) ∨ (r = (-1) ∧ (¬ ((0 ≤ x0.toInt ∧ x0.toInt ≤ 5) ∧ (0 ≤ x1.toInt ∧ x1.toInt ≤ 2) ∧ (0 ≤ x2.toInt ∧ x2.toInt ≤ 60))))))) 0 0 (sgA 52 h sz) := by
  refine sg_ofWi (cc := cX11_never) (maxL := 5) RX11 (by decide) rfl rfl (Nat.le_of_ble_eq_true rfl) ?_
  intro p e s m below meth cd Qz ls hx hb hml hown hts hK hZ hP hS hl hret
  have hA := sgY.self (n := 52) (h := h) (sz := s.heap.size)
  have hl : lv_has ls 5 [(0, .ref (h 0)), (1, .int x0), (2, .int x1), (3, .int x2)] := hl
  obtain ⟨H, hH⟩ : ∃ z : Heap, z = s.heap := ⟨_, rfl⟩
  obtain ⟨locs, hlo⟩ : ∃ z : List Loc, z = [] := ⟨_, rfl⟩
  have hP : va_P D vwCl (sgw 52 h (eX ca h) f0X L0 Q0) H := by rw [hH]; exact hP
  have hS : va_S (sgA 52 h s.heap.size) s.heap H locs := by rw [hH, hlo]; exact hS
  suffices hgo : W p l e ({ frames := 2, cells := 0, slots := 0, locals := 43 }) s m ([.ref (h 0), .int x0, .int x1, .int x2] : List Value).toArray below meth cd H locs 0 0 Qz (F0 m 0 ls []) by rw [hH, hlo] at hgo; exact hgo
  refine lv_iload_n hx hb dX11_never_0 rfl (lv_at hl 1 rfl) ?_
  refine sg_calli (va_runS (As := [.int x0]) (rest := []) ⟨hx, hb, hml, hown, hts⟩ (cf_X11_isShelf l D ca za h hh f0X L0 Q0 x0 H.size) (va_cwS 1 hts (gw_S (fun _ h => List.mem_cons_of_mem _ h) mw_17 mw_18 mw_9 mw_16) rfl rfl rfl (by decide +kernel) ⟨Nat.le_of_ble_eq_true rfl, Nat.le_of_ble_eq_true rfl⟩) (sg_preS hA hK hP hS hZ) rfl rfl hl.1 rfl (lv_room (Nat.le_of_ble_eq_true rfl)) dX11_never_1 ⟨Nat.le_refl _, Nat.le_refl _⟩) hA hS (fun r_4 f_1 L_2 Q_3 H locs hq hP hS => ?_)
  obtain ⟨⟨ef9, eL9, eQ9⟩, hq⟩ := hq
  rw [ef9, eL9, eQ9] at hP; clear ef9 eL9 eQ9
  rcases hq with ⟨rfl, hq⟩ | ⟨rfl, hq⟩
  · skip
    have q_5 := hq
    refine lv_if_eq (tgt := 21) hx hb dX11_never_4 (by decide) (fun c => absurd c (by decide)) (fun c => ?_)
    refine lv_iload_n hx hb dX11_never_7 rfl (lv_at hl 2 rfl) ?_
    refine sg_calli (va_runS (As := [.int x1]) (rest := []) ⟨hx, hb, hml, hown, hts⟩ (cf_X11_isPart l D ca za h hh f0X L0 Q0 x1 H.size) (va_cwS 1 hts (gw_S (fun _ h => List.mem_cons_of_mem _ h) mw_20 mw_21 mw_9 mw_19) rfl rfl rfl (by decide +kernel) ⟨Nat.le_of_ble_eq_true rfl, Nat.le_of_ble_eq_true rfl⟩) (sg_preS hA hK hP hS hZ) rfl rfl hl.1 rfl (lv_room (Nat.le_of_ble_eq_true rfl)) dX11_never_8 ⟨Nat.le_refl _, Nat.le_refl _⟩) hA hS (fun r_9 f_6 L_7 Q_8 H locs hq hP hS => ?_)
    obtain ⟨⟨ef9, eL9, eQ9⟩, hq⟩ := hq
    rw [ef9, eL9, eQ9] at hP; clear ef9 eL9 eQ9
    rcases hq with ⟨rfl, hq⟩ | ⟨rfl, hq⟩
    · skip
      have q_10 := hq
      refine lv_if_eq (tgt := 21) hx hb dX11_never_11 (by decide) (fun c => absurd c (by decide)) (fun c => ?_)
      refine lv_iload_n hx hb dX11_never_14 rfl (lv_at hl 3 rfl) ?_
      refine sg_calli (va_runS (As := [.int x2]) (rest := []) ⟨hx, hb, hml, hown, hts⟩ (cf_X11_isSetting l D ca za h hh f0X L0 Q0 x2 H.size) (va_cwS 1 hts (gw_S (fun _ h => List.mem_cons_of_mem _ h) mw_23 mw_24 mw_9 mw_22) rfl rfl rfl (by decide +kernel) ⟨Nat.le_of_ble_eq_true rfl, Nat.le_of_ble_eq_true rfl⟩) (sg_preS hA hK hP hS hZ) rfl rfl hl.1 rfl (lv_room (Nat.le_of_ble_eq_true rfl)) dX11_never_15 ⟨Nat.le_refl _, Nat.le_refl _⟩) hA hS (fun r_14 f_11 L_12 Q_13 H locs hq hP hS => ?_)
      obtain ⟨⟨ef9, eL9, eQ9⟩, hq⟩ := hq
      rw [ef9, eL9, eQ9] at hP; clear ef9 eL9 eQ9
      rcases hq with ⟨rfl, hq⟩ | ⟨rfl, hq⟩
      · skip
        have q_15 := hq
        refine lv_if_ne (tgt := 23) hx hb dX11_never_18 (by decide) (fun c => ?_) (fun c => absurd c (by decide))
        refine lv_aload_n hx hb dX11_never_23 rfl (lv_at hl 0 rfl) ?_
        refine lv_iload_n hx hb dX11_never_24 rfl (lv_at hl 1 rfl) ?_
        refine sg_calli (va_runV (As := [.int x0]) (rest := []) ⟨hx, hb, hml, hown, hts⟩ (cf_X11_readWeek l D ca za h hh x0 (by first | omega | decide) H.size) (cwV 1 hts (gw_V (fun _ h => List.mem_cons_of_mem _ h) mw_26 mw_27 mw_28 mw_9 mw_25) rfl rfl rfl (by decide +kernel) ⟨Nat.le_of_ble_eq_true rfl, Nat.le_of_ble_eq_true rfl⟩) (sg_preV (ci := 11) (C := RX11) (T := TX11) (N := 10) hA hK hP hS hZ 0 (by decide) rfl rfl) rfl rfl hl.1 rfl (lv_room (Nat.le_of_ble_eq_true rfl)) dX11_never_25 ⟨Nat.le_refl _, Nat.le_refl _⟩) hA hS (fun r_19 f_16 L_17 Q_18 H locs hq hP hS => ?_)
        obtain ⟨⟨ef9, eL9, eQ9⟩, hq⟩ := hq
        rw [ef9, eL9, eQ9] at hP; clear ef9 eL9 eQ9
        obtain ⟨rfl, hq⟩ := hq
        have q_20 := hq
        refine lv_istore (lv' := [(4, .int (-11)), (0, .ref (h 0)), (1, .int x0), (2, .int x1), (3, .int x2)]) hx hb dX11_never_28 hl (by decide) rfl (fun ls hl => ?_)
        refine lv_iload hx hb dX11_never_30 (lv_at hl 0 rfl) ?_
        refine lv_if_eq (tgt := 40) hx hb dX11_never_32 (by decide) (fun c => absurd c (by decide)) (fun c => ?_)
        refine lv_iload hx hb dX11_never_35 (lv_at hl 0 rfl) ?_
        refine lv_goto (tgt := 49) hx hb dX11_never_37 (by decide) ?_
        exact hret _ _ _ _ (-11) f0X L0 Q0 dX11_never_49 hP hS ⟨trivial, Or.inl ⟨rfl, by omega⟩⟩
      · skip
        have q_21 := hq
        refine lv_if_ne (tgt := 23) hx hb dX11_never_18 (by decide) (fun c => absurd c (by decide)) (fun c => ?_)
        refine lv_iconst (v := (-1)) hx hb dX11_never_21 (by decide) ?_
        exact hret _ _ _ _ (-1) f0X L0 Q0 dX11_never_22 hP hS ⟨trivial, Or.inr (⟨rfl, by omega⟩)⟩
    · skip
      have q_22 := hq
      refine lv_if_eq (tgt := 21) hx hb dX11_never_11 (by decide) (fun c => ?_) (fun c => absurd c (by decide))
      refine lv_iconst (v := (-1)) hx hb dX11_never_21 (by decide) ?_
      exact hret _ _ _ _ (-1) f0X L0 Q0 dX11_never_22 hP hS ⟨trivial, Or.inr (⟨rfl, by omega⟩)⟩
  · skip
    have q_23 := hq
    refine lv_if_eq (tgt := 21) hx hb dX11_never_4 (by decide) (fun c => ?_) (fun c => absurd c (by decide))
    refine lv_iconst (v := (-1)) hx hb dX11_never_21 (by decide) ?_
    exact hret _ _ _ _ (-1) f0X L0 Q0 dX11_never_22 hP hS ⟨trivial, Or.inr (⟨rfl, by omega⟩)⟩

set_option maxHeartbeats 4000000 in
set_option maxRecDepth 100000 in
theorem cf_X11_best (l : Launch) (D : va_G) (ca : Nat → ClassId) (za h : Nat → Nat) (hh : sgH 52 h) (x0 : Int32) (x1 : Int32) (x2 : Int32) (sz : Nat) : Met l yX11_best gwX11_best { frames := 2, cells := 0, slots := 0, locals := 43 } (sgP D vwCl (tyX ca) 52 h (eX ca h) zcX za f0X L0 Q0 sz [.ref (h 0), .int x0, .int x1, .int x2]) (sgQi D vwCl 52 h (eX ca h) sz (fun r f1 L1 Q1 => True ∧ ((r = (-11) ∧ ((0 ≤ x0.toInt ∧ x0.toInt ≤ 5) ∧ (0 ≤ x1.toInt ∧ x1.toInt ≤ 2) ∧ (0 ≤ x2.toInt ∧ x2.toInt ≤ 3))) ∨ (r = (-1) ∧ (¬ ((0 ≤ x0.toInt ∧ x0.toInt ≤ 5) ∧ (0 ≤ x1.toInt ∧ x1.toInt ≤ 2) ∧ (0 ≤ x2.toInt ∧ x2.toInt ≤ 3))))))) 0 0 (sgA 52 h sz) := by
  refine sg_ofWi (cc := cX11_best) (maxL := 5) RX11 (by decide) rfl rfl (Nat.le_of_ble_eq_true rfl) ?_
  intro p e s m below meth cd Qz ls hx hb hml hown hts hK hZ hP hS hl hret
  have hA := sgY.self (n := 52) (h := h) (sz := s.heap.size)
  have hl : lv_has ls 5 [(0, .ref (h 0)), (1, .int x0), (2, .int x1), (3, .int x2)] := hl
  obtain ⟨H, hH⟩ : ∃ z : Heap, z = s.heap := ⟨_, rfl⟩
  obtain ⟨locs, hlo⟩ : ∃ z : List Loc, z = [] := ⟨_, rfl⟩
  have hP : va_P D vwCl (sgw 52 h (eX ca h) f0X L0 Q0) H := by rw [hH]; exact hP
  have hS : va_S (sgA 52 h s.heap.size) s.heap H locs := by rw [hH, hlo]; exact hS
  suffices hgo : W p l e ({ frames := 2, cells := 0, slots := 0, locals := 43 }) s m ([.ref (h 0), .int x0, .int x1, .int x2] : List Value).toArray below meth cd H locs 0 0 Qz (F0 m 0 ls []) by rw [hH, hlo] at hgo; exact hgo
  refine lv_iload_n hx hb dX11_best_0 rfl (lv_at hl 1 rfl) ?_
  refine sg_calli (va_runS (As := [.int x0]) (rest := []) ⟨hx, hb, hml, hown, hts⟩ (cf_X11_isShelf l D ca za h hh f0X L0 Q0 x0 H.size) (va_cwS 1 hts (gw_S (fun _ h => List.mem_cons_of_mem _ h) mw_17 mw_18 mw_9 mw_16) rfl rfl rfl (by decide +kernel) ⟨Nat.le_of_ble_eq_true rfl, Nat.le_of_ble_eq_true rfl⟩) (sg_preS hA hK hP hS hZ) rfl rfl hl.1 rfl (lv_room (Nat.le_of_ble_eq_true rfl)) dX11_best_1 ⟨Nat.le_refl _, Nat.le_refl _⟩) hA hS (fun r_4 f_1 L_2 Q_3 H locs hq hP hS => ?_)
  obtain ⟨⟨ef9, eL9, eQ9⟩, hq⟩ := hq
  rw [ef9, eL9, eQ9] at hP; clear ef9 eL9 eQ9
  rcases hq with ⟨rfl, hq⟩ | ⟨rfl, hq⟩
  · skip
    have q_5 := hq
    refine lv_if_eq (tgt := 23) hx hb dX11_best_4 (by decide) (fun c => absurd c (by decide)) (fun c => ?_)
    refine lv_iload_n hx hb dX11_best_7 rfl (lv_at hl 2 rfl) ?_
    refine sg_calli (va_runS (As := [.int x1]) (rest := []) ⟨hx, hb, hml, hown, hts⟩ (cf_X11_isPart l D ca za h hh f0X L0 Q0 x1 H.size) (va_cwS 1 hts (gw_S (fun _ h => List.mem_cons_of_mem _ h) mw_20 mw_21 mw_9 mw_19) rfl rfl rfl (by decide +kernel) ⟨Nat.le_of_ble_eq_true rfl, Nat.le_of_ble_eq_true rfl⟩) (sg_preS hA hK hP hS hZ) rfl rfl hl.1 rfl (lv_room (Nat.le_of_ble_eq_true rfl)) dX11_best_8 ⟨Nat.le_refl _, Nat.le_refl _⟩) hA hS (fun r_9 f_6 L_7 Q_8 H locs hq hP hS => ?_)
    obtain ⟨⟨ef9, eL9, eQ9⟩, hq⟩ := hq
    rw [ef9, eL9, eQ9] at hP; clear ef9 eL9 eQ9
    rcases hq with ⟨rfl, hq⟩ | ⟨rfl, hq⟩
    · skip
      have q_10 := hq
      refine lv_if_eq (tgt := 23) hx hb dX11_best_11 (by decide) (fun c => absurd c (by decide)) (fun c => ?_)
      refine lv_iload_n hx hb dX11_best_14 rfl (lv_at hl 3 rfl) ?_
      refine lv_if_lt (tgt := 23) hx hb dX11_best_15 (by decide) (fun c => ?_) (fun c => ?_)
      · skip
        have c_11 : x2.toInt < 0 := (by have z := bn_lt c; have k1 : (0 : Int32).toInt = 0 := (by decide); omega)
        refine lv_iconst (v := (-1)) hx hb dX11_best_23 (by decide) ?_
        exact hret _ _ _ _ (-1) f0X L0 Q0 dX11_best_24 hP hS ⟨trivial, Or.inr (⟨rfl, by omega⟩)⟩
      · skip
        have c_12 : 0 ≤ x2.toInt := (by have z := bn_nlt c; have k1 : (0 : Int32).toInt = 0 := (by decide); omega)
        refine lv_iload_n hx hb dX11_best_18 rfl (lv_at hl 3 rfl) ?_
        refine lv_iconst (v := 3) hx hb dX11_best_19 (by decide) ?_
        refine lv_icmp_le (tgt := 25) hx hb dX11_best_20 (by decide) (fun c => ?_) (fun c => ?_)
        · skip
          have c_13 : x2.toInt ≤ 3 := (by have z := bn_le c; have k1 : (3 : Int32).toInt = 3 := (by decide); omega)
          refine lv_aload_n hx hb dX11_best_25 rfl (lv_at hl 0 rfl) ?_
          refine lv_iload_n hx hb dX11_best_26 rfl (lv_at hl 1 rfl) ?_
          refine sg_calli (va_runV (As := [.int x0]) (rest := []) ⟨hx, hb, hml, hown, hts⟩ (cf_X11_readWeek l D ca za h hh x0 (by first | omega | decide) H.size) (cwV 1 hts (gw_V (fun _ h => List.mem_cons_of_mem _ h) mw_26 mw_27 mw_28 mw_9 mw_25) rfl rfl rfl (by decide +kernel) ⟨Nat.le_of_ble_eq_true rfl, Nat.le_of_ble_eq_true rfl⟩) (sg_preV (ci := 11) (C := RX11) (T := TX11) (N := 10) hA hK hP hS hZ 0 (by decide) rfl rfl) rfl rfl hl.1 rfl (lv_room (Nat.le_of_ble_eq_true rfl)) dX11_best_27 ⟨Nat.le_refl _, Nat.le_refl _⟩) hA hS (fun r_18 f_15 L_16 Q_17 H locs hq hP hS => ?_)
          obtain ⟨⟨ef9, eL9, eQ9⟩, hq⟩ := hq
          rw [ef9, eL9, eQ9] at hP; clear ef9 eL9 eQ9
          obtain ⟨rfl, hq⟩ := hq
          have q_19 := hq
          refine lv_istore (lv' := [(4, .int (-11)), (0, .ref (h 0)), (1, .int x0), (2, .int x1), (3, .int x2)]) hx hb dX11_best_30 hl (by decide) rfl (fun ls hl => ?_)
          refine lv_iload hx hb dX11_best_32 (lv_at hl 0 rfl) ?_
          refine lv_if_eq (tgt := 40) hx hb dX11_best_34 (by decide) (fun c => absurd c (by decide)) (fun c => ?_)
          refine lv_iload hx hb dX11_best_37 (lv_at hl 0 rfl) ?_
          exact hret _ _ _ _ (-11) f0X L0 Q0 dX11_best_39 hP hS ⟨trivial, Or.inl ⟨rfl, by omega⟩⟩
        · skip
          have c_14 : 3 < x2.toInt := (by have z := bn_nle c; have k1 : (3 : Int32).toInt = 3 := (by decide); omega)
          refine lv_iconst (v := (-1)) hx hb dX11_best_23 (by decide) ?_
          exact hret _ _ _ _ (-1) f0X L0 Q0 dX11_best_24 hP hS ⟨trivial, Or.inr (⟨rfl, by omega⟩)⟩
    · skip
      have q_20 := hq
      refine lv_if_eq (tgt := 23) hx hb dX11_best_11 (by decide) (fun c => ?_) (fun c => absurd c (by decide))
      refine lv_iconst (v := (-1)) hx hb dX11_best_23 (by decide) ?_
      exact hret _ _ _ _ (-1) f0X L0 Q0 dX11_best_24 hP hS ⟨trivial, Or.inr (⟨rfl, by omega⟩)⟩
  · skip
    have q_21 := hq
    refine lv_if_eq (tgt := 23) hx hb dX11_best_4 (by decide) (fun c => ?_) (fun c => absurd c (by decide))
    refine lv_iconst (v := (-1)) hx hb dX11_best_23 (by decide) ?_
    exact hret _ _ _ _ (-1) f0X L0 Q0 dX11_best_24 hP hS ⟨trivial, Or.inr (⟨rfl, by omega⟩)⟩

set_option maxHeartbeats 4000000 in
set_option maxRecDepth 100000 in
theorem cf_X11_middle (l : Launch) (D : va_G) (ca : Nat → ClassId) (za h : Nat → Nat) (hh : sgH 52 h) (x0 : Int32) (x1 : Int32) (sz : Nat) : Met l yX11_middle gwX11_middle { frames := 2, cells := 0, slots := 0, locals := 43 } (sgP D vwCl (tyX ca) 52 h (eX ca h) zcX za f0X L0 Q0 sz [.ref (h 0), .int x0, .int x1]) (sgQi D vwCl 52 h (eX ca h) sz (fun r f1 L1 Q1 => True ∧ ((r = (-11) ∧ ((0 ≤ x0.toInt ∧ x0.toInt ≤ 5) ∧ (0 ≤ x1.toInt ∧ x1.toInt ≤ 2))) ∨ (r = (-1) ∧ (¬ ((0 ≤ x0.toInt ∧ x0.toInt ≤ 5) ∧ (0 ≤ x1.toInt ∧ x1.toInt ≤ 2))))))) 0 0 (sgA 52 h sz) := by
  refine sg_ofWi (cc := cX11_middle) (maxL := 4) RX11 (by decide) rfl rfl (Nat.le_of_ble_eq_true rfl) ?_
  intro p e s m below meth cd Qz ls hx hb hml hown hts hK hZ hP hS hl hret
  have hA := sgY.self (n := 52) (h := h) (sz := s.heap.size)
  have hl : lv_has ls 4 [(0, .ref (h 0)), (1, .int x0), (2, .int x1)] := hl
  obtain ⟨H, hH⟩ : ∃ z : Heap, z = s.heap := ⟨_, rfl⟩
  obtain ⟨locs, hlo⟩ : ∃ z : List Loc, z = [] := ⟨_, rfl⟩
  have hP : va_P D vwCl (sgw 52 h (eX ca h) f0X L0 Q0) H := by rw [hH]; exact hP
  have hS : va_S (sgA 52 h s.heap.size) s.heap H locs := by rw [hH, hlo]; exact hS
  suffices hgo : W p l e ({ frames := 2, cells := 0, slots := 0, locals := 43 }) s m ([.ref (h 0), .int x0, .int x1] : List Value).toArray below meth cd H locs 0 0 Qz (F0 m 0 ls []) by rw [hH, hlo] at hgo; exact hgo
  refine lv_iload_n hx hb dX11_middle_0 rfl (lv_at hl 1 rfl) ?_
  refine sg_calli (va_runS (As := [.int x0]) (rest := []) ⟨hx, hb, hml, hown, hts⟩ (cf_X11_isShelf l D ca za h hh f0X L0 Q0 x0 H.size) (va_cwS 1 hts (gw_S (fun _ h => List.mem_cons_of_mem _ h) mw_17 mw_18 mw_9 mw_16) rfl rfl rfl (by decide +kernel) ⟨Nat.le_of_ble_eq_true rfl, Nat.le_of_ble_eq_true rfl⟩) (sg_preS hA hK hP hS hZ) rfl rfl hl.1 rfl (lv_room (Nat.le_of_ble_eq_true rfl)) dX11_middle_1 ⟨Nat.le_refl _, Nat.le_refl _⟩) hA hS (fun r_4 f_1 L_2 Q_3 H locs hq hP hS => ?_)
  obtain ⟨⟨ef9, eL9, eQ9⟩, hq⟩ := hq
  rw [ef9, eL9, eQ9] at hP; clear ef9 eL9 eQ9
  rcases hq with ⟨rfl, hq⟩ | ⟨rfl, hq⟩
  · skip
    have q_5 := hq
    refine lv_if_eq (tgt := 14) hx hb dX11_middle_4 (by decide) (fun c => absurd c (by decide)) (fun c => ?_)
    refine lv_iload_n hx hb dX11_middle_7 rfl (lv_at hl 2 rfl) ?_
    refine sg_calli (va_runS (As := [.int x1]) (rest := []) ⟨hx, hb, hml, hown, hts⟩ (cf_X11_isPart l D ca za h hh f0X L0 Q0 x1 H.size) (va_cwS 1 hts (gw_S (fun _ h => List.mem_cons_of_mem _ h) mw_20 mw_21 mw_9 mw_19) rfl rfl rfl (by decide +kernel) ⟨Nat.le_of_ble_eq_true rfl, Nat.le_of_ble_eq_true rfl⟩) (sg_preS hA hK hP hS hZ) rfl rfl hl.1 rfl (lv_room (Nat.le_of_ble_eq_true rfl)) dX11_middle_8 ⟨Nat.le_refl _, Nat.le_refl _⟩) hA hS (fun r_9 f_6 L_7 Q_8 H locs hq hP hS => ?_)
    obtain ⟨⟨ef9, eL9, eQ9⟩, hq⟩ := hq
    rw [ef9, eL9, eQ9] at hP; clear ef9 eL9 eQ9
    rcases hq with ⟨rfl, hq⟩ | ⟨rfl, hq⟩
    · skip
      have q_10 := hq
      refine lv_if_ne (tgt := 16) hx hb dX11_middle_11 (by decide) (fun c => ?_) (fun c => absurd c (by decide))
      refine lv_aload_n hx hb dX11_middle_16 rfl (lv_at hl 0 rfl) ?_
      refine lv_iload_n hx hb dX11_middle_17 rfl (lv_at hl 1 rfl) ?_
      refine sg_calli (va_runV (As := [.int x0]) (rest := []) ⟨hx, hb, hml, hown, hts⟩ (cf_X11_readWeek l D ca za h hh x0 (by first | omega | decide) H.size) (cwV 1 hts (gw_V (fun _ h => List.mem_cons_of_mem _ h) mw_26 mw_27 mw_28 mw_9 mw_25) rfl rfl rfl (by decide +kernel) ⟨Nat.le_of_ble_eq_true rfl, Nat.le_of_ble_eq_true rfl⟩) (sg_preV (ci := 11) (C := RX11) (T := TX11) (N := 10) hA hK hP hS hZ 0 (by decide) rfl rfl) rfl rfl hl.1 rfl (lv_room (Nat.le_of_ble_eq_true rfl)) dX11_middle_18 ⟨Nat.le_refl _, Nat.le_refl _⟩) hA hS (fun r_14 f_11 L_12 Q_13 H locs hq hP hS => ?_)
      obtain ⟨⟨ef9, eL9, eQ9⟩, hq⟩ := hq
      rw [ef9, eL9, eQ9] at hP; clear ef9 eL9 eQ9
      obtain ⟨rfl, hq⟩ := hq
      have q_15 := hq
      refine lv_istore_n (lv' := [(3, .int (-11)), (0, .ref (h 0)), (1, .int x0), (2, .int x1)]) hx hb dX11_middle_21 rfl hl (by decide) rfl (fun ls hl => ?_)
      refine lv_iload_n hx hb dX11_middle_22 rfl (lv_at hl 0 rfl) ?_
      refine lv_if_eq (tgt := 28) hx hb dX11_middle_23 (by decide) (fun c => absurd c (by decide)) (fun c => ?_)
      refine lv_iload_n hx hb dX11_middle_26 rfl (lv_at hl 0 rfl) ?_
      exact hret _ _ _ _ (-11) f0X L0 Q0 dX11_middle_27 hP hS ⟨trivial, Or.inl ⟨rfl, by omega⟩⟩
    · skip
      have q_16 := hq
      refine lv_if_ne (tgt := 16) hx hb dX11_middle_11 (by decide) (fun c => absurd c (by decide)) (fun c => ?_)
      refine lv_iconst (v := (-1)) hx hb dX11_middle_14 (by decide) ?_
      exact hret _ _ _ _ (-1) f0X L0 Q0 dX11_middle_15 hP hS ⟨trivial, Or.inr (⟨rfl, by omega⟩)⟩
  · skip
    have q_17 := hq
    refine lv_if_eq (tgt := 14) hx hb dX11_middle_4 (by decide) (fun c => ?_) (fun c => absurd c (by decide))
    refine lv_iconst (v := (-1)) hx hb dX11_middle_14 (by decide) ?_
    exact hret _ _ _ _ (-1) f0X L0 Q0 dX11_middle_15 hP hS ⟨trivial, Or.inr (⟨rfl, by omega⟩)⟩

set_option maxHeartbeats 4000000 in
set_option maxRecDepth 100000 in
theorem cf_X11_shifts (l : Launch) (D : va_G) (ca : Nat → ClassId) (za h : Nat → Nat) (hh : sgH 52 h) (x0 : Int32) (x1 : Int32) (x2 : Int32) (sz : Nat) : Met l yX11_shifts gwX11_shifts { frames := 2, cells := 0, slots := 0, locals := 43 } (sgP D vwCl (tyX ca) 52 h (eX ca h) zcX za f0X L0 Q0 sz [.ref (h 0), .int x0, .int x1, .int x2]) (sgQi D vwCl 52 h (eX ca h) sz (fun r f1 L1 Q1 => True ∧ ((r = (-11) ∧ ((0 ≤ x0.toInt ∧ x0.toInt ≤ 5) ∧ (0 ≤ x1.toInt ∧ x1.toInt ≤ 2) ∧ -1 ≤ x2.toInt)) ∨ (r = (-1) ∧ (¬ ((0 ≤ x0.toInt ∧ x0.toInt ≤ 5) ∧ (0 ≤ x1.toInt ∧ x1.toInt ≤ 2) ∧ -1 ≤ x2.toInt)))))) 0 0 (sgA 52 h sz) := by
  refine sg_ofWi (cc := cX11_shifts) (maxL := 5) RX11 (by decide) rfl rfl (Nat.le_of_ble_eq_true rfl) ?_
  intro p e s m below meth cd Qz ls hx hb hml hown hts hK hZ hP hS hl hret
  have hA := sgY.self (n := 52) (h := h) (sz := s.heap.size)
  have hl : lv_has ls 5 [(0, .ref (h 0)), (1, .int x0), (2, .int x1), (3, .int x2)] := hl
  obtain ⟨H, hH⟩ : ∃ z : Heap, z = s.heap := ⟨_, rfl⟩
  obtain ⟨locs, hlo⟩ : ∃ z : List Loc, z = [] := ⟨_, rfl⟩
  have hP : va_P D vwCl (sgw 52 h (eX ca h) f0X L0 Q0) H := by rw [hH]; exact hP
  have hS : va_S (sgA 52 h s.heap.size) s.heap H locs := by rw [hH, hlo]; exact hS
  suffices hgo : W p l e ({ frames := 2, cells := 0, slots := 0, locals := 43 }) s m ([.ref (h 0), .int x0, .int x1, .int x2] : List Value).toArray below meth cd H locs 0 0 Qz (F0 m 0 ls []) by rw [hH, hlo] at hgo; exact hgo
  refine lv_iload_n hx hb dX11_shifts_0 rfl (lv_at hl 1 rfl) ?_
  refine sg_calli (va_runS (As := [.int x0]) (rest := []) ⟨hx, hb, hml, hown, hts⟩ (cf_X11_isShelf l D ca za h hh f0X L0 Q0 x0 H.size) (va_cwS 1 hts (gw_S (fun _ h => List.mem_cons_of_mem _ h) mw_17 mw_18 mw_9 mw_16) rfl rfl rfl (by decide +kernel) ⟨Nat.le_of_ble_eq_true rfl, Nat.le_of_ble_eq_true rfl⟩) (sg_preS hA hK hP hS hZ) rfl rfl hl.1 rfl (lv_room (Nat.le_of_ble_eq_true rfl)) dX11_shifts_1 ⟨Nat.le_refl _, Nat.le_refl _⟩) hA hS (fun r_4 f_1 L_2 Q_3 H locs hq hP hS => ?_)
  obtain ⟨⟨ef9, eL9, eQ9⟩, hq⟩ := hq
  rw [ef9, eL9, eQ9] at hP; clear ef9 eL9 eQ9
  rcases hq with ⟨rfl, hq⟩ | ⟨rfl, hq⟩
  · skip
    have q_5 := hq
    refine lv_if_eq (tgt := 19) hx hb dX11_shifts_4 (by decide) (fun c => absurd c (by decide)) (fun c => ?_)
    refine lv_iload_n hx hb dX11_shifts_7 rfl (lv_at hl 2 rfl) ?_
    refine sg_calli (va_runS (As := [.int x1]) (rest := []) ⟨hx, hb, hml, hown, hts⟩ (cf_X11_isPart l D ca za h hh f0X L0 Q0 x1 H.size) (va_cwS 1 hts (gw_S (fun _ h => List.mem_cons_of_mem _ h) mw_20 mw_21 mw_9 mw_19) rfl rfl rfl (by decide +kernel) ⟨Nat.le_of_ble_eq_true rfl, Nat.le_of_ble_eq_true rfl⟩) (sg_preS hA hK hP hS hZ) rfl rfl hl.1 rfl (lv_room (Nat.le_of_ble_eq_true rfl)) dX11_shifts_8 ⟨Nat.le_refl _, Nat.le_refl _⟩) hA hS (fun r_9 f_6 L_7 Q_8 H locs hq hP hS => ?_)
    obtain ⟨⟨ef9, eL9, eQ9⟩, hq⟩ := hq
    rw [ef9, eL9, eQ9] at hP; clear ef9 eL9 eQ9
    rcases hq with ⟨rfl, hq⟩ | ⟨rfl, hq⟩
    · skip
      have q_10 := hq
      refine lv_if_eq (tgt := 19) hx hb dX11_shifts_11 (by decide) (fun c => absurd c (by decide)) (fun c => ?_)
      refine lv_iload_n hx hb dX11_shifts_14 rfl (lv_at hl 3 rfl) ?_
      refine lv_iconst (v := (-1)) hx hb dX11_shifts_15 (by decide) ?_
      refine lv_icmp_ge (tgt := 21) hx hb dX11_shifts_16 (by decide) (fun c => ?_) (fun c => ?_)
      · skip
        have c_11 : (-1) ≤ x2.toInt := (by have z := bn_le c; have k1 : ((-1) : Int32).toInt = (-1) := (by decide); omega)
        refine lv_aload_n hx hb dX11_shifts_21 rfl (lv_at hl 0 rfl) ?_
        refine lv_iload_n hx hb dX11_shifts_22 rfl (lv_at hl 1 rfl) ?_
        refine sg_calli (va_runV (As := [.int x0]) (rest := []) ⟨hx, hb, hml, hown, hts⟩ (cf_X11_readWeek l D ca za h hh x0 (by first | omega | decide) H.size) (cwV 1 hts (gw_V (fun _ h => List.mem_cons_of_mem _ h) mw_26 mw_27 mw_28 mw_9 mw_25) rfl rfl rfl (by decide +kernel) ⟨Nat.le_of_ble_eq_true rfl, Nat.le_of_ble_eq_true rfl⟩) (sg_preV (ci := 11) (C := RX11) (T := TX11) (N := 10) hA hK hP hS hZ 0 (by decide) rfl rfl) rfl rfl hl.1 rfl (lv_room (Nat.le_of_ble_eq_true rfl)) dX11_shifts_23 ⟨Nat.le_refl _, Nat.le_refl _⟩) hA hS (fun r_16 f_13 L_14 Q_15 H locs hq hP hS => ?_)
        obtain ⟨⟨ef9, eL9, eQ9⟩, hq⟩ := hq
        rw [ef9, eL9, eQ9] at hP; clear ef9 eL9 eQ9
        obtain ⟨rfl, hq⟩ := hq
        have q_17 := hq
        refine lv_istore (lv' := [(4, .int (-11)), (0, .ref (h 0)), (1, .int x0), (2, .int x1), (3, .int x2)]) hx hb dX11_shifts_26 hl (by decide) rfl (fun ls hl => ?_)
        refine lv_iload hx hb dX11_shifts_28 (lv_at hl 0 rfl) ?_
        refine lv_if_eq (tgt := 36) hx hb dX11_shifts_30 (by decide) (fun c => absurd c (by decide)) (fun c => ?_)
        refine lv_iload hx hb dX11_shifts_33 (lv_at hl 0 rfl) ?_
        exact hret _ _ _ _ (-11) f0X L0 Q0 dX11_shifts_35 hP hS ⟨trivial, Or.inl ⟨rfl, by omega⟩⟩
      · skip
        have c_12 : x2.toInt < (-1) := (by have z := bn_nle c; have k1 : ((-1) : Int32).toInt = (-1) := (by decide); omega)
        refine lv_iconst (v := (-1)) hx hb dX11_shifts_19 (by decide) ?_
        exact hret _ _ _ _ (-1) f0X L0 Q0 dX11_shifts_20 hP hS ⟨trivial, Or.inr (⟨rfl, by omega⟩)⟩
    · skip
      have q_18 := hq
      refine lv_if_eq (tgt := 19) hx hb dX11_shifts_11 (by decide) (fun c => ?_) (fun c => absurd c (by decide))
      refine lv_iconst (v := (-1)) hx hb dX11_shifts_19 (by decide) ?_
      exact hret _ _ _ _ (-1) f0X L0 Q0 dX11_shifts_20 hP hS ⟨trivial, Or.inr (⟨rfl, by omega⟩)⟩
  · skip
    have q_19 := hq
    refine lv_if_eq (tgt := 19) hx hb dX11_shifts_4 (by decide) (fun c => ?_) (fun c => absurd c (by decide))
    refine lv_iconst (v := (-1)) hx hb dX11_shifts_19 (by decide) ?_
    exact hret _ _ _ _ (-1) f0X L0 Q0 dX11_shifts_20 hP hS ⟨trivial, Or.inr (⟨rfl, by omega⟩)⟩

set_option maxHeartbeats 4000000 in
set_option maxRecDepth 100000 in
theorem cf_X11_once (l : Launch) (D : va_G) (ca : Nat → ClassId) (za h : Nat → Nat) (hh : sgH 52 h) (x0 : Int32) (x1 : Int32) (x2 : Int32) (sz : Nat) : Met l yX11_once gwX11_once { frames := 2, cells := 0, slots := 0, locals := 43 } (sgP D vwCl (tyX ca) 52 h (eX ca h) zcX za f0X L0 Q0 sz [.ref (h 0), .int x0, .int x1, .int x2]) (sgQi D vwCl 52 h (eX ca h) sz (fun r f1 L1 Q1 => True ∧ ((r = (-11) ∧ ((0 ≤ x0.toInt ∧ x0.toInt ≤ 5) ∧ (0 ≤ x1.toInt ∧ x1.toInt ≤ 2) ∧ (0 ≤ x2.toInt ∧ x2.toInt ≤ 2))) ∨ (r = (-1) ∧ (¬ ((0 ≤ x0.toInt ∧ x0.toInt ≤ 5) ∧ (0 ≤ x1.toInt ∧ x1.toInt ≤ 2) ∧ (0 ≤ x2.toInt ∧ x2.toInt ≤ 2))))))) 0 0 (sgA 52 h sz) := by
  refine sg_ofWi (cc := cX11_once) (maxL := 5) RX11 (by decide) rfl rfl (Nat.le_of_ble_eq_true rfl) ?_
  intro p e s m below meth cd Qz ls hx hb hml hown hts hK hZ hP hS hl hret
  have hA := sgY.self (n := 52) (h := h) (sz := s.heap.size)
  have hl : lv_has ls 5 [(0, .ref (h 0)), (1, .int x0), (2, .int x1), (3, .int x2)] := hl
  obtain ⟨H, hH⟩ : ∃ z : Heap, z = s.heap := ⟨_, rfl⟩
  obtain ⟨locs, hlo⟩ : ∃ z : List Loc, z = [] := ⟨_, rfl⟩
  have hP : va_P D vwCl (sgw 52 h (eX ca h) f0X L0 Q0) H := by rw [hH]; exact hP
  have hS : va_S (sgA 52 h s.heap.size) s.heap H locs := by rw [hH, hlo]; exact hS
  suffices hgo : W p l e ({ frames := 2, cells := 0, slots := 0, locals := 43 }) s m ([.ref (h 0), .int x0, .int x1, .int x2] : List Value).toArray below meth cd H locs 0 0 Qz (F0 m 0 ls []) by rw [hH, hlo] at hgo; exact hgo
  refine lv_iload_n hx hb dX11_once_0 rfl (lv_at hl 1 rfl) ?_
  refine sg_calli (va_runS (As := [.int x0]) (rest := []) ⟨hx, hb, hml, hown, hts⟩ (cf_X11_isShelf l D ca za h hh f0X L0 Q0 x0 H.size) (va_cwS 1 hts (gw_S (fun _ h => List.mem_cons_of_mem _ h) mw_17 mw_18 mw_9 mw_16) rfl rfl rfl (by decide +kernel) ⟨Nat.le_of_ble_eq_true rfl, Nat.le_of_ble_eq_true rfl⟩) (sg_preS hA hK hP hS hZ) rfl rfl hl.1 rfl (lv_room (Nat.le_of_ble_eq_true rfl)) dX11_once_1 ⟨Nat.le_refl _, Nat.le_refl _⟩) hA hS (fun r_4 f_1 L_2 Q_3 H locs hq hP hS => ?_)
  obtain ⟨⟨ef9, eL9, eQ9⟩, hq⟩ := hq
  rw [ef9, eL9, eQ9] at hP; clear ef9 eL9 eQ9
  rcases hq with ⟨rfl, hq⟩ | ⟨rfl, hq⟩
  · skip
    have q_5 := hq
    refine lv_if_eq (tgt := 23) hx hb dX11_once_4 (by decide) (fun c => absurd c (by decide)) (fun c => ?_)
    refine lv_iload_n hx hb dX11_once_7 rfl (lv_at hl 2 rfl) ?_
    refine sg_calli (va_runS (As := [.int x1]) (rest := []) ⟨hx, hb, hml, hown, hts⟩ (cf_X11_isPart l D ca za h hh f0X L0 Q0 x1 H.size) (va_cwS 1 hts (gw_S (fun _ h => List.mem_cons_of_mem _ h) mw_20 mw_21 mw_9 mw_19) rfl rfl rfl (by decide +kernel) ⟨Nat.le_of_ble_eq_true rfl, Nat.le_of_ble_eq_true rfl⟩) (sg_preS hA hK hP hS hZ) rfl rfl hl.1 rfl (lv_room (Nat.le_of_ble_eq_true rfl)) dX11_once_8 ⟨Nat.le_refl _, Nat.le_refl _⟩) hA hS (fun r_9 f_6 L_7 Q_8 H locs hq hP hS => ?_)
    obtain ⟨⟨ef9, eL9, eQ9⟩, hq⟩ := hq
    rw [ef9, eL9, eQ9] at hP; clear ef9 eL9 eQ9
    rcases hq with ⟨rfl, hq⟩ | ⟨rfl, hq⟩
    · skip
      have q_10 := hq
      refine lv_if_eq (tgt := 23) hx hb dX11_once_11 (by decide) (fun c => absurd c (by decide)) (fun c => ?_)
      refine lv_iload_n hx hb dX11_once_14 rfl (lv_at hl 3 rfl) ?_
      refine lv_if_lt (tgt := 23) hx hb dX11_once_15 (by decide) (fun c => ?_) (fun c => ?_)
      · skip
        have c_11 : x2.toInt < 0 := (by have z := bn_lt c; have k1 : (0 : Int32).toInt = 0 := (by decide); omega)
        refine lv_iconst (v := (-1)) hx hb dX11_once_23 (by decide) ?_
        exact hret _ _ _ _ (-1) f0X L0 Q0 dX11_once_24 hP hS ⟨trivial, Or.inr (⟨rfl, by omega⟩)⟩
      · skip
        have c_12 : 0 ≤ x2.toInt := (by have z := bn_nlt c; have k1 : (0 : Int32).toInt = 0 := (by decide); omega)
        refine lv_iload_n hx hb dX11_once_18 rfl (lv_at hl 3 rfl) ?_
        refine lv_iconst (v := 2) hx hb dX11_once_19 (by decide) ?_
        refine lv_icmp_le (tgt := 25) hx hb dX11_once_20 (by decide) (fun c => ?_) (fun c => ?_)
        · skip
          have c_13 : x2.toInt ≤ 2 := (by have z := bn_le c; have k1 : (2 : Int32).toInt = 2 := (by decide); omega)
          refine lv_aload_n hx hb dX11_once_25 rfl (lv_at hl 0 rfl) ?_
          refine lv_iload_n hx hb dX11_once_26 rfl (lv_at hl 1 rfl) ?_
          refine sg_calli (va_runV (As := [.int x0]) (rest := []) ⟨hx, hb, hml, hown, hts⟩ (cf_X11_readWeek l D ca za h hh x0 (by first | omega | decide) H.size) (cwV 1 hts (gw_V (fun _ h => List.mem_cons_of_mem _ h) mw_26 mw_27 mw_28 mw_9 mw_25) rfl rfl rfl (by decide +kernel) ⟨Nat.le_of_ble_eq_true rfl, Nat.le_of_ble_eq_true rfl⟩) (sg_preV (ci := 11) (C := RX11) (T := TX11) (N := 10) hA hK hP hS hZ 0 (by decide) rfl rfl) rfl rfl hl.1 rfl (lv_room (Nat.le_of_ble_eq_true rfl)) dX11_once_27 ⟨Nat.le_refl _, Nat.le_refl _⟩) hA hS (fun r_18 f_15 L_16 Q_17 H locs hq hP hS => ?_)
          obtain ⟨⟨ef9, eL9, eQ9⟩, hq⟩ := hq
          rw [ef9, eL9, eQ9] at hP; clear ef9 eL9 eQ9
          obtain ⟨rfl, hq⟩ := hq
          have q_19 := hq
          refine lv_istore (lv' := [(4, .int (-11)), (0, .ref (h 0)), (1, .int x0), (2, .int x1), (3, .int x2)]) hx hb dX11_once_30 hl (by decide) rfl (fun ls hl => ?_)
          refine lv_iload hx hb dX11_once_32 (lv_at hl 0 rfl) ?_
          refine lv_if_eq (tgt := 42) hx hb dX11_once_34 (by decide) (fun c => absurd c (by decide)) (fun c => ?_)
          refine lv_iload hx hb dX11_once_37 (lv_at hl 0 rfl) ?_
          refine lv_goto (tgt := 51) hx hb dX11_once_39 (by decide) ?_
          exact hret _ _ _ _ (-11) f0X L0 Q0 dX11_once_51 hP hS ⟨trivial, Or.inl ⟨rfl, by omega⟩⟩
        · skip
          have c_14 : 2 < x2.toInt := (by have z := bn_nle c; have k1 : (2 : Int32).toInt = 2 := (by decide); omega)
          refine lv_iconst (v := (-1)) hx hb dX11_once_23 (by decide) ?_
          exact hret _ _ _ _ (-1) f0X L0 Q0 dX11_once_24 hP hS ⟨trivial, Or.inr (⟨rfl, by omega⟩)⟩
    · skip
      have q_20 := hq
      refine lv_if_eq (tgt := 23) hx hb dX11_once_11 (by decide) (fun c => ?_) (fun c => absurd c (by decide))
      refine lv_iconst (v := (-1)) hx hb dX11_once_23 (by decide) ?_
      exact hret _ _ _ _ (-1) f0X L0 Q0 dX11_once_24 hP hS ⟨trivial, Or.inr (⟨rfl, by omega⟩)⟩
  · skip
    have q_21 := hq
    refine lv_if_eq (tgt := 23) hx hb dX11_once_4 (by decide) (fun c => ?_) (fun c => absurd c (by decide))
    refine lv_iconst (v := (-1)) hx hb dX11_once_23 (by decide) ?_
    exact hret _ _ _ _ (-1) f0X L0 Q0 dX11_once_24 hP hS ⟨trivial, Or.inr (⟨rfl, by omega⟩)⟩

set_option maxHeartbeats 4000000 in
set_option maxRecDepth 100000 in
theorem cf_X11_week (l : Launch) (D : va_G) (ca : Nat → ClassId) (za h : Nat → Nat) (hh : sgH 52 h) (x0 : Int32) (x1 : Int32) (sz : Nat) : Met l yX11_week gwX11_week { frames := 2, cells := 0, slots := 0, locals := 43 } (sgP D vwCl (tyX ca) 52 h (eX ca h) zcX za f0X L0 Q0 sz [.ref (h 0), .int x0, .int x1]) (sgQi D vwCl 52 h (eX ca h) sz (fun r f1 L1 Q1 => True ∧ ((r = (-11) ∧ ((0 ≤ x0.toInt ∧ x0.toInt ≤ 5) ∧ (0 ≤ x1.toInt ∧ x1.toInt ≤ 2))) ∨ (r = (-1) ∧ (¬ ((0 ≤ x0.toInt ∧ x0.toInt ≤ 5) ∧ (0 ≤ x1.toInt ∧ x1.toInt ≤ 2))))))) 0 0 (sgA 52 h sz) := by
  refine sg_ofWi (cc := cX11_week) (maxL := 4) RX11 (by decide) rfl rfl (Nat.le_of_ble_eq_true rfl) ?_
  intro p e s m below meth cd Qz ls hx hb hml hown hts hK hZ hP hS hl hret
  have hA := sgY.self (n := 52) (h := h) (sz := s.heap.size)
  have hl : lv_has ls 4 [(0, .ref (h 0)), (1, .int x0), (2, .int x1)] := hl
  obtain ⟨H, hH⟩ : ∃ z : Heap, z = s.heap := ⟨_, rfl⟩
  obtain ⟨locs, hlo⟩ : ∃ z : List Loc, z = [] := ⟨_, rfl⟩
  have hP : va_P D vwCl (sgw 52 h (eX ca h) f0X L0 Q0) H := by rw [hH]; exact hP
  have hS : va_S (sgA 52 h s.heap.size) s.heap H locs := by rw [hH, hlo]; exact hS
  suffices hgo : W p l e ({ frames := 2, cells := 0, slots := 0, locals := 43 }) s m ([.ref (h 0), .int x0, .int x1] : List Value).toArray below meth cd H locs 0 0 Qz (F0 m 0 ls []) by rw [hH, hlo] at hgo; exact hgo
  refine lv_iload_n hx hb dX11_week_0 rfl (lv_at hl 1 rfl) ?_
  refine sg_calli (va_runS (As := [.int x0]) (rest := []) ⟨hx, hb, hml, hown, hts⟩ (cf_X11_isShelf l D ca za h hh f0X L0 Q0 x0 H.size) (va_cwS 1 hts (gw_S (fun _ h => List.mem_cons_of_mem _ h) mw_17 mw_18 mw_9 mw_16) rfl rfl rfl (by decide +kernel) ⟨Nat.le_of_ble_eq_true rfl, Nat.le_of_ble_eq_true rfl⟩) (sg_preS hA hK hP hS hZ) rfl rfl hl.1 rfl (lv_room (Nat.le_of_ble_eq_true rfl)) dX11_week_1 ⟨Nat.le_refl _, Nat.le_refl _⟩) hA hS (fun r_4 f_1 L_2 Q_3 H locs hq hP hS => ?_)
  obtain ⟨⟨ef9, eL9, eQ9⟩, hq⟩ := hq
  rw [ef9, eL9, eQ9] at hP; clear ef9 eL9 eQ9
  rcases hq with ⟨rfl, hq⟩ | ⟨rfl, hq⟩
  · skip
    have q_5 := hq
    refine lv_if_eq (tgt := 16) hx hb dX11_week_4 (by decide) (fun c => absurd c (by decide)) (fun c => ?_)
    refine lv_iload_n hx hb dX11_week_7 rfl (lv_at hl 2 rfl) ?_
    refine lv_if_lt (tgt := 16) hx hb dX11_week_8 (by decide) (fun c => ?_) (fun c => ?_)
    · skip
      have c_6 : x1.toInt < 0 := (by have z := bn_lt c; have k1 : (0 : Int32).toInt = 0 := (by decide); omega)
      refine lv_iconst (v := (-1)) hx hb dX11_week_16 (by decide) ?_
      exact hret _ _ _ _ (-1) f0X L0 Q0 dX11_week_17 hP hS ⟨trivial, Or.inr (⟨rfl, by omega⟩)⟩
    · skip
      have c_7 : 0 ≤ x1.toInt := (by have z := bn_nlt c; have k1 : (0 : Int32).toInt = 0 := (by decide); omega)
      refine lv_iload_n hx hb dX11_week_11 rfl (lv_at hl 2 rfl) ?_
      refine lv_iconst (v := 2) hx hb dX11_week_12 (by decide) ?_
      refine lv_icmp_le (tgt := 18) hx hb dX11_week_13 (by decide) (fun c => ?_) (fun c => ?_)
      · skip
        have c_8 : x1.toInt ≤ 2 := (by have z := bn_le c; have k1 : (2 : Int32).toInt = 2 := (by decide); omega)
        refine lv_aload_n hx hb dX11_week_18 rfl (lv_at hl 0 rfl) ?_
        refine lv_iload_n hx hb dX11_week_19 rfl (lv_at hl 1 rfl) ?_
        refine sg_calli (va_runV (As := [.int x0]) (rest := []) ⟨hx, hb, hml, hown, hts⟩ (cf_X11_readWeek l D ca za h hh x0 (by first | omega | decide) H.size) (cwV 1 hts (gw_V (fun _ h => List.mem_cons_of_mem _ h) mw_26 mw_27 mw_28 mw_9 mw_25) rfl rfl rfl (by decide +kernel) ⟨Nat.le_of_ble_eq_true rfl, Nat.le_of_ble_eq_true rfl⟩) (sg_preV (ci := 11) (C := RX11) (T := TX11) (N := 10) hA hK hP hS hZ 0 (by decide) rfl rfl) rfl rfl hl.1 rfl (lv_room (Nat.le_of_ble_eq_true rfl)) dX11_week_20 ⟨Nat.le_refl _, Nat.le_refl _⟩) hA hS (fun r_13 f_10 L_11 Q_12 H locs hq hP hS => ?_)
        obtain ⟨⟨ef9, eL9, eQ9⟩, hq⟩ := hq
        rw [ef9, eL9, eQ9] at hP; clear ef9 eL9 eQ9
        obtain ⟨rfl, hq⟩ := hq
        have q_14 := hq
        refine lv_istore_n (lv' := [(3, .int (-11)), (0, .ref (h 0)), (1, .int x0), (2, .int x1)]) hx hb dX11_week_23 rfl hl (by decide) rfl (fun ls hl => ?_)
        refine lv_iload_n hx hb dX11_week_24 rfl (lv_at hl 0 rfl) ?_
        refine lv_if_eq (tgt := 30) hx hb dX11_week_25 (by decide) (fun c => absurd c (by decide)) (fun c => ?_)
        refine lv_iload_n hx hb dX11_week_28 rfl (lv_at hl 0 rfl) ?_
        exact hret _ _ _ _ (-11) f0X L0 Q0 dX11_week_29 hP hS ⟨trivial, Or.inl ⟨rfl, by omega⟩⟩
      · skip
        have c_9 : 2 < x1.toInt := (by have z := bn_nle c; have k1 : (2 : Int32).toInt = 2 := (by decide); omega)
        refine lv_iconst (v := (-1)) hx hb dX11_week_16 (by decide) ?_
        exact hret _ _ _ _ (-1) f0X L0 Q0 dX11_week_17 hP hS ⟨trivial, Or.inr (⟨rfl, by omega⟩)⟩
  · skip
    have q_15 := hq
    refine lv_if_eq (tgt := 16) hx hb dX11_week_4 (by decide) (fun c => ?_) (fun c => absurd c (by decide))
    refine lv_iconst (v := (-1)) hx hb dX11_week_16 (by decide) ?_
    exact hret _ _ _ _ (-1) f0X L0 Q0 dX11_week_17 hP hS ⟨trivial, Or.inr (⟨rfl, by omega⟩)⟩

set_option maxHeartbeats 4000000 in
set_option maxRecDepth 100000 in
theorem cf_X11_stands (l : Launch) (D : va_G) (ca : Nat → ClassId) (za h : Nat → Nat) (hh : sgH 52 h) (x0 : Int32) (x1 : Int32) (x2 : Int32) (sz : Nat) : Met l yX11_stands gwX11_stands { frames := 2, cells := 0, slots := 0, locals := 43 } (sgP D vwCl (tyX ca) 52 h (eX ca h) zcX za f0X L0 Q0 sz [.ref (h 0), .int x0, .int x1, .int x2]) (sgQi D vwCl 52 h (eX ca h) sz (fun r f1 L1 Q1 => True ∧ ((r = (-11) ∧ ((0 ≤ x0.toInt ∧ x0.toInt ≤ 5) ∧ (0 ≤ x1.toInt ∧ x1.toInt ≤ 2) ∧ 0 ≤ x2.toInt)) ∨ (r = (-1) ∧ (¬ ((0 ≤ x0.toInt ∧ x0.toInt ≤ 5) ∧ (0 ≤ x1.toInt ∧ x1.toInt ≤ 2) ∧ 0 ≤ x2.toInt)))))) 0 0 (sgA 52 h sz) := by
  refine sg_ofWi (cc := cX11_stands) (maxL := 5) RX11 (by decide) rfl rfl (Nat.le_of_ble_eq_true rfl) ?_
  intro p e s m below meth cd Qz ls hx hb hml hown hts hK hZ hP hS hl hret
  have hA := sgY.self (n := 52) (h := h) (sz := s.heap.size)
  have hl : lv_has ls 5 [(0, .ref (h 0)), (1, .int x0), (2, .int x1), (3, .int x2)] := hl
  obtain ⟨H, hH⟩ : ∃ z : Heap, z = s.heap := ⟨_, rfl⟩
  obtain ⟨locs, hlo⟩ : ∃ z : List Loc, z = [] := ⟨_, rfl⟩
  have hP : va_P D vwCl (sgw 52 h (eX ca h) f0X L0 Q0) H := by rw [hH]; exact hP
  have hS : va_S (sgA 52 h s.heap.size) s.heap H locs := by rw [hH, hlo]; exact hS
  suffices hgo : W p l e ({ frames := 2, cells := 0, slots := 0, locals := 43 }) s m ([.ref (h 0), .int x0, .int x1, .int x2] : List Value).toArray below meth cd H locs 0 0 Qz (F0 m 0 ls []) by rw [hH, hlo] at hgo; exact hgo
  refine lv_iload_n hx hb dX11_stands_0 rfl (lv_at hl 1 rfl) ?_
  refine sg_calli (va_runS (As := [.int x0]) (rest := []) ⟨hx, hb, hml, hown, hts⟩ (cf_X11_isShelf l D ca za h hh f0X L0 Q0 x0 H.size) (va_cwS 1 hts (gw_S (fun _ h => List.mem_cons_of_mem _ h) mw_17 mw_18 mw_9 mw_16) rfl rfl rfl (by decide +kernel) ⟨Nat.le_of_ble_eq_true rfl, Nat.le_of_ble_eq_true rfl⟩) (sg_preS hA hK hP hS hZ) rfl rfl hl.1 rfl (lv_room (Nat.le_of_ble_eq_true rfl)) dX11_stands_1 ⟨Nat.le_refl _, Nat.le_refl _⟩) hA hS (fun r_4 f_1 L_2 Q_3 H locs hq hP hS => ?_)
  obtain ⟨⟨ef9, eL9, eQ9⟩, hq⟩ := hq
  rw [ef9, eL9, eQ9] at hP; clear ef9 eL9 eQ9
  rcases hq with ⟨rfl, hq⟩ | ⟨rfl, hq⟩
  · skip
    have q_5 := hq
    refine lv_if_eq (tgt := 18) hx hb dX11_stands_4 (by decide) (fun c => absurd c (by decide)) (fun c => ?_)
    refine lv_iload_n hx hb dX11_stands_7 rfl (lv_at hl 2 rfl) ?_
    refine sg_calli (va_runS (As := [.int x1]) (rest := []) ⟨hx, hb, hml, hown, hts⟩ (cf_X11_isPart l D ca za h hh f0X L0 Q0 x1 H.size) (va_cwS 1 hts (gw_S (fun _ h => List.mem_cons_of_mem _ h) mw_20 mw_21 mw_9 mw_19) rfl rfl rfl (by decide +kernel) ⟨Nat.le_of_ble_eq_true rfl, Nat.le_of_ble_eq_true rfl⟩) (sg_preS hA hK hP hS hZ) rfl rfl hl.1 rfl (lv_room (Nat.le_of_ble_eq_true rfl)) dX11_stands_8 ⟨Nat.le_refl _, Nat.le_refl _⟩) hA hS (fun r_9 f_6 L_7 Q_8 H locs hq hP hS => ?_)
    obtain ⟨⟨ef9, eL9, eQ9⟩, hq⟩ := hq
    rw [ef9, eL9, eQ9] at hP; clear ef9 eL9 eQ9
    rcases hq with ⟨rfl, hq⟩ | ⟨rfl, hq⟩
    · skip
      have q_10 := hq
      refine lv_if_eq (tgt := 18) hx hb dX11_stands_11 (by decide) (fun c => absurd c (by decide)) (fun c => ?_)
      refine lv_iload_n hx hb dX11_stands_14 rfl (lv_at hl 3 rfl) ?_
      refine lv_if_ge (tgt := 20) hx hb dX11_stands_15 (by decide) (fun c => ?_) (fun c => ?_)
      · skip
        have c_11 : 0 ≤ x2.toInt := (by have z := bn_le c; have k1 : (0 : Int32).toInt = 0 := (by decide); omega)
        refine lv_aload_n hx hb dX11_stands_20 rfl (lv_at hl 0 rfl) ?_
        refine lv_iload_n hx hb dX11_stands_21 rfl (lv_at hl 1 rfl) ?_
        refine sg_calli (va_runV (As := [.int x0]) (rest := []) ⟨hx, hb, hml, hown, hts⟩ (cf_X11_readWeek l D ca za h hh x0 (by first | omega | decide) H.size) (cwV 1 hts (gw_V (fun _ h => List.mem_cons_of_mem _ h) mw_26 mw_27 mw_28 mw_9 mw_25) rfl rfl rfl (by decide +kernel) ⟨Nat.le_of_ble_eq_true rfl, Nat.le_of_ble_eq_true rfl⟩) (sg_preV (ci := 11) (C := RX11) (T := TX11) (N := 10) hA hK hP hS hZ 0 (by decide) rfl rfl) rfl rfl hl.1 rfl (lv_room (Nat.le_of_ble_eq_true rfl)) dX11_stands_22 ⟨Nat.le_refl _, Nat.le_refl _⟩) hA hS (fun r_16 f_13 L_14 Q_15 H locs hq hP hS => ?_)
        obtain ⟨⟨ef9, eL9, eQ9⟩, hq⟩ := hq
        rw [ef9, eL9, eQ9] at hP; clear ef9 eL9 eQ9
        obtain ⟨rfl, hq⟩ := hq
        have q_17 := hq
        refine lv_istore (lv' := [(4, .int (-11)), (0, .ref (h 0)), (1, .int x0), (2, .int x1), (3, .int x2)]) hx hb dX11_stands_25 hl (by decide) rfl (fun ls hl => ?_)
        refine lv_iload hx hb dX11_stands_27 (lv_at hl 0 rfl) ?_
        refine lv_if_eq (tgt := 35) hx hb dX11_stands_29 (by decide) (fun c => absurd c (by decide)) (fun c => ?_)
        refine lv_iload hx hb dX11_stands_32 (lv_at hl 0 rfl) ?_
        exact hret _ _ _ _ (-11) f0X L0 Q0 dX11_stands_34 hP hS ⟨trivial, Or.inl ⟨rfl, by omega⟩⟩
      · skip
        have c_12 : x2.toInt < 0 := (by have z := bn_nle c; have k1 : (0 : Int32).toInt = 0 := (by decide); omega)
        refine lv_iconst (v := (-1)) hx hb dX11_stands_18 (by decide) ?_
        exact hret _ _ _ _ (-1) f0X L0 Q0 dX11_stands_19 hP hS ⟨trivial, Or.inr (⟨rfl, by omega⟩)⟩
    · skip
      have q_18 := hq
      refine lv_if_eq (tgt := 18) hx hb dX11_stands_11 (by decide) (fun c => ?_) (fun c => absurd c (by decide))
      refine lv_iconst (v := (-1)) hx hb dX11_stands_18 (by decide) ?_
      exact hret _ _ _ _ (-1) f0X L0 Q0 dX11_stands_19 hP hS ⟨trivial, Or.inr (⟨rfl, by omega⟩)⟩
  · skip
    have q_19 := hq
    refine lv_if_eq (tgt := 18) hx hb dX11_stands_4 (by decide) (fun c => ?_) (fun c => absurd c (by decide))
    refine lv_iconst (v := (-1)) hx hb dX11_stands_18 (by decide) ?_
    exact hret _ _ _ _ (-1) f0X L0 Q0 dX11_stands_19 hP hS ⟨trivial, Or.inr (⟨rfl, by omega⟩)⟩

set_option maxHeartbeats 4000000 in
set_option maxRecDepth 100000 in
theorem cf_X11_pays (l : Launch) (D : va_G) (ca : Nat → ClassId) (za h : Nat → Nat) (hh : sgH 52 h) (x0 : Int32) (x1 : Int32) (x2 : Int32) (sz : Nat) : Met l yX11_pays gwX11_pays { frames := 1, cells := 0, slots := 0, locals := 21 } (sgP D vwCl (tyX ca) 52 h (eX ca h) zcX za f0X L0 Q0 sz [.ref (h 0), .int x0, .int x1, .int x2]) (sgQi D vwCl 52 h (eX ca h) sz (fun r f1 L1 Q1 => True ∧ ((r = (-1) ∧ (True))))) 0 0 (sgA 52 h sz) := by
  refine sg_ofWi (cc := cX11_pays) (maxL := 5) RX11 (by decide) rfl rfl (Nat.le_of_ble_eq_true rfl) ?_
  intro p e s m below meth cd Qz ls hx hb hml hown hts hK hZ hP hS hl hret
  have hA := sgY.self (n := 52) (h := h) (sz := s.heap.size)
  have hl : lv_has ls 5 [(0, .ref (h 0)), (1, .int x0), (2, .int x1), (3, .int x2)] := hl
  obtain ⟨H, hH⟩ : ∃ z : Heap, z = s.heap := ⟨_, rfl⟩
  obtain ⟨locs, hlo⟩ : ∃ z : List Loc, z = [] := ⟨_, rfl⟩
  have hP : va_P D vwCl (sgw 52 h (eX ca h) f0X L0 Q0) H := by rw [hH]; exact hP
  have hS : va_S (sgA 52 h s.heap.size) s.heap H locs := by rw [hH, hlo]; exact hS
  suffices hgo : W p l e ({ frames := 1, cells := 0, slots := 0, locals := 21 }) s m ([.ref (h 0), .int x0, .int x1, .int x2] : List Value).toArray below meth cd H locs 0 0 Qz (F0 m 0 ls []) by rw [hH, hlo] at hgo; exact hgo
  refine lv_iload_n hx hb dX11_pays_0 rfl (lv_at hl 1 rfl) ?_
  refine sg_calli (va_runS (As := [.int x0]) (rest := []) ⟨hx, hb, hml, hown, hts⟩ (cf_X11_isShelf l D ca za h hh f0X L0 Q0 x0 H.size) (va_cwS 1 hts (gw_S (fun _ h => List.mem_cons_of_mem _ h) mw_17 mw_18 mw_9 mw_16) rfl rfl rfl (by decide +kernel) ⟨Nat.le_of_ble_eq_true rfl, Nat.le_of_ble_eq_true rfl⟩) (sg_preS hA hK hP hS hZ) rfl rfl hl.1 rfl (lv_room (Nat.le_of_ble_eq_true rfl)) dX11_pays_1 ⟨Nat.le_refl _, Nat.le_refl _⟩) hA hS (fun r_4 f_1 L_2 Q_3 H locs hq hP hS => ?_)
  obtain ⟨⟨ef9, eL9, eQ9⟩, hq⟩ := hq
  rw [ef9, eL9, eQ9] at hP; clear ef9 eL9 eQ9
  rcases hq with ⟨rfl, hq⟩ | ⟨rfl, hq⟩
  · skip
    have q_5 := hq
    refine lv_if_eq (tgt := 27) hx hb dX11_pays_4 (by decide) (fun c => absurd c (by decide)) (fun c => ?_)
    refine lv_aload_n hx hb dX11_pays_7 rfl (lv_at hl 0 rfl) ?_
    refine sg_get (ci := 11) (v := .ref (h 1)) (C := RX11) (T := TX11) (N := 10) hx hb hts (fun w h => List.mem_cons_of_mem _ (gx_11 w h)) hown hK hP 0 (by decide) rfl rfl 0 (by decide) (hts _ (List.mem_cons_of_mem _ mw_10)) (fun _ h9 => h9) rfl dX11_pays_8 ?_
    refine lv_iload_n hx hb dX11_pays_11 rfl (lv_at hl 2 rfl) ?_
    refine sg_calli (va_runV (As := [.int x1]) (rest := []) ⟨hx, hb, hml, hown, hts⟩ (cf_X0_has l D ca za h hh f0X L0 Q0 x1 rfl H.size) (cwV 1 hts (gw_V (fun _ h => List.mem_cons_of_mem _ h) mw_12 mw_13 mw_14 mw_15 mw_11) rfl rfl rfl (by decide +kernel) ⟨Nat.le_of_ble_eq_true rfl, Nat.le_of_ble_eq_true rfl⟩) (sg_preV (ci := 0) (C := RX0) (T := TX0) (N := 5) hA hK hP hS hZ 1 (by decide) rfl rfl) rfl rfl hl.1 rfl (lv_room (Nat.le_of_ble_eq_true rfl)) dX11_pays_12 ⟨Nat.le_refl _, Nat.le_refl _⟩) hA hS (fun r_9 f_6 L_7 Q_8 H locs hq hP hS => ?_)
    obtain ⟨⟨ef9, eL9, eQ9⟩, hq⟩ := hq
    rw [ef9, eL9, eQ9] at hP; clear ef9 eL9 eQ9
    obtain ⟨rfl, hq⟩ := hq
    have q_10 := hq
    refine lv_if_eq (tgt := 27) hx hb dX11_pays_15 (by decide) (fun c => ?_) (fun c => absurd c (by decide))
    refine lv_iconst (v := (-1)) hx hb dX11_pays_27 (by decide) ?_
    exact hret _ _ _ _ (-1) f0X L0 Q0 dX11_pays_28 hP hS ⟨trivial, ⟨rfl, trivial⟩⟩
  · skip
    have q_11 := hq
    refine lv_if_eq (tgt := 27) hx hb dX11_pays_4 (by decide) (fun c => ?_) (fun c => absurd c (by decide))
    refine lv_iconst (v := (-1)) hx hb dX11_pays_27 (by decide) ?_
    exact hret _ _ _ _ (-1) f0X L0 Q0 dX11_pays_28 hP hS ⟨trivial, ⟨rfl, trivial⟩⟩

set_option maxHeartbeats 4000000 in
set_option maxRecDepth 100000 in
theorem cf_X11_memories (l : Launch) (D : va_G) (ca : Nat → ClassId) (za h : Nat → Nat) (hh : sgH 52 h) (x0 : Int32) (x1 : Int32) (x2 : Int32) (sz : Nat) : Met l yX11_memories gwX11_memories { frames := 2, cells := 0, slots := 0, locals := 43 } (sgP D vwCl (tyX ca) 52 h (eX ca h) zcX za f0X L0 Q0 sz [.ref (h 0), .int x0, .int x1, .int x2]) (sgQi D vwCl 52 h (eX ca h) sz (fun r f1 L1 Q1 => True ∧ ((r = (-11) ∧ ((0 ≤ x0.toInt ∧ x0.toInt ≤ 5) ∧ (0 ≤ x1.toInt ∧ x1.toInt ≤ 3) ∧ (0 ≤ x2.toInt ∧ x2.toInt ≤ 1))) ∨ (r = (-1) ∧ (¬ ((0 ≤ x0.toInt ∧ x0.toInt ≤ 5) ∧ (0 ≤ x1.toInt ∧ x1.toInt ≤ 3) ∧ (0 ≤ x2.toInt ∧ x2.toInt ≤ 1))))))) 0 0 (sgA 52 h sz) := by
  refine sg_ofWi (cc := cX11_memories) (maxL := 5) RX11 (by decide) rfl rfl (Nat.le_of_ble_eq_true rfl) ?_
  intro p e s m below meth cd Qz ls hx hb hml hown hts hK hZ hP hS hl hret
  have hA := sgY.self (n := 52) (h := h) (sz := s.heap.size)
  have hl : lv_has ls 5 [(0, .ref (h 0)), (1, .int x0), (2, .int x1), (3, .int x2)] := hl
  obtain ⟨H, hH⟩ : ∃ z : Heap, z = s.heap := ⟨_, rfl⟩
  obtain ⟨locs, hlo⟩ : ∃ z : List Loc, z = [] := ⟨_, rfl⟩
  have hP : va_P D vwCl (sgw 52 h (eX ca h) f0X L0 Q0) H := by rw [hH]; exact hP
  have hS : va_S (sgA 52 h s.heap.size) s.heap H locs := by rw [hH, hlo]; exact hS
  suffices hgo : W p l e ({ frames := 2, cells := 0, slots := 0, locals := 43 }) s m ([.ref (h 0), .int x0, .int x1, .int x2] : List Value).toArray below meth cd H locs 0 0 Qz (F0 m 0 ls []) by rw [hH, hlo] at hgo; exact hgo
  refine lv_iload_n hx hb dX11_memories_0 rfl (lv_at hl 1 rfl) ?_
  refine sg_calli (va_runS (As := [.int x0]) (rest := []) ⟨hx, hb, hml, hown, hts⟩ (cf_X11_isShelf l D ca za h hh f0X L0 Q0 x0 H.size) (va_cwS 1 hts (gw_S (fun _ h => List.mem_cons_of_mem _ h) mw_17 mw_18 mw_9 mw_16) rfl rfl rfl (by decide +kernel) ⟨Nat.le_of_ble_eq_true rfl, Nat.le_of_ble_eq_true rfl⟩) (sg_preS hA hK hP hS hZ) rfl rfl hl.1 rfl (lv_room (Nat.le_of_ble_eq_true rfl)) dX11_memories_1 ⟨Nat.le_refl _, Nat.le_refl _⟩) hA hS (fun r_4 f_1 L_2 Q_3 H locs hq hP hS => ?_)
  obtain ⟨⟨ef9, eL9, eQ9⟩, hq⟩ := hq
  rw [ef9, eL9, eQ9] at hP; clear ef9 eL9 eQ9
  rcases hq with ⟨rfl, hq⟩ | ⟨rfl, hq⟩
  · skip
    have q_5 := hq
    refine lv_if_eq (tgt := 25) hx hb dX11_memories_4 (by decide) (fun c => absurd c (by decide)) (fun c => ?_)
    refine lv_iload_n hx hb dX11_memories_7 rfl (lv_at hl 2 rfl) ?_
    refine lv_if_lt (tgt := 25) hx hb dX11_memories_8 (by decide) (fun c => ?_) (fun c => ?_)
    · skip
      have c_6 : x1.toInt < 0 := (by have z := bn_lt c; have k1 : (0 : Int32).toInt = 0 := (by decide); omega)
      refine lv_iconst (v := (-1)) hx hb dX11_memories_25 (by decide) ?_
      exact hret _ _ _ _ (-1) f0X L0 Q0 dX11_memories_26 hP hS ⟨trivial, Or.inr (⟨rfl, by omega⟩)⟩
    · skip
      have c_7 : 0 ≤ x1.toInt := (by have z := bn_nlt c; have k1 : (0 : Int32).toInt = 0 := (by decide); omega)
      refine lv_iload_n hx hb dX11_memories_11 rfl (lv_at hl 2 rfl) ?_
      refine lv_iconst (v := 3) hx hb dX11_memories_12 (by decide) ?_
      refine lv_icmp_gt (tgt := 25) hx hb dX11_memories_13 (by decide) (fun c => ?_) (fun c => ?_)
      · skip
        have c_8 : 3 < x1.toInt := (by have z := bn_lt c; have k1 : (3 : Int32).toInt = 3 := (by decide); omega)
        refine lv_iconst (v := (-1)) hx hb dX11_memories_25 (by decide) ?_
        exact hret _ _ _ _ (-1) f0X L0 Q0 dX11_memories_26 hP hS ⟨trivial, Or.inr (⟨rfl, by omega⟩)⟩
      · skip
        have c_9 : x1.toInt ≤ 3 := (by have z := bn_nlt c; have k1 : (3 : Int32).toInt = 3 := (by decide); omega)
        refine lv_iload_n hx hb dX11_memories_16 rfl (lv_at hl 3 rfl) ?_
        refine lv_if_lt (tgt := 25) hx hb dX11_memories_17 (by decide) (fun c => ?_) (fun c => ?_)
        · skip
          have c_10 : x2.toInt < 0 := (by have z := bn_lt c; have k1 : (0 : Int32).toInt = 0 := (by decide); omega)
          refine lv_iconst (v := (-1)) hx hb dX11_memories_25 (by decide) ?_
          exact hret _ _ _ _ (-1) f0X L0 Q0 dX11_memories_26 hP hS ⟨trivial, Or.inr (⟨rfl, by omega⟩)⟩
        · skip
          have c_11 : 0 ≤ x2.toInt := (by have z := bn_nlt c; have k1 : (0 : Int32).toInt = 0 := (by decide); omega)
          refine lv_iload_n hx hb dX11_memories_20 rfl (lv_at hl 3 rfl) ?_
          refine lv_iconst (v := 1) hx hb dX11_memories_21 (by decide) ?_
          refine lv_icmp_le (tgt := 27) hx hb dX11_memories_22 (by decide) (fun c => ?_) (fun c => ?_)
          · skip
            have c_12 : x2.toInt ≤ 1 := (by have z := bn_le c; have k1 : (1 : Int32).toInt = 1 := (by decide); omega)
            refine lv_aload_n hx hb dX11_memories_27 rfl (lv_at hl 0 rfl) ?_
            refine lv_iload_n hx hb dX11_memories_28 rfl (lv_at hl 1 rfl) ?_
            refine sg_calli (va_runV (As := [.int x0]) (rest := []) ⟨hx, hb, hml, hown, hts⟩ (cf_X11_readWeek l D ca za h hh x0 (by first | omega | decide) H.size) (cwV 1 hts (gw_V (fun _ h => List.mem_cons_of_mem _ h) mw_26 mw_27 mw_28 mw_9 mw_25) rfl rfl rfl (by decide +kernel) ⟨Nat.le_of_ble_eq_true rfl, Nat.le_of_ble_eq_true rfl⟩) (sg_preV (ci := 11) (C := RX11) (T := TX11) (N := 10) hA hK hP hS hZ 0 (by decide) rfl rfl) rfl rfl hl.1 rfl (lv_room (Nat.le_of_ble_eq_true rfl)) dX11_memories_29 ⟨Nat.le_refl _, Nat.le_refl _⟩) hA hS (fun r_17 f_14 L_15 Q_16 H locs hq hP hS => ?_)
            obtain ⟨⟨ef9, eL9, eQ9⟩, hq⟩ := hq
            rw [ef9, eL9, eQ9] at hP; clear ef9 eL9 eQ9
            obtain ⟨rfl, hq⟩ := hq
            have q_18 := hq
            refine lv_istore (lv' := [(4, .int (-11)), (0, .ref (h 0)), (1, .int x0), (2, .int x1), (3, .int x2)]) hx hb dX11_memories_32 hl (by decide) rfl (fun ls hl => ?_)
            refine lv_iload hx hb dX11_memories_34 (lv_at hl 0 rfl) ?_
            refine lv_if_eq (tgt := 44) hx hb dX11_memories_36 (by decide) (fun c => absurd c (by decide)) (fun c => ?_)
            refine lv_iload hx hb dX11_memories_39 (lv_at hl 0 rfl) ?_
            refine lv_goto (tgt := 53) hx hb dX11_memories_41 (by decide) ?_
            exact hret _ _ _ _ (-11) f0X L0 Q0 dX11_memories_53 hP hS ⟨trivial, Or.inl ⟨rfl, by omega⟩⟩
          · skip
            have c_13 : 1 < x2.toInt := (by have z := bn_nle c; have k1 : (1 : Int32).toInt = 1 := (by decide); omega)
            refine lv_iconst (v := (-1)) hx hb dX11_memories_25 (by decide) ?_
            exact hret _ _ _ _ (-1) f0X L0 Q0 dX11_memories_26 hP hS ⟨trivial, Or.inr (⟨rfl, by omega⟩)⟩
  · skip
    have q_19 := hq
    refine lv_if_eq (tgt := 25) hx hb dX11_memories_4 (by decide) (fun c => ?_) (fun c => absurd c (by decide))
    refine lv_iconst (v := (-1)) hx hb dX11_memories_25 (by decide) ?_
    exact hret _ _ _ _ (-1) f0X L0 Q0 dX11_memories_26 hP hS ⟨trivial, Or.inr (⟨rfl, by omega⟩)⟩

set_option maxHeartbeats 4000000 in
set_option maxRecDepth 100000 in
theorem cf_X11_marked (l : Launch) (D : va_G) (ca : Nat → ClassId) (za h : Nat → Nat) (hh : sgH 52 h) (x0 : Int32) (sz : Nat) : Met l yX11_marked gwX11_marked { frames := 2, cells := 0, slots := 0, locals := 43 } (sgP D vwCl (tyX ca) 52 h (eX ca h) zcX za f0X L0 Q0 sz [.ref (h 0), .int x0]) (sgQi D vwCl 52 h (eX ca h) sz (fun r f1 L1 Q1 => True ∧ ((r = (-11) ∧ ((0 ≤ x0.toInt ∧ x0.toInt ≤ 5))) ∨ (r = (-1) ∧ (¬ ((0 ≤ x0.toInt ∧ x0.toInt ≤ 5))))))) 0 0 (sgA 52 h sz) := by
  refine sg_ofWi (cc := cX11_marked) (maxL := 3) RX11 (by decide) rfl rfl (Nat.le_of_ble_eq_true rfl) ?_
  intro p e s m below meth cd Qz ls hx hb hml hown hts hK hZ hP hS hl hret
  have hA := sgY.self (n := 52) (h := h) (sz := s.heap.size)
  have hl : lv_has ls 3 [(0, .ref (h 0)), (1, .int x0)] := hl
  obtain ⟨H, hH⟩ : ∃ z : Heap, z = s.heap := ⟨_, rfl⟩
  obtain ⟨locs, hlo⟩ : ∃ z : List Loc, z = [] := ⟨_, rfl⟩
  have hP : va_P D vwCl (sgw 52 h (eX ca h) f0X L0 Q0) H := by rw [hH]; exact hP
  have hS : va_S (sgA 52 h s.heap.size) s.heap H locs := by rw [hH, hlo]; exact hS
  suffices hgo : W p l e ({ frames := 2, cells := 0, slots := 0, locals := 43 }) s m ([.ref (h 0), .int x0] : List Value).toArray below meth cd H locs 0 0 Qz (F0 m 0 ls []) by rw [hH, hlo] at hgo; exact hgo
  refine lv_iload_n hx hb dX11_marked_0 rfl (lv_at hl 1 rfl) ?_
  refine sg_calli (va_runS (As := [.int x0]) (rest := []) ⟨hx, hb, hml, hown, hts⟩ (cf_X11_isShelf l D ca za h hh f0X L0 Q0 x0 H.size) (va_cwS 1 hts (gw_S (fun _ h => List.mem_cons_of_mem _ h) mw_17 mw_18 mw_9 mw_16) rfl rfl rfl (by decide +kernel) ⟨Nat.le_of_ble_eq_true rfl, Nat.le_of_ble_eq_true rfl⟩) (sg_preS hA hK hP hS hZ) rfl rfl hl.1 rfl (lv_room (Nat.le_of_ble_eq_true rfl)) dX11_marked_1 ⟨Nat.le_refl _, Nat.le_refl _⟩) hA hS (fun r_4 f_1 L_2 Q_3 H locs hq hP hS => ?_)
  obtain ⟨⟨ef9, eL9, eQ9⟩, hq⟩ := hq
  rw [ef9, eL9, eQ9] at hP; clear ef9 eL9 eQ9
  rcases hq with ⟨rfl, hq⟩ | ⟨rfl, hq⟩
  · skip
    have q_5 := hq
    refine lv_if_ne (tgt := 9) hx hb dX11_marked_4 (by decide) (fun c => ?_) (fun c => absurd c (by decide))
    refine lv_aload_n hx hb dX11_marked_9 rfl (lv_at hl 0 rfl) ?_
    refine lv_iload_n hx hb dX11_marked_10 rfl (lv_at hl 1 rfl) ?_
    refine sg_calli (va_runV (As := [.int x0]) (rest := []) ⟨hx, hb, hml, hown, hts⟩ (cf_X11_readWeek l D ca za h hh x0 (by first | omega | decide) H.size) (cwV 1 hts (gw_V (fun _ h => List.mem_cons_of_mem _ h) mw_26 mw_27 mw_28 mw_9 mw_25) rfl rfl rfl (by decide +kernel) ⟨Nat.le_of_ble_eq_true rfl, Nat.le_of_ble_eq_true rfl⟩) (sg_preV (ci := 11) (C := RX11) (T := TX11) (N := 10) hA hK hP hS hZ 0 (by decide) rfl rfl) rfl rfl hl.1 rfl (lv_room (Nat.le_of_ble_eq_true rfl)) dX11_marked_11 ⟨Nat.le_refl _, Nat.le_refl _⟩) hA hS (fun r_9 f_6 L_7 Q_8 H locs hq hP hS => ?_)
    obtain ⟨⟨ef9, eL9, eQ9⟩, hq⟩ := hq
    rw [ef9, eL9, eQ9] at hP; clear ef9 eL9 eQ9
    obtain ⟨rfl, hq⟩ := hq
    have q_10 := hq
    refine lv_istore_n (lv' := [(2, .int (-11)), (0, .ref (h 0)), (1, .int x0)]) hx hb dX11_marked_14 rfl hl (by decide) rfl (fun ls hl => ?_)
    refine lv_iload_n hx hb dX11_marked_15 rfl (lv_at hl 0 rfl) ?_
    refine lv_if_eq (tgt := 23) hx hb dX11_marked_16 (by decide) (fun c => absurd c (by decide)) (fun c => ?_)
    refine lv_iload_n hx hb dX11_marked_19 rfl (lv_at hl 0 rfl) ?_
    refine lv_goto (tgt := 30) hx hb dX11_marked_20 (by decide) ?_
    exact hret _ _ _ _ (-11) f0X L0 Q0 dX11_marked_30 hP hS ⟨trivial, Or.inl ⟨rfl, by omega⟩⟩
  · skip
    have q_11 := hq
    refine lv_if_ne (tgt := 9) hx hb dX11_marked_4 (by decide) (fun c => absurd c (by decide)) (fun c => ?_)
    refine lv_iconst (v := (-1)) hx hb dX11_marked_7 (by decide) ?_
    exact hret _ _ _ _ (-1) f0X L0 Q0 dX11_marked_8 hP hS ⟨trivial, Or.inr (⟨rfl, by omega⟩)⟩

set_option maxHeartbeats 4000000 in
set_option maxRecDepth 100000 in
theorem cf_X11_chairs (l : Launch) (D : va_G) (ca : Nat → ClassId) (za h : Nat → Nat) (hh : sgH 52 h) (x0 : Int32) (x1 : Int32) (x2 : Int32) (sz : Nat) : Met l yX11_chairs gwX11_chairs { frames := 2, cells := 0, slots := 0, locals := 43 } (sgP D vwCl (tyX ca) 52 h (eX ca h) zcX za f0X L0 Q0 sz [.ref (h 0), .int x0, .int x1, .int x2]) (sgQi D vwCl 52 h (eX ca h) sz (fun r f1 L1 Q1 => True ∧ ((r = (-11) ∧ ((0 ≤ x0.toInt ∧ x0.toInt ≤ 5) ∧ 0 ≤ x1.toInt ∧ x1.toInt / 10 ≤ 2 ∧ 1 ≤ x1.toInt % 10 ∧ x1.toInt % 10 ≤ 3 ∧ x2.toInt = -1)) ∨ (r = (-1) ∧ (¬ ((0 ≤ x0.toInt ∧ x0.toInt ≤ 5) ∧ 0 ≤ x1.toInt ∧ x1.toInt / 10 ≤ 2 ∧ 1 ≤ x1.toInt % 10 ∧ x1.toInt % 10 ≤ 3 ∧ x2.toInt = -1)))))) 0 0 (sgA 52 h sz) := by
  refine sg_ofWi (cc := cX11_chairs) (maxL := 6) RX11 (by decide) rfl rfl (Nat.le_of_ble_eq_true rfl) ?_
  intro p e s m below meth cd Qz ls hx hb hml hown hts hK hZ hP hS hl hret
  have hA := sgY.self (n := 52) (h := h) (sz := s.heap.size)
  have hl : lv_has ls 6 [(0, .ref (h 0)), (1, .int x0), (2, .int x1), (3, .int x2)] := hl
  obtain ⟨H, hH⟩ : ∃ z : Heap, z = s.heap := ⟨_, rfl⟩
  obtain ⟨locs, hlo⟩ : ∃ z : List Loc, z = [] := ⟨_, rfl⟩
  have hP : va_P D vwCl (sgw 52 h (eX ca h) f0X L0 Q0) H := by rw [hH]; exact hP
  have hS : va_S (sgA 52 h s.heap.size) s.heap H locs := by rw [hH, hlo]; exact hS
  suffices hgo : W p l e ({ frames := 2, cells := 0, slots := 0, locals := 43 }) s m ([.ref (h 0), .int x0, .int x1, .int x2] : List Value).toArray below meth cd H locs 0 0 Qz (F0 m 0 ls []) by rw [hH, hlo] at hgo; exact hgo
  refine lv_iload_n hx hb dX11_chairs_0 rfl (lv_at hl 2 rfl) ?_
  refine lv_bipush (v := 10) hx hb dX11_chairs_1 (by decide) ?_
  refine lv_irem hx hb dX11_chairs_3 (by decide) ?_
  refine lv_topi (fun v_1 ev_1 => ?_)
  have q_2 : 0 ≤ x1.toInt → v_1.toInt = x1.toInt % 10 := fun z => by rw [ev_1]; exact bn_remI z (by decide) (by decide)
  refine lv_istore (lv' := [(4, .int v_1), (0, .ref (h 0)), (1, .int x0), (2, .int x1), (3, .int x2)]) hx hb dX11_chairs_4 hl (by decide) rfl (fun ls hl => ?_)
  refine lv_iload_n hx hb dX11_chairs_6 rfl (lv_at hl 2 rfl) ?_
  refine sg_calli (va_runS (As := [.int x0]) (rest := []) ⟨hx, hb, hml, hown, hts⟩ (cf_X11_isShelf l D ca za h hh f0X L0 Q0 x0 H.size) (va_cwS 1 hts (gw_S (fun _ h => List.mem_cons_of_mem _ h) mw_17 mw_18 mw_9 mw_16) rfl rfl rfl (by decide +kernel) ⟨Nat.le_of_ble_eq_true rfl, Nat.le_of_ble_eq_true rfl⟩) (sg_preS hA hK hP hS hZ) rfl rfl hl.1 rfl (lv_room (Nat.le_of_ble_eq_true rfl)) dX11_chairs_7 ⟨Nat.le_refl _, Nat.le_refl _⟩) hA hS (fun r_6 f_3 L_4 Q_5 H locs hq hP hS => ?_)
  obtain ⟨⟨ef9, eL9, eQ9⟩, hq⟩ := hq
  rw [ef9, eL9, eQ9] at hP; clear ef9 eL9 eQ9
  rcases hq with ⟨rfl, hq⟩ | ⟨rfl, hq⟩
  · skip
    have q_7 := hq
    refine lv_if_eq (tgt := 39) hx hb dX11_chairs_10 (by decide) (fun c => absurd c (by decide)) (fun c => ?_)
    refine lv_iload_n hx hb dX11_chairs_13 rfl (lv_at hl 3 rfl) ?_
    refine lv_if_lt (tgt := 39) hx hb dX11_chairs_14 (by decide) (fun c => ?_) (fun c => ?_)
    · skip
      have c_8 : x1.toInt < 0 := (by have z := bn_lt c; have k1 : (0 : Int32).toInt = 0 := (by decide); omega)
      refine lv_iconst (v := (-1)) hx hb dX11_chairs_39 (by decide) ?_
      exact hret _ _ _ _ (-1) f0X L0 Q0 dX11_chairs_40 hP hS ⟨trivial, Or.inr (⟨rfl, by omega⟩)⟩
    · skip
      have c_9 : 0 ≤ x1.toInt := (by have z := bn_nlt c; have k1 : (0 : Int32).toInt = 0 := (by decide); omega)
      refine lv_iload_n hx hb dX11_chairs_17 rfl (lv_at hl 3 rfl) ?_
      refine lv_bipush (v := 10) hx hb dX11_chairs_18 (by decide) ?_
      refine lv_idiv hx hb dX11_chairs_20 (by decide) ?_
      refine lv_topi (fun v_10 ev_10 => ?_)
      have q_11 : 0 ≤ x1.toInt → v_10.toInt = x1.toInt / 10 := fun z => by rw [ev_10]; exact bn_divI z (by decide) (by decide)
      refine sg_calli (va_runS (As := [.int v_10]) (rest := []) ⟨hx, hb, hml, hown, hts⟩ (cf_X11_isPart l D ca za h hh f0X L0 Q0 v_10 H.size) (va_cwS 1 hts (gw_S (fun _ h => List.mem_cons_of_mem _ h) mw_20 mw_21 mw_9 mw_19) rfl rfl rfl (by decide +kernel) ⟨Nat.le_of_ble_eq_true rfl, Nat.le_of_ble_eq_true rfl⟩) (sg_preS hA hK hP hS hZ) rfl rfl hl.1 rfl (lv_room (Nat.le_of_ble_eq_true rfl)) dX11_chairs_21 ⟨Nat.le_refl _, Nat.le_refl _⟩) hA hS (fun r_15 f_12 L_13 Q_14 H locs hq hP hS => ?_)
      obtain ⟨⟨ef9, eL9, eQ9⟩, hq⟩ := hq
      rw [ef9, eL9, eQ9] at hP; clear ef9 eL9 eQ9
      rcases hq with ⟨rfl, hq⟩ | ⟨rfl, hq⟩
      · skip
        have q_16 := hq
        refine lv_if_eq (tgt := 39) hx hb dX11_chairs_24 (by decide) (fun c => absurd c (by decide)) (fun c => ?_)
        refine lv_iload hx hb dX11_chairs_27 (lv_at hl 0 rfl) ?_
        refine lv_iconst (v := 1) hx hb dX11_chairs_29 (by decide) ?_
        refine lv_icmp_lt (tgt := 39) hx hb dX11_chairs_30 (by decide) (fun c => ?_) (fun c => ?_)
        · skip
          have c_17 : v_1.toInt < 1 := (by have z := bn_lt c; have k1 : (1 : Int32).toInt = 1 := (by decide); omega)
          refine lv_iconst (v := (-1)) hx hb dX11_chairs_39 (by decide) ?_
          exact hret _ _ _ _ (-1) f0X L0 Q0 dX11_chairs_40 hP hS ⟨trivial, Or.inr (⟨rfl, by omega⟩)⟩
        · skip
          have c_18 : 1 ≤ v_1.toInt := (by have z := bn_nlt c; have k1 : (1 : Int32).toInt = 1 := (by decide); omega)
          refine lv_iload hx hb dX11_chairs_33 (lv_at hl 0 rfl) ?_
          refine lv_iconst (v := 3) hx hb dX11_chairs_35 (by decide) ?_
          refine lv_icmp_le (tgt := 41) hx hb dX11_chairs_36 (by decide) (fun c => ?_) (fun c => ?_)
          · skip
            have c_19 : v_1.toInt ≤ 3 := (by have z := bn_le c; have k1 : (3 : Int32).toInt = 3 := (by decide); omega)
            refine lv_iload_n hx hb dX11_chairs_41 rfl (lv_at hl 4 rfl) ?_
            refine lv_iconst (v := (-1)) hx hb dX11_chairs_42 (by decide) ?_
            refine lv_icmp_eq (tgt := 59) hx hb dX11_chairs_43 (by decide) (fun c => ?_) (fun c => ?_)
            · skip
              have c_21 : x2.toInt = (-1) := (by have z := Int32.toInt_inj.mpr c; have k1 : ((-1) : Int32).toInt = (-1) := (by decide); omega)
              refine lv_aload_n hx hb dX11_chairs_59 rfl (lv_at hl 1 rfl) ?_
              refine lv_iload_n hx hb dX11_chairs_60 rfl (lv_at hl 2 rfl) ?_
              refine sg_calli (va_runV (As := [.int x0]) (rest := []) ⟨hx, hb, hml, hown, hts⟩ (cf_X11_readWeek l D ca za h hh x0 (by first | omega | decide) H.size) (cwV 1 hts (gw_V (fun _ h => List.mem_cons_of_mem _ h) mw_26 mw_27 mw_28 mw_9 mw_25) rfl rfl rfl (by decide +kernel) ⟨Nat.le_of_ble_eq_true rfl, Nat.le_of_ble_eq_true rfl⟩) (sg_preV (ci := 11) (C := RX11) (T := TX11) (N := 10) hA hK hP hS hZ 0 (by decide) rfl rfl) rfl rfl hl.1 rfl (lv_room (Nat.le_of_ble_eq_true rfl)) dX11_chairs_61 ⟨Nat.le_refl _, Nat.le_refl _⟩) hA hS (fun r_26 f_23 L_24 Q_25 H locs hq hP hS => ?_)
              obtain ⟨⟨ef9, eL9, eQ9⟩, hq⟩ := hq
              rw [ef9, eL9, eQ9] at hP; clear ef9 eL9 eQ9
              obtain ⟨rfl, hq⟩ := hq
              have q_27 := hq
              refine lv_istore (lv' := [(5, .int (-11)), (4, .int v_1), (0, .ref (h 0)), (1, .int x0), (2, .int x1), (3, .int x2)]) hx hb dX11_chairs_64 hl (by decide) rfl (fun ls hl => ?_)
              refine lv_iload hx hb dX11_chairs_66 (lv_at hl 0 rfl) ?_
              refine lv_if_eq (tgt := 76) hx hb dX11_chairs_68 (by decide) (fun c => absurd c (by decide)) (fun c => ?_)
              refine lv_iload hx hb dX11_chairs_71 (lv_at hl 0 rfl) ?_
              refine lv_goto (tgt := 90) hx hb dX11_chairs_73 (by decide) ?_
              exact hret _ _ _ _ (-11) f0X L0 Q0 dX11_chairs_90 hP hS ⟨trivial, Or.inl ⟨rfl, by omega⟩⟩
            · skip
              have c_22 : x2.toInt ≠ (-1) := (by have z := bn_ne c; have k1 : ((-1) : Int32).toInt = (-1) := (by decide); omega)
              refine lv_aload_n hx hb dX11_chairs_46 rfl (lv_at hl 1 rfl) ?_
              refine sg_get (ci := 11) (v := .ref (h 1)) (C := RX11) (T := TX11) (N := 10) hx hb hts (fun w h => List.mem_cons_of_mem _ (gx_11 w h)) hown hK hP 0 (by decide) rfl rfl 0 (by decide) (hts _ (List.mem_cons_of_mem _ mw_10)) (fun _ h9 => h9) rfl dX11_chairs_47 ?_
              refine lv_iload_n hx hb dX11_chairs_50 rfl (lv_at hl 4 rfl) ?_
              refine sg_calli (va_runV (As := [.int x2]) (rest := []) ⟨hx, hb, hml, hown, hts⟩ (cf_X0_has l D ca za h hh f0X L0 Q0 x2 rfl H.size) (cwV 1 hts (gw_V (fun _ h => List.mem_cons_of_mem _ h) mw_12 mw_13 mw_14 mw_15 mw_11) rfl rfl rfl (by decide +kernel) ⟨Nat.le_of_ble_eq_true rfl, Nat.le_of_ble_eq_true rfl⟩) (sg_preV (ci := 0) (C := RX0) (T := TX0) (N := 5) hA hK hP hS hZ 1 (by decide) rfl rfl) rfl rfl hl.1 rfl (lv_room (Nat.le_of_ble_eq_true rfl)) dX11_chairs_51 ⟨Nat.le_refl _, Nat.le_refl _⟩) hA hS (fun r_31 f_28 L_29 Q_30 H locs hq hP hS => ?_)
              obtain ⟨⟨ef9, eL9, eQ9⟩, hq⟩ := hq
              rw [ef9, eL9, eQ9] at hP; clear ef9 eL9 eQ9
              obtain ⟨rfl, hq⟩ := hq
              have q_32 := hq
              refine lv_if_ne (tgt := 59) hx hb dX11_chairs_54 (by decide) (fun c => absurd c (by decide)) (fun c => ?_)
              refine lv_iconst (v := (-1)) hx hb dX11_chairs_57 (by decide) ?_
              exact hret _ _ _ _ (-1) f0X L0 Q0 dX11_chairs_58 hP hS ⟨trivial, Or.inr (⟨rfl, by omega⟩)⟩
          · skip
            have c_20 : 3 < v_1.toInt := (by have z := bn_nle c; have k1 : (3 : Int32).toInt = 3 := (by decide); omega)
            refine lv_iconst (v := (-1)) hx hb dX11_chairs_39 (by decide) ?_
            exact hret _ _ _ _ (-1) f0X L0 Q0 dX11_chairs_40 hP hS ⟨trivial, Or.inr (⟨rfl, by omega⟩)⟩
      · skip
        have q_33 := hq
        refine lv_if_eq (tgt := 39) hx hb dX11_chairs_24 (by decide) (fun c => ?_) (fun c => absurd c (by decide))
        refine lv_iconst (v := (-1)) hx hb dX11_chairs_39 (by decide) ?_
        exact hret _ _ _ _ (-1) f0X L0 Q0 dX11_chairs_40 hP hS ⟨trivial, Or.inr (⟨rfl, by omega⟩)⟩
  · skip
    have q_34 := hq
    refine lv_if_eq (tgt := 39) hx hb dX11_chairs_10 (by decide) (fun c => ?_) (fun c => absurd c (by decide))
    refine lv_iconst (v := (-1)) hx hb dX11_chairs_39 (by decide) ?_
    exact hret _ _ _ _ (-1) f0X L0 Q0 dX11_chairs_40 hP hS ⟨trivial, Or.inr (⟨rfl, by omega⟩)⟩

set_option maxHeartbeats 4000000 in
set_option maxRecDepth 100000 in
theorem cf_X11_wilful (l : Launch) (D : va_G) (ca : Nat → ClassId) (za h : Nat → Nat) (hh : sgH 52 h) (x0 : Int32) (x1 : Int32) (x2 : Int32) (sz : Nat) : Met l yX11_wilful gwX11_wilful { frames := 1, cells := 0, slots := 0, locals := 21 } (sgP D vwCl (tyX ca) 52 h (eX ca h) zcX za f0X L0 Q0 sz [.ref (h 0), .int x0, .int x1, .int x2]) (sgQi D vwCl 52 h (eX ca h) sz (fun r f1 L1 Q1 => True ∧ ((r = (-2000000000) ∧ (True))))) 0 0 (sgA 52 h sz) := by
  refine sg_ofWi (cc := cX11_wilful) (maxL := 4) RX11 (by decide) rfl rfl (Nat.le_of_ble_eq_true rfl) ?_
  intro p e s m below meth cd Qz ls hx hb hml hown hts hK hZ hP hS hl hret
  have hA := sgY.self (n := 52) (h := h) (sz := s.heap.size)
  have hl : lv_has ls 4 [(0, .ref (h 0)), (1, .int x0), (2, .int x1), (3, .int x2)] := hl
  obtain ⟨H, hH⟩ : ∃ z : Heap, z = s.heap := ⟨_, rfl⟩
  obtain ⟨locs, hlo⟩ : ∃ z : List Loc, z = [] := ⟨_, rfl⟩
  have hP : va_P D vwCl (sgw 52 h (eX ca h) f0X L0 Q0) H := by rw [hH]; exact hP
  have hS : va_S (sgA 52 h s.heap.size) s.heap H locs := by rw [hH, hlo]; exact hS
  suffices hgo : W p l e ({ frames := 1, cells := 0, slots := 0, locals := 21 }) s m ([.ref (h 0), .int x0, .int x1, .int x2] : List Value).toArray below meth cd H locs 0 0 Qz (F0 m 0 ls []) by rw [hH, hlo] at hgo; exact hgo
  refine lv_iload_n hx hb dX11_wilful_0 rfl (lv_at hl 1 rfl) ?_
  refine sg_calli (va_runS (As := [.int x0]) (rest := []) ⟨hx, hb, hml, hown, hts⟩ (cf_X11_isShelf l D ca za h hh f0X L0 Q0 x0 H.size) (va_cwS 1 hts (gw_S (fun _ h => List.mem_cons_of_mem _ h) mw_17 mw_18 mw_9 mw_16) rfl rfl rfl (by decide +kernel) ⟨Nat.le_of_ble_eq_true rfl, Nat.le_of_ble_eq_true rfl⟩) (sg_preS hA hK hP hS hZ) rfl rfl hl.1 rfl (lv_room (Nat.le_of_ble_eq_true rfl)) dX11_wilful_1 ⟨Nat.le_refl _, Nat.le_refl _⟩) hA hS (fun r_4 f_1 L_2 Q_3 H locs hq hP hS => ?_)
  obtain ⟨⟨ef9, eL9, eQ9⟩, hq⟩ := hq
  rw [ef9, eL9, eQ9] at hP; clear ef9 eL9 eQ9
  rcases hq with ⟨rfl, hq⟩ | ⟨rfl, hq⟩
  · skip
    have q_5 := hq
    refine lv_if_eq (tgt := 25) hx hb dX11_wilful_4 (by decide) (fun c => absurd c (by decide)) (fun c => ?_)
    refine lv_aload_n hx hb dX11_wilful_7 rfl (lv_at hl 0 rfl) ?_
    refine sg_get (ci := 11) (v := .ref (h 1)) (C := RX11) (T := TX11) (N := 10) hx hb hts (fun w h => List.mem_cons_of_mem _ (gx_11 w h)) hown hK hP 0 (by decide) rfl rfl 0 (by decide) (hts _ (List.mem_cons_of_mem _ mw_10)) (fun _ h9 => h9) rfl dX11_wilful_8 ?_
    refine lv_iload_n hx hb dX11_wilful_11 rfl (lv_at hl 2 rfl) ?_
    refine sg_calli (va_runV (As := [.int x1]) (rest := []) ⟨hx, hb, hml, hown, hts⟩ (cf_X0_has l D ca za h hh f0X L0 Q0 x1 rfl H.size) (cwV 1 hts (gw_V (fun _ h => List.mem_cons_of_mem _ h) mw_12 mw_13 mw_14 mw_15 mw_11) rfl rfl rfl (by decide +kernel) ⟨Nat.le_of_ble_eq_true rfl, Nat.le_of_ble_eq_true rfl⟩) (sg_preV (ci := 0) (C := RX0) (T := TX0) (N := 5) hA hK hP hS hZ 1 (by decide) rfl rfl) rfl rfl hl.1 rfl (lv_room (Nat.le_of_ble_eq_true rfl)) dX11_wilful_12 ⟨Nat.le_refl _, Nat.le_refl _⟩) hA hS (fun r_9 f_6 L_7 Q_8 H locs hq hP hS => ?_)
    obtain ⟨⟨ef9, eL9, eQ9⟩, hq⟩ := hq
    rw [ef9, eL9, eQ9] at hP; clear ef9 eL9 eQ9
    obtain ⟨rfl, hq⟩ := hq
    have q_10 := hq
    refine lv_if_eq (tgt := 25) hx hb dX11_wilful_15 (by decide) (fun c => ?_) (fun c => absurd c (by decide))
    refine lv_ldc (v := (-2000000000)) hx hb hown (hts _ (List.mem_cons_of_mem _ mw_29)) dX11_wilful_25 ?_
    exact hret _ _ _ _ (-2000000000) f0X L0 Q0 dX11_wilful_27 hP hS ⟨trivial, ⟨rfl, trivial⟩⟩
  · skip
    have q_11 := hq
    refine lv_if_eq (tgt := 25) hx hb dX11_wilful_4 (by decide) (fun c => ?_) (fun c => absurd c (by decide))
    refine lv_ldc (v := (-2000000000)) hx hb hown (hts _ (List.mem_cons_of_mem _ mw_29)) dX11_wilful_25 ?_
    exact hret _ _ _ _ (-2000000000) f0X L0 Q0 dX11_wilful_27 hP hS ⟨trivial, ⟨rfl, trivial⟩⟩

set_option maxHeartbeats 4000000 in
set_option maxRecDepth 100000 in
theorem cf_X11_who (l : Launch) (D : va_G) (ca : Nat → ClassId) (za h : Nat → Nat) (hh : sgH 52 h) (x0 : Int32) (x1 : Int32) (x2 : Int32) (sz : Nat) : Met l yX11_who gwX11_who { frames := 1, cells := 0, slots := 0, locals := 21 } (sgP D vwCl (tyX ca) 52 h (eX ca h) zcX za f0X L0 Q0 sz [.ref (h 0), .int x0, .int x1, .int x2]) (sgQi D vwCl 52 h (eX ca h) sz (fun r f1 L1 Q1 => True ∧ ((r = (-11) ∧ ((0 ≤ x0.toInt ∧ x0.toInt ≤ 5) ∧ (0 ≤ x1.toInt ∧ x1.toInt ≤ 2) ∧ (0 ≤ x2.toInt ∧ x2.toInt ≤ 11))) ∨ (r = (-1) ∧ (¬ ((0 ≤ x0.toInt ∧ x0.toInt ≤ 5) ∧ (0 ≤ x1.toInt ∧ x1.toInt ≤ 2) ∧ (0 ≤ x2.toInt ∧ x2.toInt ≤ 11))))))) 0 0 (sgA 52 h sz) := by
  refine sg_ofWi (cc := cX11_who) (maxL := 5) RX11 (by decide) rfl rfl (Nat.le_of_ble_eq_true rfl) ?_
  intro p e s m below meth cd Qz ls hx hb hml hown hts hK hZ hP hS hl hret
  have hA := sgY.self (n := 52) (h := h) (sz := s.heap.size)
  have hl : lv_has ls 5 [(0, .ref (h 0)), (1, .int x0), (2, .int x1), (3, .int x2)] := hl
  obtain ⟨H, hH⟩ : ∃ z : Heap, z = s.heap := ⟨_, rfl⟩
  obtain ⟨locs, hlo⟩ : ∃ z : List Loc, z = [] := ⟨_, rfl⟩
  have hP : va_P D vwCl (sgw 52 h (eX ca h) f0X L0 Q0) H := by rw [hH]; exact hP
  have hS : va_S (sgA 52 h s.heap.size) s.heap H locs := by rw [hH, hlo]; exact hS
  suffices hgo : W p l e ({ frames := 1, cells := 0, slots := 0, locals := 21 }) s m ([.ref (h 0), .int x0, .int x1, .int x2] : List Value).toArray below meth cd H locs 0 0 Qz (F0 m 0 ls []) by rw [hH, hlo] at hgo; exact hgo
  refine lv_iload_n hx hb dX11_who_0 rfl (lv_at hl 1 rfl) ?_
  refine sg_calli (va_runS (As := [.int x0]) (rest := []) ⟨hx, hb, hml, hown, hts⟩ (cf_X11_isShelf l D ca za h hh f0X L0 Q0 x0 H.size) (va_cwS 1 hts (gw_S (fun _ h => List.mem_cons_of_mem _ h) mw_17 mw_18 mw_9 mw_16) rfl rfl rfl (by decide +kernel) ⟨Nat.le_of_ble_eq_true rfl, Nat.le_of_ble_eq_true rfl⟩) (sg_preS hA hK hP hS hZ) rfl rfl hl.1 rfl (lv_room (Nat.le_of_ble_eq_true rfl)) dX11_who_1 ⟨Nat.le_refl _, Nat.le_refl _⟩) hA hS (fun r_4 f_1 L_2 Q_3 H locs hq hP hS => ?_)
  obtain ⟨⟨ef9, eL9, eQ9⟩, hq⟩ := hq
  rw [ef9, eL9, eQ9] at hP; clear ef9 eL9 eQ9
  rcases hq with ⟨rfl, hq⟩ | ⟨rfl, hq⟩
  · skip
    have q_5 := hq
    refine lv_if_eq (tgt := 24) hx hb dX11_who_4 (by decide) (fun c => absurd c (by decide)) (fun c => ?_)
    refine lv_iload_n hx hb dX11_who_7 rfl (lv_at hl 2 rfl) ?_
    refine sg_calli (va_runS (As := [.int x1]) (rest := []) ⟨hx, hb, hml, hown, hts⟩ (cf_X11_isPart l D ca za h hh f0X L0 Q0 x1 H.size) (va_cwS 1 hts (gw_S (fun _ h => List.mem_cons_of_mem _ h) mw_20 mw_21 mw_9 mw_19) rfl rfl rfl (by decide +kernel) ⟨Nat.le_of_ble_eq_true rfl, Nat.le_of_ble_eq_true rfl⟩) (sg_preS hA hK hP hS hZ) rfl rfl hl.1 rfl (lv_room (Nat.le_of_ble_eq_true rfl)) dX11_who_8 ⟨Nat.le_refl _, Nat.le_refl _⟩) hA hS (fun r_9 f_6 L_7 Q_8 H locs hq hP hS => ?_)
    obtain ⟨⟨ef9, eL9, eQ9⟩, hq⟩ := hq
    rw [ef9, eL9, eQ9] at hP; clear ef9 eL9 eQ9
    rcases hq with ⟨rfl, hq⟩ | ⟨rfl, hq⟩
    · skip
      have q_10 := hq
      refine lv_if_eq (tgt := 24) hx hb dX11_who_11 (by decide) (fun c => absurd c (by decide)) (fun c => ?_)
      refine lv_iload_n hx hb dX11_who_14 rfl (lv_at hl 3 rfl) ?_
      refine lv_if_lt (tgt := 24) hx hb dX11_who_15 (by decide) (fun c => ?_) (fun c => ?_)
      · skip
        have c_11 : x2.toInt < 0 := (by have z := bn_lt c; have k1 : (0 : Int32).toInt = 0 := (by decide); omega)
        refine lv_iconst (v := (-1)) hx hb dX11_who_24 (by decide) ?_
        exact hret _ _ _ _ (-1) f0X L0 Q0 dX11_who_25 hP hS ⟨trivial, Or.inr (⟨rfl, by omega⟩)⟩
      · skip
        have c_12 : 0 ≤ x2.toInt := (by have z := bn_nlt c; have k1 : (0 : Int32).toInt = 0 := (by decide); omega)
        refine lv_iload_n hx hb dX11_who_18 rfl (lv_at hl 3 rfl) ?_
        refine lv_bipush (v := 12) hx hb dX11_who_19 (by decide) ?_
        refine lv_icmp_lt (tgt := 26) hx hb dX11_who_21 (by decide) (fun c => ?_) (fun c => ?_)
        · skip
          have c_13 : x2.toInt < 12 := (by have z := bn_lt c; have k1 : (12 : Int32).toInt = 12 := (by decide); omega)
          refine lv_aload_n hx hb dX11_who_26 rfl (lv_at hl 0 rfl) ?_
          refine lv_iload_n hx hb dX11_who_27 rfl (lv_at hl 1 rfl) ?_
          refine sg_calli (va_runV (As := [.int x0]) (rest := []) ⟨hx, hb, hml, hown, hts⟩ (cf_X11_refusalOf l D ca za h hh x0 (by first | omega | decide) H.size) (cwV 1 hts (gw_V (fun _ h => List.mem_cons_of_mem _ h) mw_6 mw_7 mw_8 mw_9 mw_5) rfl rfl rfl (by decide +kernel) ⟨Nat.le_of_ble_eq_true rfl, Nat.le_of_ble_eq_true rfl⟩) (sg_preV (ci := 11) (C := RX11) (T := TX11) (N := 10) hA hK hP hS hZ 0 (by decide) rfl rfl) rfl rfl hl.1 rfl (lv_room (Nat.le_of_ble_eq_true rfl)) dX11_who_28 ⟨Nat.le_refl _, Nat.le_refl _⟩) hA hS (fun r_18 f_15 L_16 Q_17 H locs hq hP hS => ?_)
          obtain ⟨⟨ef9, eL9, eQ9⟩, hq⟩ := hq
          rw [ef9, eL9, eQ9] at hP; clear ef9 eL9 eQ9
          obtain ⟨rfl, hq⟩ := hq
          have q_19 := hq
          refine lv_istore (lv' := [(4, .int (-11)), (0, .ref (h 0)), (1, .int x0), (2, .int x1), (3, .int x2)]) hx hb dX11_who_31 hl (by decide) rfl (fun ls hl => ?_)
          refine lv_iload hx hb dX11_who_33 (lv_at hl 0 rfl) ?_
          refine lv_if_eq (tgt := 41) hx hb dX11_who_35 (by decide) (fun c => absurd c (by decide)) (fun c => ?_)
          refine lv_iload hx hb dX11_who_38 (lv_at hl 0 rfl) ?_
          exact hret _ _ _ _ (-11) f0X L0 Q0 dX11_who_40 hP hS ⟨trivial, Or.inl ⟨rfl, by omega⟩⟩
        · skip
          have c_14 : 12 ≤ x2.toInt := (by have z := bn_nlt c; have k1 : (12 : Int32).toInt = 12 := (by decide); omega)
          refine lv_iconst (v := (-1)) hx hb dX11_who_24 (by decide) ?_
          exact hret _ _ _ _ (-1) f0X L0 Q0 dX11_who_25 hP hS ⟨trivial, Or.inr (⟨rfl, by omega⟩)⟩
    · skip
      have q_20 := hq
      refine lv_if_eq (tgt := 24) hx hb dX11_who_11 (by decide) (fun c => ?_) (fun c => absurd c (by decide))
      refine lv_iconst (v := (-1)) hx hb dX11_who_24 (by decide) ?_
      exact hret _ _ _ _ (-1) f0X L0 Q0 dX11_who_25 hP hS ⟨trivial, Or.inr (⟨rfl, by omega⟩)⟩
  · skip
    have q_21 := hq
    refine lv_if_eq (tgt := 24) hx hb dX11_who_4 (by decide) (fun c => ?_) (fun c => absurd c (by decide))
    refine lv_iconst (v := (-1)) hx hb dX11_who_24 (by decide) ?_
    exact hret _ _ _ _ (-1) f0X L0 Q0 dX11_who_25 hP hS ⟨trivial, Or.inr (⟨rfl, by omega⟩)⟩

set_option maxHeartbeats 4000000 in
set_option maxRecDepth 100000 in
theorem cf_X11_judge (l : Launch) (D : va_G) (ca : Nat → ClassId) (za h : Nat → Nat) (hh : sgH 52 h) (x0 : Int32) (x1 : Int32) (sz : Nat) : Met l yX11_judge gwX11_judge { frames := 1, cells := 0, slots := 0, locals := 21 } (sgP D vwCl (tyX ca) 52 h (eX ca h) zcX za f0X L0 Q0 sz [.ref (h 0), .int x0, .int x1]) (sgQi D vwCl 52 h (eX ca h) sz (fun r f1 L1 Q1 => True ∧ ((r = (-11) ∧ (0 ≤ x0.toInt ∧ x0.toInt / 10 ≤ 5 ∧ x0.toInt % 10 ≤ 5 ∧ (0 ≤ x1.toInt ∧ x1.toInt ≤ 2))) ∨ (r = (-1) ∧ (¬ (0 ≤ x0.toInt ∧ x0.toInt / 10 ≤ 5 ∧ x0.toInt % 10 ≤ 5 ∧ (0 ≤ x1.toInt ∧ x1.toInt ≤ 2))))))) 0 0 (sgA 52 h sz) := by
  refine sg_ofWi (cc := cX11_judge) (maxL := 7) RX11 (by decide) rfl rfl (Nat.le_of_ble_eq_true rfl) ?_
  intro p e s m below meth cd Qz ls hx hb hml hown hts hK hZ hP hS hl hret
  have hA := sgY.self (n := 52) (h := h) (sz := s.heap.size)
  have hl : lv_has ls 7 [(0, .ref (h 0)), (1, .int x0), (2, .int x1)] := hl
  obtain ⟨H, hH⟩ : ∃ z : Heap, z = s.heap := ⟨_, rfl⟩
  obtain ⟨locs, hlo⟩ : ∃ z : List Loc, z = [] := ⟨_, rfl⟩
  have hP : va_P D vwCl (sgw 52 h (eX ca h) f0X L0 Q0) H := by rw [hH]; exact hP
  have hS : va_S (sgA 52 h s.heap.size) s.heap H locs := by rw [hH, hlo]; exact hS
  suffices hgo : W p l e ({ frames := 1, cells := 0, slots := 0, locals := 21 }) s m ([.ref (h 0), .int x0, .int x1] : List Value).toArray below meth cd H locs 0 0 Qz (F0 m 0 ls []) by rw [hH, hlo] at hgo; exact hgo
  refine lv_iload_n hx hb dX11_judge_0 rfl (lv_at hl 1 rfl) ?_
  refine lv_bipush (v := 10) hx hb dX11_judge_1 (by decide) ?_
  refine lv_idiv hx hb dX11_judge_3 (by decide) ?_
  refine lv_topi (fun v_1 ev_1 => ?_)
  have q_2 : 0 ≤ x0.toInt → v_1.toInt = x0.toInt / 10 := fun z => by rw [ev_1]; exact bn_divI z (by decide) (by decide)
  refine lv_istore_n (lv' := [(3, .int v_1), (0, .ref (h 0)), (1, .int x0), (2, .int x1)]) hx hb dX11_judge_4 rfl hl (by decide) rfl (fun ls hl => ?_)
  refine lv_iload_n hx hb dX11_judge_5 rfl (lv_at hl 2 rfl) ?_
  refine lv_bipush (v := 10) hx hb dX11_judge_6 (by decide) ?_
  refine lv_irem hx hb dX11_judge_8 (by decide) ?_
  refine lv_topi (fun v_3 ev_3 => ?_)
  have q_4 : 0 ≤ x0.toInt → v_3.toInt = x0.toInt % 10 := fun z => by rw [ev_3]; exact bn_remI z (by decide) (by decide)
  refine lv_istore (lv' := [(4, .int v_3), (3, .int v_1), (0, .ref (h 0)), (1, .int x0), (2, .int x1)]) hx hb dX11_judge_9 hl (by decide) rfl (fun ls hl => ?_)
  refine lv_iload_n hx hb dX11_judge_11 rfl (lv_at hl 3 rfl) ?_
  refine lv_if_lt (tgt := 37) hx hb dX11_judge_12 (by decide) (fun c => ?_) (fun c => ?_)
  · skip
    have c_5 : x0.toInt < 0 := (by have z := bn_lt c; have k1 : (0 : Int32).toInt = 0 := (by decide); omega)
    refine lv_iconst (v := (-1)) hx hb dX11_judge_37 (by decide) ?_
    exact hret _ _ _ _ (-1) f0X L0 Q0 dX11_judge_38 hP hS ⟨trivial, Or.inr (⟨rfl, by omega⟩)⟩
  · skip
    have c_6 : 0 ≤ x0.toInt := (by have z := bn_nlt c; have k1 : (0 : Int32).toInt = 0 := (by decide); omega)
    refine lv_iload_n hx hb dX11_judge_15 rfl (lv_at hl 1 rfl) ?_
    refine sg_calli (va_runS (As := [.int v_1]) (rest := []) ⟨hx, hb, hml, hown, hts⟩ (cf_X11_isShelf l D ca za h hh f0X L0 Q0 v_1 H.size) (va_cwS 1 hts (gw_S (fun _ h => List.mem_cons_of_mem _ h) mw_17 mw_18 mw_9 mw_16) rfl rfl rfl (by decide +kernel) ⟨Nat.le_of_ble_eq_true rfl, Nat.le_of_ble_eq_true rfl⟩) (sg_preS hA hK hP hS hZ) rfl rfl hl.1 rfl (lv_room (Nat.le_of_ble_eq_true rfl)) dX11_judge_16 ⟨Nat.le_refl _, Nat.le_refl _⟩) hA hS (fun r_10 f_7 L_8 Q_9 H locs hq hP hS => ?_)
    obtain ⟨⟨ef9, eL9, eQ9⟩, hq⟩ := hq
    rw [ef9, eL9, eQ9] at hP; clear ef9 eL9 eQ9
    rcases hq with ⟨rfl, hq⟩ | ⟨rfl, hq⟩
    · skip
      have q_11 := hq
      refine lv_if_eq (tgt := 37) hx hb dX11_judge_19 (by decide) (fun c => absurd c (by decide)) (fun c => ?_)
      refine lv_iload hx hb dX11_judge_22 (lv_at hl 0 rfl) ?_
      refine sg_calli (va_runS (As := [.int v_3]) (rest := []) ⟨hx, hb, hml, hown, hts⟩ (cf_X11_isShelf l D ca za h hh f0X L0 Q0 v_3 H.size) (va_cwS 1 hts (gw_S (fun _ h => List.mem_cons_of_mem _ h) mw_17 mw_18 mw_9 mw_16) rfl rfl rfl (by decide +kernel) ⟨Nat.le_of_ble_eq_true rfl, Nat.le_of_ble_eq_true rfl⟩) (sg_preS hA hK hP hS hZ) rfl rfl hl.1 rfl (lv_room (Nat.le_of_ble_eq_true rfl)) dX11_judge_24 ⟨Nat.le_refl _, Nat.le_refl _⟩) hA hS (fun r_15 f_12 L_13 Q_14 H locs hq hP hS => ?_)
      obtain ⟨⟨ef9, eL9, eQ9⟩, hq⟩ := hq
      rw [ef9, eL9, eQ9] at hP; clear ef9 eL9 eQ9
      rcases hq with ⟨rfl, hq⟩ | ⟨rfl, hq⟩
      · skip
        have q_16 := hq
        refine lv_if_eq (tgt := 37) hx hb dX11_judge_27 (by decide) (fun c => absurd c (by decide)) (fun c => ?_)
        refine lv_iload_n hx hb dX11_judge_30 rfl (lv_at hl 4 rfl) ?_
        refine sg_calli (va_runS (As := [.int x1]) (rest := []) ⟨hx, hb, hml, hown, hts⟩ (cf_X11_isPart l D ca za h hh f0X L0 Q0 x1 H.size) (va_cwS 1 hts (gw_S (fun _ h => List.mem_cons_of_mem _ h) mw_20 mw_21 mw_9 mw_19) rfl rfl rfl (by decide +kernel) ⟨Nat.le_of_ble_eq_true rfl, Nat.le_of_ble_eq_true rfl⟩) (sg_preS hA hK hP hS hZ) rfl rfl hl.1 rfl (lv_room (Nat.le_of_ble_eq_true rfl)) dX11_judge_31 ⟨Nat.le_refl _, Nat.le_refl _⟩) hA hS (fun r_20 f_17 L_18 Q_19 H locs hq hP hS => ?_)
        obtain ⟨⟨ef9, eL9, eQ9⟩, hq⟩ := hq
        rw [ef9, eL9, eQ9] at hP; clear ef9 eL9 eQ9
        rcases hq with ⟨rfl, hq⟩ | ⟨rfl, hq⟩
        · skip
          have q_21 := hq
          refine lv_if_ne (tgt := 39) hx hb dX11_judge_34 (by decide) (fun c => ?_) (fun c => absurd c (by decide))
          refine lv_aload_n hx hb dX11_judge_39 rfl (lv_at hl 2 rfl) ?_
          refine lv_iload_n hx hb dX11_judge_40 rfl (lv_at hl 1 rfl) ?_
          refine sg_calli (va_runV (As := [.int v_1]) (rest := []) ⟨hx, hb, hml, hown, hts⟩ (cf_X11_refusalOf l D ca za h hh v_1 (by first | omega | decide) H.size) (cwV 1 hts (gw_V (fun _ h => List.mem_cons_of_mem _ h) mw_6 mw_7 mw_8 mw_9 mw_5) rfl rfl rfl (by decide +kernel) ⟨Nat.le_of_ble_eq_true rfl, Nat.le_of_ble_eq_true rfl⟩) (sg_preV (ci := 11) (C := RX11) (T := TX11) (N := 10) hA hK hP hS hZ 0 (by decide) rfl rfl) rfl rfl hl.1 rfl (lv_room (Nat.le_of_ble_eq_true rfl)) dX11_judge_41 ⟨Nat.le_refl _, Nat.le_refl _⟩) hA hS (fun r_25 f_22 L_23 Q_24 H locs hq hP hS => ?_)
          obtain ⟨⟨ef9, eL9, eQ9⟩, hq⟩ := hq
          rw [ef9, eL9, eQ9] at hP; clear ef9 eL9 eQ9
          obtain ⟨rfl, hq⟩ := hq
          have q_26 := hq
          refine lv_istore (lv' := [(5, .int (-11)), (4, .int v_3), (3, .int v_1), (0, .ref (h 0)), (1, .int x0), (2, .int x1)]) hx hb dX11_judge_44 hl (by decide) rfl (fun ls hl => ?_)
          refine lv_aload_n hx hb dX11_judge_46 rfl (lv_at hl 3 rfl) ?_
          refine lv_iload hx hb dX11_judge_47 (lv_at hl 1 rfl) ?_
          refine sg_calli (va_runV (As := [.int v_3]) (rest := []) ⟨hx, hb, hml, hown, hts⟩ (cf_X11_refusalOf l D ca za h hh v_3 (by first | omega | decide) H.size) (cwV 1 hts (gw_V (fun _ h => List.mem_cons_of_mem _ h) mw_6 mw_7 mw_8 mw_9 mw_5) rfl rfl rfl (by decide +kernel) ⟨Nat.le_of_ble_eq_true rfl, Nat.le_of_ble_eq_true rfl⟩) (sg_preV (ci := 11) (C := RX11) (T := TX11) (N := 10) hA hK hP hS hZ 0 (by decide) rfl rfl) rfl rfl hl.1 rfl (lv_room (Nat.le_of_ble_eq_true rfl)) dX11_judge_49 ⟨Nat.le_refl _, Nat.le_refl _⟩) hA hS (fun r_30 f_27 L_28 Q_29 H locs hq hP hS => ?_)
          obtain ⟨⟨ef9, eL9, eQ9⟩, hq⟩ := hq
          rw [ef9, eL9, eQ9] at hP; clear ef9 eL9 eQ9
          obtain ⟨rfl, hq⟩ := hq
          have q_31 := hq
          refine lv_istore (lv' := [(6, .int (-11)), (5, .int (-11)), (4, .int v_3), (3, .int v_1), (0, .ref (h 0)), (1, .int x0), (2, .int x1)]) hx hb dX11_judge_52 hl (by decide) rfl (fun ls hl => ?_)
          refine lv_iload hx hb dX11_judge_54 (lv_at hl 1 rfl) ?_
          refine lv_bipush (v := (-11)) hx hb dX11_judge_56 (by decide) ?_
          refine lv_icmp_eq (tgt := 68) hx hb dX11_judge_58 (by decide) (fun c => ?_) (fun c => absurd c (by decide))
          refine lv_bipush (v := (-11)) hx hb dX11_judge_68 (by decide) ?_
          exact hret _ _ _ _ (-11) f0X L0 Q0 dX11_judge_70 hP hS ⟨trivial, Or.inl ⟨rfl, by omega⟩⟩
        · skip
          have q_32 := hq
          refine lv_if_ne (tgt := 39) hx hb dX11_judge_34 (by decide) (fun c => absurd c (by decide)) (fun c => ?_)
          refine lv_iconst (v := (-1)) hx hb dX11_judge_37 (by decide) ?_
          exact hret _ _ _ _ (-1) f0X L0 Q0 dX11_judge_38 hP hS ⟨trivial, Or.inr (⟨rfl, by omega⟩)⟩
      · skip
        have q_33 := hq
        refine lv_if_eq (tgt := 37) hx hb dX11_judge_27 (by decide) (fun c => ?_) (fun c => absurd c (by decide))
        refine lv_iconst (v := (-1)) hx hb dX11_judge_37 (by decide) ?_
        exact hret _ _ _ _ (-1) f0X L0 Q0 dX11_judge_38 hP hS ⟨trivial, Or.inr (⟨rfl, by omega⟩)⟩
    · skip
      have q_34 := hq
      refine lv_if_eq (tgt := 37) hx hb dX11_judge_19 (by decide) (fun c => ?_) (fun c => absurd c (by decide))
      refine lv_iconst (v := (-1)) hx hb dX11_judge_37 (by decide) ?_
      exact hret _ _ _ _ (-1) f0X L0 Q0 dX11_judge_38 hP hS ⟨trivial, Or.inr (⟨rfl, by omega⟩)⟩

set_option maxHeartbeats 4000000 in
set_option maxRecDepth 100000 in
theorem cf_X11_drawn (l : Launch) (D : va_G) (ca : Nat → ClassId) (za h : Nat → Nat) (hh : sgH 52 h) (x0 : Int32) (x1 : Int32) (x2 : Int32) (x3 : Int32) (sz : Nat) : Met l yX11_drawn gwX11_drawn { frames := 2, cells := 0, slots := 0, locals := 43 } (sgP D vwCl (tyX ca) 52 h (eX ca h) zcX za f0X L0 Q0 sz [.ref (h 0), .int x0, .int x1, .int x2, .int x3]) (sgQi D vwCl 52 h (eX ca h) sz (fun r f1 L1 Q1 => True ∧ ((r = (-11) ∧ ((0 ≤ x0.toInt ∧ x0.toInt ≤ 5) ∧ (1 ≤ x2.toInt ∧ x2.toInt ≤ 20) ∧ (0 ≤ x3.toInt ∧ x3.toInt ≤ 1))) ∨ (r = (-1) ∧ (¬ ((0 ≤ x0.toInt ∧ x0.toInt ≤ 5) ∧ (1 ≤ x2.toInt ∧ x2.toInt ≤ 20) ∧ (0 ≤ x3.toInt ∧ x3.toInt ≤ 1))))))) 0 0 (sgA 52 h sz) := by
  refine sg_ofWi (cc := cX11_drawn) (maxL := 7) RX11 (by decide) rfl rfl (Nat.le_of_ble_eq_true rfl) ?_
  intro p e s m below meth cd Qz ls hx hb hml hown hts hK hZ hP hS hl hret
  have hA := sgY.self (n := 52) (h := h) (sz := s.heap.size)
  have hl : lv_has ls 7 [(0, .ref (h 0)), (1, .int x0), (2, .int x1), (3, .int x2), (4, .int x3)] := hl
  obtain ⟨H, hH⟩ : ∃ z : Heap, z = s.heap := ⟨_, rfl⟩
  obtain ⟨locs, hlo⟩ : ∃ z : List Loc, z = [] := ⟨_, rfl⟩
  have hP : va_P D vwCl (sgw 52 h (eX ca h) f0X L0 Q0) H := by rw [hH]; exact hP
  have hS : va_S (sgA 52 h s.heap.size) s.heap H locs := by rw [hH, hlo]; exact hS
  suffices hgo : W p l e ({ frames := 2, cells := 0, slots := 0, locals := 43 }) s m ([.ref (h 0), .int x0, .int x1, .int x2, .int x3] : List Value).toArray below meth cd H locs 0 0 Qz (F0 m 0 ls []) by rw [hH, hlo] at hgo; exact hgo
  refine lv_iload_n hx hb dX11_drawn_0 rfl (lv_at hl 1 rfl) ?_
  refine sg_calli (va_runS (As := [.int x0]) (rest := []) ⟨hx, hb, hml, hown, hts⟩ (cf_X11_isShelf l D ca za h hh f0X L0 Q0 x0 H.size) (va_cwS 1 hts (gw_S (fun _ h => List.mem_cons_of_mem _ h) mw_17 mw_18 mw_9 mw_16) rfl rfl rfl (by decide +kernel) ⟨Nat.le_of_ble_eq_true rfl, Nat.le_of_ble_eq_true rfl⟩) (sg_preS hA hK hP hS hZ) rfl rfl hl.1 rfl (lv_room (Nat.le_of_ble_eq_true rfl)) dX11_drawn_1 ⟨Nat.le_refl _, Nat.le_refl _⟩) hA hS (fun r_4 f_1 L_2 Q_3 H locs hq hP hS => ?_)
  obtain ⟨⟨ef9, eL9, eQ9⟩, hq⟩ := hq
  rw [ef9, eL9, eQ9] at hP; clear ef9 eL9 eQ9
  rcases hq with ⟨rfl, hq⟩ | ⟨rfl, hq⟩
  · skip
    have q_5 := hq
    refine lv_if_eq (tgt := 29) hx hb dX11_drawn_4 (by decide) (fun c => absurd c (by decide)) (fun c => ?_)
    refine lv_iload_n hx hb dX11_drawn_7 rfl (lv_at hl 3 rfl) ?_
    refine lv_iconst (v := 1) hx hb dX11_drawn_8 (by decide) ?_
    refine lv_icmp_lt (tgt := 29) hx hb dX11_drawn_9 (by decide) (fun c => ?_) (fun c => ?_)
    · skip
      have c_6 : x2.toInt < 1 := (by have z := bn_lt c; have k1 : (1 : Int32).toInt = 1 := (by decide); omega)
      refine lv_iconst (v := (-1)) hx hb dX11_drawn_29 (by decide) ?_
      exact hret _ _ _ _ (-1) f0X L0 Q0 dX11_drawn_30 hP hS ⟨trivial, Or.inr (⟨rfl, by omega⟩)⟩
    · skip
      have c_7 : 1 ≤ x2.toInt := (by have z := bn_nlt c; have k1 : (1 : Int32).toInt = 1 := (by decide); omega)
      refine lv_iload_n hx hb dX11_drawn_12 rfl (lv_at hl 3 rfl) ?_
      refine lv_bipush (v := 20) hx hb dX11_drawn_13 (by decide) ?_
      refine lv_icmp_gt (tgt := 29) hx hb dX11_drawn_15 (by decide) (fun c => ?_) (fun c => ?_)
      · skip
        have c_8 : 20 < x2.toInt := (by have z := bn_lt c; have k1 : (20 : Int32).toInt = 20 := (by decide); omega)
        refine lv_iconst (v := (-1)) hx hb dX11_drawn_29 (by decide) ?_
        exact hret _ _ _ _ (-1) f0X L0 Q0 dX11_drawn_30 hP hS ⟨trivial, Or.inr (⟨rfl, by omega⟩)⟩
      · skip
        have c_9 : x2.toInt ≤ 20 := (by have z := bn_nlt c; have k1 : (20 : Int32).toInt = 20 := (by decide); omega)
        refine lv_iload hx hb dX11_drawn_18 (lv_at hl 4 rfl) ?_
        refine lv_if_lt (tgt := 29) hx hb dX11_drawn_20 (by decide) (fun c => ?_) (fun c => ?_)
        · skip
          have c_10 : x3.toInt < 0 := (by have z := bn_lt c; have k1 : (0 : Int32).toInt = 0 := (by decide); omega)
          refine lv_iconst (v := (-1)) hx hb dX11_drawn_29 (by decide) ?_
          exact hret _ _ _ _ (-1) f0X L0 Q0 dX11_drawn_30 hP hS ⟨trivial, Or.inr (⟨rfl, by omega⟩)⟩
        · skip
          have c_11 : 0 ≤ x3.toInt := (by have z := bn_nlt c; have k1 : (0 : Int32).toInt = 0 := (by decide); omega)
          refine lv_iload hx hb dX11_drawn_23 (lv_at hl 4 rfl) ?_
          refine lv_iconst (v := 1) hx hb dX11_drawn_25 (by decide) ?_
          refine lv_icmp_le (tgt := 31) hx hb dX11_drawn_26 (by decide) (fun c => ?_) (fun c => ?_)
          · skip
            have c_12 : x3.toInt ≤ 1 := (by have z := bn_le c; have k1 : (1 : Int32).toInt = 1 := (by decide); omega)
            refine lv_aload_n hx hb dX11_drawn_31 rfl (lv_at hl 0 rfl) ?_
            refine lv_iload_n hx hb dX11_drawn_32 rfl (lv_at hl 1 rfl) ?_
            refine sg_calli (va_runV (As := [.int x0]) (rest := []) ⟨hx, hb, hml, hown, hts⟩ (cf_X11_readWeek l D ca za h hh x0 (by first | omega | decide) H.size) (cwV 1 hts (gw_V (fun _ h => List.mem_cons_of_mem _ h) mw_26 mw_27 mw_28 mw_9 mw_25) rfl rfl rfl (by decide +kernel) ⟨Nat.le_of_ble_eq_true rfl, Nat.le_of_ble_eq_true rfl⟩) (sg_preV (ci := 11) (C := RX11) (T := TX11) (N := 10) hA hK hP hS hZ 0 (by decide) rfl rfl) rfl rfl hl.1 rfl (lv_room (Nat.le_of_ble_eq_true rfl)) dX11_drawn_33 ⟨Nat.le_refl _, Nat.le_refl _⟩) hA hS (fun r_17 f_14 L_15 Q_16 H locs hq hP hS => ?_)
            obtain ⟨⟨ef9, eL9, eQ9⟩, hq⟩ := hq
            rw [ef9, eL9, eQ9] at hP; clear ef9 eL9 eQ9
            obtain ⟨rfl, hq⟩ := hq
            have q_18 := hq
            refine lv_istore (lv' := [(5, .int (-11)), (0, .ref (h 0)), (1, .int x0), (2, .int x1), (3, .int x2), (4, .int x3)]) hx hb dX11_drawn_36 hl (by decide) rfl (fun ls hl => ?_)
            refine lv_iload hx hb dX11_drawn_38 (lv_at hl 0 rfl) ?_
            refine lv_if_eq (tgt := 46) hx hb dX11_drawn_40 (by decide) (fun c => absurd c (by decide)) (fun c => ?_)
            refine lv_iload hx hb dX11_drawn_43 (lv_at hl 0 rfl) ?_
            exact hret _ _ _ _ (-11) f0X L0 Q0 dX11_drawn_45 hP hS ⟨trivial, Or.inl ⟨rfl, by omega⟩⟩
          · skip
            have c_13 : 1 < x3.toInt := (by have z := bn_nle c; have k1 : (1 : Int32).toInt = 1 := (by decide); omega)
            refine lv_iconst (v := (-1)) hx hb dX11_drawn_29 (by decide) ?_
            exact hret _ _ _ _ (-1) f0X L0 Q0 dX11_drawn_30 hP hS ⟨trivial, Or.inr (⟨rfl, by omega⟩)⟩
  · skip
    have q_19 := hq
    refine lv_if_eq (tgt := 29) hx hb dX11_drawn_4 (by decide) (fun c => ?_) (fun c => absurd c (by decide))
    refine lv_iconst (v := (-1)) hx hb dX11_drawn_29 (by decide) ?_
    exact hret _ _ _ _ (-1) f0X L0 Q0 dX11_drawn_30 hP hS ⟨trivial, Or.inr (⟨rfl, by omega⟩)⟩

set_option maxHeartbeats 4000000 in
set_option maxRecDepth 100000 in
theorem cf_X11_sit (l : Launch) (D : va_G) (ca : Nat → ClassId) (za h : Nat → Nat) (hh : sgH 52 h) (x0 : Int32) (sz : Nat) : Met l yX11_sit gwX11_sit { frames := 1, cells := 0, slots := 0, locals := 21 } (sgP D vwCl (tyX ca) 52 h (eX ca h) zcX za f0X L0 Q0 sz [.ref (h 0), .int x0]) (sgQi D vwCl 52 h (eX ca h) sz (fun r f1 L1 Q1 => True ∧ ((r = (-1) ∧ (True))))) 0 0 (sgA 52 h sz) := by
  refine sg_ofWi (cc := cX11_sit) (maxL := 2) RX11 (by decide) rfl rfl (Nat.le_of_ble_eq_true rfl) ?_
  intro p e s m below meth cd Qz ls hx hb hml hown hts hK hZ hP hS hl hret
  have hA := sgY.self (n := 52) (h := h) (sz := s.heap.size)
  have hl : lv_has ls 2 [(0, .ref (h 0)), (1, .int x0)] := hl
  obtain ⟨H, hH⟩ : ∃ z : Heap, z = s.heap := ⟨_, rfl⟩
  obtain ⟨locs, hlo⟩ : ∃ z : List Loc, z = [] := ⟨_, rfl⟩
  have hP : va_P D vwCl (sgw 52 h (eX ca h) f0X L0 Q0) H := by rw [hH]; exact hP
  have hS : va_S (sgA 52 h s.heap.size) s.heap H locs := by rw [hH, hlo]; exact hS
  suffices hgo : W p l e ({ frames := 1, cells := 0, slots := 0, locals := 21 }) s m ([.ref (h 0), .int x0] : List Value).toArray below meth cd H locs 0 0 Qz (F0 m 0 ls []) by rw [hH, hlo] at hgo; exact hgo
  refine lv_aload_n hx hb dX11_sit_0 rfl (lv_at hl 0 rfl) ?_
  refine sg_get (ci := 11) (v := .ref (h 1)) (C := RX11) (T := TX11) (N := 10) hx hb hts (fun w h => List.mem_cons_of_mem _ (gx_11 w h)) hown hK hP 0 (by decide) rfl rfl 0 (by decide) (hts _ (List.mem_cons_of_mem _ mw_10)) (fun _ h9 => h9) rfl dX11_sit_1 ?_
  refine lv_iload_n hx hb dX11_sit_4 rfl (lv_at hl 1 rfl) ?_
  refine sg_calli (va_runV (As := [.int x0]) (rest := []) ⟨hx, hb, hml, hown, hts⟩ (cf_X0_has l D ca za h hh f0X L0 Q0 x0 rfl H.size) (cwV 1 hts (gw_V (fun _ h => List.mem_cons_of_mem _ h) mw_12 mw_13 mw_14 mw_15 mw_11) rfl rfl rfl (by decide +kernel) ⟨Nat.le_of_ble_eq_true rfl, Nat.le_of_ble_eq_true rfl⟩) (sg_preV (ci := 0) (C := RX0) (T := TX0) (N := 5) hA hK hP hS hZ 1 (by decide) rfl rfl) rfl rfl hl.1 rfl (lv_room (Nat.le_of_ble_eq_true rfl)) dX11_sit_5 ⟨Nat.le_refl _, Nat.le_refl _⟩) hA hS (fun r_4 f_1 L_2 Q_3 H locs hq hP hS => ?_)
  obtain ⟨⟨ef9, eL9, eQ9⟩, hq⟩ := hq
  rw [ef9, eL9, eQ9] at hP; clear ef9 eL9 eQ9
  obtain ⟨rfl, hq⟩ := hq
  have q_5 := hq
  refine lv_if_eq (tgt := 22) hx hb dX11_sit_8 (by decide) (fun c => ?_) (fun c => absurd c (by decide))
  refine lv_iconst (v := (-1)) hx hb dX11_sit_22 (by decide) ?_
  exact hret _ _ _ _ (-1) f0X L0 Q0 dX11_sit_23 hP hS ⟨trivial, ⟨rfl, trivial⟩⟩

set_option maxHeartbeats 4000000 in
set_option maxRecDepth 100000 in
theorem cf_X0_forget (l : Launch) (D : va_G) (ca : Nat → ClassId) (za h : Nat → Nat) (hh : sgH 52 h) (f : sg_F) (L : sg_L) (Q : sg_Q) (x0 : Int32) (b0 : 0 ≤ x0.toInt ∧ x0.toInt ≤ 7) (hs : f 1 3 = 0) (sz : Nat) : Met l yX0_forget gwX0_forget { frames := 0, cells := 0, slots := 0, locals := 0 } (sgP D vwCl (tyX ca) 52 h (eX ca h) zcX za f L Q sz [.ref (h 1), .int x0]) (sgQv D vwCl 52 h (eX ca h) sz (fun f1 L1 Q1 => (f1 1 3 = 0))) 0 0 (sgA 52 h sz) := by
  refine sg_ofWv (cc := cX0_forget) (maxL := 4) RX0 (by decide) rfl rfl (Nat.le_of_ble_eq_true rfl) ?_
  intro p e s m below meth cd Qz ls hx hb hml hown hts hK hZ hP hS hl hret
  have hA := sgY.self (n := 52) (h := h) (sz := s.heap.size)
  have hl : lv_has ls 4 [(0, .ref (h 1)), (1, .int x0)] := hl
  obtain ⟨H, hH⟩ : ∃ z : Heap, z = s.heap := ⟨_, rfl⟩
  obtain ⟨locs, hlo⟩ : ∃ z : List Loc, z = [] := ⟨_, rfl⟩
  have hP : va_P D vwCl (sgw 52 h (eX ca h) f L Q) H := by rw [hH]; exact hP
  have hS : va_S (sgA 52 h s.heap.size) s.heap H locs := by rw [hH, hlo]; exact hS
  suffices hgo : W p l e ({ frames := 0, cells := 0, slots := 0, locals := 0 }) s m ([.ref (h 1), .int x0] : List Value).toArray below meth cd H locs 0 0 Qz (F0 m 0 ls []) by rw [hH, hlo] at hgo; exact hgo
  refine lv_iload_n hx hb dX0_forget_0 rfl (lv_at hl 1 rfl) ?_
  refine lv_iconst (v := 1) hx hb dX0_forget_1 (by decide) ?_
  refine lv_iadd hx hb dX0_forget_2 ?_
  refine lv_topi (fun v_1 ev_1 => ?_)
  have q_2 : v_1.toInt = x0.toInt + 1 := by rw [ev_1]; have k1 : (1 : Int32).toInt = 1 := (by decide); exact (bn_addI (by omega) (by omega)).trans (by omega)
  refine lv_sipush (v := 183) hx hb dX0_forget_3 (by decide) ?_
  refine lv_imul hx hb dX0_forget_6 ?_
  refine lv_topi (fun v_3 ev_3 => ?_)
  have q_4 : v_3.toInt = v_1.toInt * 183 := by rw [ev_3]; exact bn_mulI (by decide) (by omega) (by omega)
  refine lv_istore_n (lv' := [(2, .int v_3), (0, .ref (h 1)), (1, .int x0)]) hx hb dX0_forget_7 rfl hl (by decide) rfl (fun ls hl => ?_)
  refine lv_iload_n hx hb dX0_forget_8 rfl (lv_at hl 2 rfl) ?_
  refine lv_sipush (v := 183) hx hb dX0_forget_9 (by decide) ?_
  refine lv_imul hx hb dX0_forget_12 ?_
  refine lv_topi (fun v_5 ev_5 => ?_)
  have q_6 : v_5.toInt = x0.toInt * 183 := by rw [ev_5]; exact bn_mulI (by decide) (by omega) (by omega)
  refine lv_istore_n (lv' := [(3, .int v_5), (2, .int v_3), (0, .ref (h 1)), (1, .int x0)]) hx hb dX0_forget_13 rfl hl (by decide) rfl (fun ls hl => ?_)
  have loop_14 : ∀ (n : Nat) (y3_14 : Int32) (fl : sg_F) (H : Heap) (locs : List Loc) (ls : Array Slot), v_3.toInt - y3_14.toInt < (n : Int) → 0 ≤ y3_14.toInt → y3_14.toInt ≤ v_3.toInt → (∀ k : Nat, k ≠ 9 → fl k = f k) → va_P D vwCl (sgw 52 h (eX ca h) fl L Q) H → va_S (sgA 52 h s.heap.size) s.heap H locs → lv_has ls 4 [(3, .int y3_14), (2, .int v_3), (0, .ref (h 1)), (1, .int x0)] → W p l e ({ frames := 0, cells := 0, slots := 0, locals := 0 }) s m ([.ref (h 1), .int x0] : List Value).toArray below meth cd H locs 0 0 Qz (F0 m 14 ls []) := by
    intro n
    induction n with
    | zero => intro y3_14 fl H locs ls hm hf0 hf1 hfr hP hS hl; exact absurd hm (by omega)
    | succ n ih =>
      intro y3_14 fl H locs ls hm hf0 hf1 hfr hP hS hl
      refine lv_iload_n hx hb dX0_forget_14 rfl (lv_at hl 0 rfl) ?_
      refine lv_iload_n hx hb dX0_forget_15 rfl (lv_at hl 1 rfl) ?_
      refine lv_icmp_ge (tgt := 32) hx hb dX0_forget_16 (by decide) (fun c => ?_) (fun c => ?_)
      · skip
        have c_7 : v_3.toInt ≤ y3_14.toInt := (by have z := bn_le c; omega)
        exact hret _ _ _ _ fl L Q dX0_forget_32 hP hS (show _ = _ from (by rw [hfr _ (by decide)]; exact (show _ = _ from hs)))
      · skip
        have c_8 : y3_14.toInt < v_3.toInt := (by have z := bn_nle c; omega)
        refine lv_aload_n hx hb dX0_forget_19 rfl (lv_at hl 2 rfl) ?_
        refine sg_get (ci := 0) (v := .ref (h 9)) (C := RX0) (T := TX0) (N := 5) hx hb hts (fun w h => List.mem_cons_of_mem _ (gx_0 w h)) hown hK hP 1 (by decide) rfl rfl 4 (by decide) (hts _ (List.mem_cons_of_mem _ mw_30)) (fun _ h9 => h9) rfl dX0_forget_20 ?_
        refine lv_iload_n hx hb dX0_forget_23 rfl (lv_at hl 0 rfl) ?_
        refine lv_iconst (v := (-1)) hx hb dX0_forget_24 (by decide) ?_
        refine sg_iast hx hb hh hA hK hP hS 9 (by decide) 0 (fun _ => rfl) rfl (i := y3_14) (x := (-1)) (vp_in_iff.mpr ⟨by omega, by omega⟩) dX0_forget_25 (fun f_9 H locs ef_9 hP hS => ?_)
        obtain ⟨v_10, ev_10⟩ : ∃ z : Int32, z = y3_14 + 1 := ⟨_, rfl⟩
        have q_11 : v_10.toInt = y3_14.toInt + 1 := by rw [ev_10]; exact (bn_addc y3_14 1 (by decide) (by omega) (by omega))
        refine lv_iinc (v := v_10) (lv' := [(3, .int v_10), (2, .int v_3), (0, .ref (h 1)), (1, .int x0)]) hx hb dX0_forget_26 hl (k := 0) rfl (by rw [ev_10]; rfl) (by decide) rfl (fun ls hl => ?_)
        refine lv_goto (tgt := 14) hx hb dX0_forget_29 (by decide) ?_
        exact ih v_10 f_9 _ _ _ (by omega) (by omega) (by omega) (fun k hk => by rw [ef_9, sg_up_n hk]; exact hfr k hk) hP hS (lv_sub hl [0, 1, 2, 3] rfl)
  exact loop_14 2000 v_5 f _ _ _ (by omega) (by omega) (by omega) (fun _ _ => rfl) hP hS (lv_sub hl [0, 1, 2, 3] rfl)

set_option maxHeartbeats 4000000 in
set_option maxRecDepth 100000 in
theorem cf_X0_comes (l : Launch) (D : va_G) (ca : Nat → ClassId) (za h : Nat → Nat) (hh : sgH 52 h) (x0 : Int32) (x1 : Int32) (x2 : Int32) (x3 : Int32) (sz : Nat) : Met l yX0_comes gwX0_comes { frames := 1, cells := 0, slots := 0, locals := 23 } (sgP D vwCl (tyX ca) 52 h (eX ca h) zcX za f0X L0 Q0 sz [.ref (h 1), .int x0, .int x1, .int x2, .int x3]) (sgQi D vwCl 52 h (eX ca h) sz (fun r f1 L1 Q1 => True ∧ ((r = 0 ∧ (True))))) 0 0 (sgA 52 h sz) := by
  refine sg_ofWi (cc := cX0_comes) (maxL := 6) RX0 (by decide) rfl rfl (Nat.le_of_ble_eq_true rfl) ?_
  intro p e s m below meth cd Qz ls hx hb hml hown hts hK hZ hP hS hl hret
  have hA := sgY.self (n := 52) (h := h) (sz := s.heap.size)
  have hl : lv_has ls 6 [(0, .ref (h 1)), (1, .int x0), (2, .int x1), (3, .int x2), (4, .int x3)] := hl
  obtain ⟨H, hH⟩ : ∃ z : Heap, z = s.heap := ⟨_, rfl⟩
  obtain ⟨locs, hlo⟩ : ∃ z : List Loc, z = [] := ⟨_, rfl⟩
  have hP : va_P D vwCl (sgw 52 h (eX ca h) f0X L0 Q0) H := by rw [hH]; exact hP
  have hS : va_S (sgA 52 h s.heap.size) s.heap H locs := by rw [hH, hlo]; exact hS
  suffices hgo : W p l e ({ frames := 1, cells := 0, slots := 0, locals := 23 }) s m ([.ref (h 1), .int x0, .int x1, .int x2, .int x3] : List Value).toArray below meth cd H locs 0 0 Qz (F0 m 0 ls []) by rw [hH, hlo] at hgo; exact hgo
  refine lv_aload_n hx hb dX0_comes_0 rfl (lv_at hl 0 rfl) ?_
  refine sg_get (ci := 0) (v := .int 0) (C := RX0) (T := TX0) (N := 5) hx hb hts (fun w h => List.mem_cons_of_mem _ (gx_0 w h)) hown hK hP 1 (by decide) rfl rfl 3 (by decide) (hts _ (List.mem_cons_of_mem _ mw_2)) (fun _ h9 => h9) rfl dX0_comes_1 ?_
  refine lv_bipush (v := 8) hx hb dX0_comes_4 (by decide) ?_
  refine lv_icmp_lt (tgt := 12) hx hb dX0_comes_6 (by decide) (fun c => ?_) (fun c => absurd c (by decide))
  refine lv_aload_n hx hb dX0_comes_12 rfl (lv_at hl 0 rfl) ?_
  refine sg_get (ci := 0) (v := .int 0) (C := RX0) (T := TX0) (N := 5) hx hb hts (fun w h => List.mem_cons_of_mem _ (gx_0 w h)) hown hK hP 1 (by decide) rfl rfl 3 (by decide) (hts _ (List.mem_cons_of_mem _ mw_2)) (fun _ h9 => h9) rfl dX0_comes_13 ?_
  refine lv_bipush (v := 8) hx hb dX0_comes_16 (by decide) ?_
  refine lv_imul hx hb dX0_comes_18 ?_
  refine W.eq (g2 := F0 m 19 ls [.int 0]) (by rw [show (0 * 8 : Int32) = 0 from by decide]) ?_
  refine lv_istore (lv' := [(5, .int 0), (0, .ref (h 1)), (1, .int x0), (2, .int x1), (3, .int x2), (4, .int x3)]) hx hb dX0_comes_19 hl (by decide) rfl (fun ls hl => ?_)
  refine lv_aload_n hx hb dX0_comes_21 rfl (lv_at hl 1 rfl) ?_
  refine sg_get (ci := 0) (v := .ref (h 2)) (C := RX0) (T := TX0) (N := 5) hx hb hts (fun w h => List.mem_cons_of_mem _ (gx_0 w h)) hown hK hP 1 (by decide) rfl rfl 0 (by decide) (hts _ (List.mem_cons_of_mem _ mw_31)) (fun _ h9 => h9) rfl dX0_comes_22 ?_
  refine lv_iload hx hb dX0_comes_25 (lv_at hl 0 rfl) ?_
  refine lv_iload_n hx hb dX0_comes_27 rfl (lv_at hl 2 rfl) ?_
  refine sg_iast hx hb hh hA hK hP hS 2 (by decide) 0 (fun _ => rfl) rfl (i := 0) (x := x0) (vp_in_iff.mpr (by decide)) dX0_comes_28 (fun f_1 H locs ef_1 hP hS => ?_)
  refine lv_aload_n hx hb dX0_comes_29 rfl (lv_at hl 1 rfl) ?_
  refine sg_get (ci := 0) (v := .ref (h 2)) (C := RX0) (T := TX0) (N := 5) hx hb hts (fun w h => List.mem_cons_of_mem _ (gx_0 w h)) hown hK hP 1 (by decide) rfl rfl 0 (by decide) (hts _ (List.mem_cons_of_mem _ mw_31)) (fun _ h9 => h9) rfl dX0_comes_30 ?_
  refine lv_iload hx hb dX0_comes_33 (lv_at hl 0 rfl) ?_
  refine lv_iconst (v := 1) hx hb dX0_comes_35 (by decide) ?_
  refine lv_iadd hx hb dX0_comes_36 ?_
  refine W.eq (g2 := F0 m 37 ls [.int 1, .ref (h 2)]) (by rw [show (0 + 1 : Int32) = 1 from by decide]) ?_
  refine lv_iload_n hx hb dX0_comes_37 rfl (lv_at hl 3 rfl) ?_
  refine sg_iast hx hb hh hA hK hP hS 2 (by decide) 0 (fun _ => rfl) rfl (i := 1) (x := x1) (vp_in_iff.mpr (by decide)) dX0_comes_38 (fun f_2 H locs ef_2 hP hS => ?_)
  refine lv_aload_n hx hb dX0_comes_39 rfl (lv_at hl 1 rfl) ?_
  refine sg_get (ci := 0) (v := .ref (h 2)) (C := RX0) (T := TX0) (N := 5) hx hb hts (fun w h => List.mem_cons_of_mem _ (gx_0 w h)) hown hK hP 1 (by decide) rfl rfl 0 (by decide) (hts _ (List.mem_cons_of_mem _ mw_31)) (fun _ h9 => h9) rfl dX0_comes_40 ?_
  refine lv_iload hx hb dX0_comes_43 (lv_at hl 0 rfl) ?_
  refine lv_iconst (v := 2) hx hb dX0_comes_45 (by decide) ?_
  refine lv_iadd hx hb dX0_comes_46 ?_
  refine W.eq (g2 := F0 m 47 ls [.int 2, .ref (h 2)]) (by rw [show (0 + 2 : Int32) = 2 from by decide]) ?_
  refine lv_iload_n hx hb dX0_comes_47 rfl (lv_at hl 4 rfl) ?_
  refine sg_iast hx hb hh hA hK hP hS 2 (by decide) 0 (fun _ => rfl) rfl (i := 2) (x := x2) (vp_in_iff.mpr (by decide)) dX0_comes_48 (fun f_3 H locs ef_3 hP hS => ?_)
  refine lv_aload_n hx hb dX0_comes_49 rfl (lv_at hl 1 rfl) ?_
  refine sg_get (ci := 0) (v := .ref (h 2)) (C := RX0) (T := TX0) (N := 5) hx hb hts (fun w h => List.mem_cons_of_mem _ (gx_0 w h)) hown hK hP 1 (by decide) rfl rfl 0 (by decide) (hts _ (List.mem_cons_of_mem _ mw_31)) (fun _ h9 => h9) rfl dX0_comes_50 ?_
  refine lv_iload hx hb dX0_comes_53 (lv_at hl 0 rfl) ?_
  refine lv_iconst (v := 3) hx hb dX0_comes_55 (by decide) ?_
  refine lv_iadd hx hb dX0_comes_56 ?_
  refine W.eq (g2 := F0 m 57 ls [.int 3, .ref (h 2)]) (by rw [show (0 + 3 : Int32) = 3 from by decide]) ?_
  refine lv_iconst (v := 1) hx hb dX0_comes_57 (by decide) ?_
  refine sg_iast hx hb hh hA hK hP hS 2 (by decide) 0 (fun _ => rfl) rfl (i := 3) (x := 1) (vp_in_iff.mpr (by decide)) dX0_comes_58 (fun f_4 H locs ef_4 hP hS => ?_)
  refine lv_aload_n hx hb dX0_comes_59 rfl (lv_at hl 1 rfl) ?_
  refine sg_get (ci := 0) (v := .ref (h 2)) (C := RX0) (T := TX0) (N := 5) hx hb hts (fun w h => List.mem_cons_of_mem _ (gx_0 w h)) hown hK hP 1 (by decide) rfl rfl 0 (by decide) (hts _ (List.mem_cons_of_mem _ mw_31)) (fun _ h9 => h9) rfl dX0_comes_60 ?_
  refine lv_iload hx hb dX0_comes_63 (lv_at hl 0 rfl) ?_
  refine lv_iconst (v := 4) hx hb dX0_comes_65 (by decide) ?_
  refine lv_iadd hx hb dX0_comes_66 ?_
  refine W.eq (g2 := F0 m 67 ls [.int 4, .ref (h 2)]) (by rw [show (0 + 4 : Int32) = 4 from by decide]) ?_
  refine lv_iconst (v := 1) hx hb dX0_comes_67 (by decide) ?_
  refine sg_iast hx hb hh hA hK hP hS 2 (by decide) 0 (fun _ => rfl) rfl (i := 4) (x := 1) (vp_in_iff.mpr (by decide)) dX0_comes_68 (fun f_5 H locs ef_5 hP hS => ?_)
  refine lv_aload_n hx hb dX0_comes_69 rfl (lv_at hl 1 rfl) ?_
  refine sg_get (ci := 0) (v := .ref (h 2)) (C := RX0) (T := TX0) (N := 5) hx hb hts (fun w h => List.mem_cons_of_mem _ (gx_0 w h)) hown hK hP 1 (by decide) rfl rfl 0 (by decide) (hts _ (List.mem_cons_of_mem _ mw_31)) (fun _ h9 => h9) rfl dX0_comes_70 ?_
  refine lv_iload hx hb dX0_comes_73 (lv_at hl 0 rfl) ?_
  refine lv_iconst (v := 5) hx hb dX0_comes_75 (by decide) ?_
  refine lv_iadd hx hb dX0_comes_76 ?_
  refine W.eq (g2 := F0 m 77 ls [.int 5, .ref (h 2)]) (by rw [show (0 + 5 : Int32) = 5 from by decide]) ?_
  refine lv_iload hx hb dX0_comes_77 (lv_at hl 5 rfl) ?_
  refine sg_iast hx hb hh hA hK hP hS 2 (by decide) 0 (fun _ => rfl) rfl (i := 5) (x := x3) (vp_in_iff.mpr (by decide)) dX0_comes_79 (fun f_6 H locs ef_6 hP hS => ?_)
  refine lv_aload_n hx hb dX0_comes_80 rfl (lv_at hl 1 rfl) ?_
  refine lv_aload_n hx hb dX0_comes_81 rfl (lv_at hl 1 rfl) ?_
  refine sg_get (ci := 0) (v := .int 0) (C := RX0) (T := TX0) (N := 5) hx hb hts (fun w h => List.mem_cons_of_mem _ (gx_0 w h)) hown hK hP 1 (by decide) rfl rfl 3 (by decide) (hts _ (List.mem_cons_of_mem _ mw_2)) (fun _ h9 => h9) (congrArg (fun z => some (Value.int z)) (show f_6 1 3 = 0 from (by rw [ef_6]; exact (show _ = _ from (by rw [ef_5]; exact (show _ = _ from (by rw [ef_4]; exact (show _ = _ from (by rw [ef_3]; exact (show _ = _ from (by rw [ef_2]; exact (show _ = _ from (by rw [ef_1]; exact rfl))))))))))))) dX0_comes_82 ?_
  refine sg_callv (va_runV (As := [.int 0]) (rest := []) ⟨hx, hb, hml, hown, hts⟩ (cf_X0_forget l D ca za h hh f_6 L0 Q0 0 (by first | omega | decide) ((by rw [ef_6]; exact (show _ = _ from (by rw [ef_5]; exact (show _ = _ from (by rw [ef_4]; exact (show _ = _ from (by rw [ef_3]; exact (show _ = _ from (by rw [ef_2]; exact (show _ = _ from (by rw [ef_1]; exact rfl)))))))))))) H.size) (cwV 1 hts (gw_V (fun _ h => List.mem_cons_of_mem _ h) mw_33 mw_34 mw_35 mw_15 mw_32) rfl rfl rfl (by decide +kernel) ⟨Nat.le_of_ble_eq_true rfl, Nat.le_of_ble_eq_true rfl⟩) (sg_preV (ci := 0) (C := RX0) (T := TX0) (N := 5) hA hK hP hS hZ 1 (by decide) rfl rfl) rfl rfl hl.1 rfl (lv_room (Nat.le_of_ble_eq_true rfl)) dX0_comes_85 ⟨Nat.le_refl _, Nat.le_refl _⟩) hA hS (fun f_7 L_8 Q_9 H locs hq hP hS => ?_)
  have h_10 := hq
  refine lv_aload_n hx hb dX0_comes_88 rfl (lv_at hl 1 rfl) ?_
  refine lv_dup hx hb dX0_comes_89 rfl ?_
  refine sg_get (ci := 0) (v := .int 0) (C := RX0) (T := TX0) (N := 5) hx hb hts (fun w h => List.mem_cons_of_mem _ (gx_0 w h)) hown hK hP 1 (by decide) rfl rfl 3 (by decide) (hts _ (List.mem_cons_of_mem _ mw_2)) (fun _ h9 => h9) (congrArg (fun z => some (Value.int z)) (show f_7 1 3 = 0 from h_10)) dX0_comes_90 ?_
  refine lv_iconst (v := 1) hx hb dX0_comes_93 (by decide) ?_
  refine lv_iadd hx hb dX0_comes_94 ?_
  refine W.eq (g2 := F0 m 95 ls [.int 1, .ref (h 1)]) (by rw [show (0 + 1 : Int32) = 1 from by decide]) ?_
  refine sg_put (ci := 0) (x := 1) (ty := .int) (C := RX0) (T := TX0) (N := 5) hx hb hts (fun w h => List.mem_cons_of_mem _ (gx_0 w h)) tyX0 tyX0_ok nmX0 hown hh hA hK hP hS 1 (by decide) rfl rfl 3 (by decide) (hts _ (List.mem_cons_of_mem _ mw_2)) (fun _ h9 => h9) rfl rfl (by decide +kernel) rfl rfl (Nat.le_of_ble_eq_true rfl) dX0_comes_95 (fun f_11 H locs ef_11 hP hS => ?_)
  refine lv_aload_n hx hb dX0_comes_98 rfl (lv_at hl 1 rfl) ?_
  refine sg_get (ci := 0) (v := .int 1) (C := RX0) (T := TX0) (N := 5) hx hb hts (fun w h => List.mem_cons_of_mem _ (gx_0 w h)) hown hK hP 1 (by decide) rfl rfl 3 (by decide) (hts _ (List.mem_cons_of_mem _ mw_2)) (fun _ h9 => h9) (congrArg (fun z => some (Value.int z)) (show f_11 1 3 = 1 from (by rw [ef_11]; rfl))) dX0_comes_99 ?_
  refine lv_iconst (v := 1) hx hb dX0_comes_102 (by decide) ?_
  refine lv_isub hx hb dX0_comes_103 ?_
  refine W.eq (g2 := F0 m 104 ls [.int 0]) (by rw [show (1 - 1 : Int32) = 0 from by decide]) ?_
  exact hret _ _ _ _ (0) f_11 L_8 Q_9 dX0_comes_104 hP hS ⟨trivial, ⟨rfl, trivial⟩⟩

set_option maxHeartbeats 4000000 in
set_option maxRecDepth 100000 in
theorem cf_X11_sitter (l : Launch) (D : va_G) (ca : Nat → ClassId) (za h : Nat → Nat) (hh : sgH 52 h) (x0 : Int32) (x1 : Int32) (sz : Nat) : Met l yX11_sitter gwX11_sitter { frames := 2, cells := 0, slots := 0, locals := 48 } (sgP D vwCl (tyX ca) 52 h (eX ca h) zcX za f0X L0 Q0 sz [.ref (h 0), .int x0, .int x1]) (sgQi D vwCl 52 h (eX ca h) sz (fun r f1 L1 Q1 => True ∧ ((r = 0 ∧ ((0 ≤ x0.toInt ∧ x0.toInt ≤ 60) ∧ (1 ≤ x1.toInt ∧ x1.toInt ≤ 12))) ∨ (r = (-1) ∧ (¬ ((0 ≤ x0.toInt ∧ x0.toInt ≤ 60) ∧ (1 ≤ x1.toInt ∧ x1.toInt ≤ 12))))))) 0 0 (sgA 52 h sz) := by
  refine sg_ofWi (cc := cX11_sitter) (maxL := 3) RX11 (by decide) rfl rfl (Nat.le_of_ble_eq_true rfl) ?_
  intro p e s m below meth cd Qz ls hx hb hml hown hts hK hZ hP hS hl hret
  have hA := sgY.self (n := 52) (h := h) (sz := s.heap.size)
  have hl : lv_has ls 3 [(0, .ref (h 0)), (1, .int x0), (2, .int x1)] := hl
  obtain ⟨H, hH⟩ : ∃ z : Heap, z = s.heap := ⟨_, rfl⟩
  obtain ⟨locs, hlo⟩ : ∃ z : List Loc, z = [] := ⟨_, rfl⟩
  have hP : va_P D vwCl (sgw 52 h (eX ca h) f0X L0 Q0) H := by rw [hH]; exact hP
  have hS : va_S (sgA 52 h s.heap.size) s.heap H locs := by rw [hH, hlo]; exact hS
  suffices hgo : W p l e ({ frames := 2, cells := 0, slots := 0, locals := 48 }) s m ([.ref (h 0), .int x0, .int x1] : List Value).toArray below meth cd H locs 0 0 Qz (F0 m 0 ls []) by rw [hH, hlo] at hgo; exact hgo
  refine lv_iload_n hx hb dX11_sitter_0 rfl (lv_at hl 1 rfl) ?_
  refine sg_calli (va_runS (As := [.int x0]) (rest := []) ⟨hx, hb, hml, hown, hts⟩ (cf_X11_isSetting l D ca za h hh f0X L0 Q0 x0 H.size) (va_cwS 1 hts (gw_S (fun _ h => List.mem_cons_of_mem _ h) mw_23 mw_24 mw_9 mw_22) rfl rfl rfl (by decide +kernel) ⟨Nat.le_of_ble_eq_true rfl, Nat.le_of_ble_eq_true rfl⟩) (sg_preS hA hK hP hS hZ) rfl rfl hl.1 rfl (lv_room (Nat.le_of_ble_eq_true rfl)) dX11_sitter_1 ⟨Nat.le_refl _, Nat.le_refl _⟩) hA hS (fun r_4 f_1 L_2 Q_3 H locs hq hP hS => ?_)
  obtain ⟨⟨ef9, eL9, eQ9⟩, hq⟩ := hq
  rw [ef9, eL9, eQ9] at hP; clear ef9 eL9 eQ9
  rcases hq with ⟨rfl, hq⟩ | ⟨rfl, hq⟩
  · skip
    have q_5 := hq
    refine lv_if_eq (tgt := 15) hx hb dX11_sitter_4 (by decide) (fun c => absurd c (by decide)) (fun c => ?_)
    refine lv_iconst (v := 5) hx hb dX11_sitter_7 (by decide) ?_
    refine lv_iload_n hx hb dX11_sitter_8 rfl (lv_at hl 2 rfl) ?_
    refine sg_calli (va_runS (As := [.int 5, .int x1]) (rest := []) ⟨hx, hb, hml, hown, hts⟩ (cf_X11_fits_5 l D ca za h hh f0X L0 Q0 x1 H.size) (va_cwS 2 hts (gw_S (fun _ h => List.mem_cons_of_mem _ h) mw_37 mw_38 mw_9 mw_36) rfl rfl rfl (by decide +kernel) ⟨Nat.le_of_ble_eq_true rfl, Nat.le_of_ble_eq_true rfl⟩) (sg_preS hA hK hP hS hZ) rfl rfl hl.1 rfl (lv_room (Nat.le_of_ble_eq_true rfl)) dX11_sitter_9 ⟨Nat.le_refl _, Nat.le_refl _⟩) hA hS (fun r_9 f_6 L_7 Q_8 H locs hq hP hS => ?_)
    obtain ⟨⟨ef9, eL9, eQ9⟩, hq⟩ := hq
    rw [ef9, eL9, eQ9] at hP; clear ef9 eL9 eQ9
    have k_10 : (5 : Int32).toInt = 5 := by decide
    rcases hq with ⟨rfl, hq⟩ | ⟨rfl, hq⟩
    · skip
      have q_11 := hq
      refine lv_if_ne (tgt := 17) hx hb dX11_sitter_12 (by decide) (fun c => ?_) (fun c => absurd c (by decide))
      refine lv_aload_n hx hb dX11_sitter_17 rfl (lv_at hl 0 rfl) ?_
      refine sg_get (ci := 11) (v := .ref (h 1)) (C := RX11) (T := TX11) (N := 10) hx hb hts (fun w h => List.mem_cons_of_mem _ (gx_11 w h)) hown hK hP 0 (by decide) rfl rfl 0 (by decide) (hts _ (List.mem_cons_of_mem _ mw_10)) (fun _ h9 => h9) rfl dX11_sitter_18 ?_
      refine lv_iload_n hx hb dX11_sitter_21 rfl (lv_at hl 1 rfl) ?_
      refine lv_iload_n hx hb dX11_sitter_22 rfl (lv_at hl 1 rfl) ?_
      refine lv_iload_n hx hb dX11_sitter_23 rfl (lv_at hl 1 rfl) ?_
      refine lv_iload_n hx hb dX11_sitter_24 rfl (lv_at hl 2 rfl) ?_
      refine sg_calli (va_runV (As := [.int x0, .int x0, .int x0, .int x1]) (rest := []) ⟨hx, hb, hml, hown, hts⟩ (cf_X0_comes l D ca za h hh x0 x0 x0 x1 H.size) (cwV 4 hts (gw_V (fun _ h => List.mem_cons_of_mem _ h) mw_40 mw_41 mw_42 mw_15 mw_39) rfl rfl rfl (by decide +kernel) ⟨Nat.le_of_ble_eq_true rfl, Nat.le_of_ble_eq_true rfl⟩) (sg_preV (ci := 0) (C := RX0) (T := TX0) (N := 5) hA hK hP hS hZ 1 (by decide) rfl rfl) rfl rfl hl.1 rfl (lv_room (Nat.le_of_ble_eq_true rfl)) dX11_sitter_25 ⟨Nat.le_refl _, Nat.le_refl _⟩) hA hS (fun r_15 f_12 L_13 Q_14 H locs hq hP hS => ?_)
      obtain ⟨-, hq⟩ := hq
      obtain ⟨rfl, hq⟩ := hq
      have q_16 := hq
      exact hret _ _ _ _ (0) f_12 L_13 Q_14 dX11_sitter_28 hP hS ⟨trivial, Or.inl ⟨rfl, by omega⟩⟩
    · skip
      have q_17 := hq
      refine lv_if_ne (tgt := 17) hx hb dX11_sitter_12 (by decide) (fun c => absurd c (by decide)) (fun c => ?_)
      refine lv_iconst (v := (-1)) hx hb dX11_sitter_15 (by decide) ?_
      exact hret _ _ _ _ (-1) f0X L0 Q0 dX11_sitter_16 hP hS ⟨trivial, Or.inr (⟨rfl, by omega⟩)⟩
  · skip
    have q_18 := hq
    refine lv_if_eq (tgt := 15) hx hb dX11_sitter_4 (by decide) (fun c => ?_) (fun c => absurd c (by decide))
    refine lv_iconst (v := (-1)) hx hb dX11_sitter_15 (by decide) ?_
    exact hret _ _ _ _ (-1) f0X L0 Q0 dX11_sitter_16 hP hS ⟨trivial, Or.inr (⟨rfl, by omega⟩)⟩

set_option maxHeartbeats 4000000 in
set_option maxRecDepth 100000 in
theorem cf_X11_sitters (l : Launch) (D : va_G) (ca : Nat → ClassId) (za h : Nat → Nat) (hh : sgH 52 h) (x0 : Int32) (x1 : Int32) (x2 : Int32) (sz : Nat) : Met l yX11_sitters gwX11_sitters { frames := 1, cells := 0, slots := 0, locals := 20 } (sgP D vwCl (tyX ca) 52 h (eX ca h) zcX za f0X L0 Q0 sz [.ref (h 0), .int x0, .int x1, .int x2]) (sgQi D vwCl 52 h (eX ca h) sz (fun r f1 L1 Q1 => True ∧ ((r = 0 ∧ ((0 ≤ x0.toInt ∧ x0.toInt ≤ 5) ∧ (1 ≤ x2.toInt ∧ x2.toInt ≤ 8))) ∨ (r = (-1) ∧ (¬ ((0 ≤ x0.toInt ∧ x0.toInt ≤ 5) ∧ (1 ≤ x2.toInt ∧ x2.toInt ≤ 8))))))) 0 0 (sgA 52 h sz) := by
  refine sg_ofWi (cc := cX11_sitters) (maxL := 5) RX11 (by decide) rfl rfl (Nat.le_of_ble_eq_true rfl) ?_
  intro p e s m below meth cd Qz ls hx hb hml hown hts hK hZ hP hS hl hret
  have hA := sgY.self (n := 52) (h := h) (sz := s.heap.size)
  have hl : lv_has ls 5 [(0, .ref (h 0)), (1, .int x0), (2, .int x1), (3, .int x2)] := hl
  obtain ⟨H, hH⟩ : ∃ z : Heap, z = s.heap := ⟨_, rfl⟩
  obtain ⟨locs, hlo⟩ : ∃ z : List Loc, z = [] := ⟨_, rfl⟩
  have hP : va_P D vwCl (sgw 52 h (eX ca h) f0X L0 Q0) H := by rw [hH]; exact hP
  have hS : va_S (sgA 52 h s.heap.size) s.heap H locs := by rw [hH, hlo]; exact hS
  suffices hgo : W p l e ({ frames := 1, cells := 0, slots := 0, locals := 20 }) s m ([.ref (h 0), .int x0, .int x1, .int x2] : List Value).toArray below meth cd H locs 0 0 Qz (F0 m 0 ls []) by rw [hH, hlo] at hgo; exact hgo
  refine lv_iload_n hx hb dX11_sitters_0 rfl (lv_at hl 1 rfl) ?_
  refine sg_calli (va_runS (As := [.int x0]) (rest := []) ⟨hx, hb, hml, hown, hts⟩ (cf_X11_isShelf l D ca za h hh f0X L0 Q0 x0 H.size) (va_cwS 1 hts (gw_S (fun _ h => List.mem_cons_of_mem _ h) mw_17 mw_18 mw_9 mw_16) rfl rfl rfl (by decide +kernel) ⟨Nat.le_of_ble_eq_true rfl, Nat.le_of_ble_eq_true rfl⟩) (sg_preS hA hK hP hS hZ) rfl rfl hl.1 rfl (lv_room (Nat.le_of_ble_eq_true rfl)) dX11_sitters_1 ⟨Nat.le_refl _, Nat.le_refl _⟩) hA hS (fun r_4 f_1 L_2 Q_3 H locs hq hP hS => ?_)
  obtain ⟨⟨ef9, eL9, eQ9⟩, hq⟩ := hq
  rw [ef9, eL9, eQ9] at hP; clear ef9 eL9 eQ9
  rcases hq with ⟨rfl, hq⟩ | ⟨rfl, hq⟩
  · skip
    have q_5 := hq
    refine lv_if_eq (tgt := 18) hx hb dX11_sitters_4 (by decide) (fun c => absurd c (by decide)) (fun c => ?_)
    refine lv_iload_n hx hb dX11_sitters_7 rfl (lv_at hl 3 rfl) ?_
    refine lv_iconst (v := 1) hx hb dX11_sitters_8 (by decide) ?_
    refine lv_icmp_lt (tgt := 18) hx hb dX11_sitters_9 (by decide) (fun c => ?_) (fun c => ?_)
    · skip
      have c_6 : x2.toInt < 1 := (by have z := bn_lt c; have k1 : (1 : Int32).toInt = 1 := (by decide); omega)
      refine lv_iconst (v := (-1)) hx hb dX11_sitters_18 (by decide) ?_
      exact hret _ _ _ _ (-1) f0X L0 Q0 dX11_sitters_19 hP hS ⟨trivial, Or.inr (⟨rfl, by omega⟩)⟩
    · skip
      have c_7 : 1 ≤ x2.toInt := (by have z := bn_nlt c; have k1 : (1 : Int32).toInt = 1 := (by decide); omega)
      refine lv_iload_n hx hb dX11_sitters_12 rfl (lv_at hl 3 rfl) ?_
      refine lv_bipush (v := 8) hx hb dX11_sitters_13 (by decide) ?_
      refine lv_icmp_le (tgt := 20) hx hb dX11_sitters_15 (by decide) (fun c => ?_) (fun c => ?_)
      · skip
        have c_8 : x2.toInt ≤ 8 := (by have z := bn_le c; have k1 : (8 : Int32).toInt = 8 := (by decide); omega)
        refine lv_aload_n hx hb dX11_sitters_20 rfl (lv_at hl 0 rfl) ?_
        refine sg_get (ci := 11) (v := .ref (h 39)) (C := RX11) (T := TX11) (N := 10) hx hb hts (fun w h => List.mem_cons_of_mem _ (gx_11 w h)) hown hK hP 0 (by decide) rfl rfl 9 (by decide) (hts _ (List.mem_cons_of_mem _ mw_3)) (fun _ h9 => h9) rfl dX11_sitters_21 ?_
        refine lv_iload_n hx hb dX11_sitters_24 rfl (lv_at hl 1 rfl) ?_
        obtain ⟨t_10, et_10⟩ : ∃ z : Nat, z = x0.toNatClampNeg := ⟨_, rfl⟩
        have ht_t_10 : t_10 < 6 := by rw [et_10]; exact bn_kI (by omega) (by omega)
        refine sg_aald hx hb hK hP 39 (by decide) 3 rfl rfl (i := x0) (a := (h (40 + 2 * t_10))) (vp_in_iff.mpr ⟨by omega, by omega⟩) (show (if x0.toNatClampNeg < 6 then some (h (40 + 2 * x0.toNatClampNeg)) else none) = some (h (40 + 2 * t_10)) from by rw [← et_10, if_pos ht_t_10]) dX11_sitters_25 ?_
        refine lv_astore (lv' := [(4, .ref (h (40 + 2 * t_10))), (0, .ref (h 0)), (1, .int x0), (2, .int x1), (3, .int x2)]) hx hb dX11_sitters_26 hl (by decide) rfl (fun ls hl => ?_)
        refine lv_aload hx hb dX11_sitters_28 (lv_at hl 0 rfl) ?_
        refine sg_get (ci := 7) (v := .int (-1)) (C := RX7) (T := TX7) (N := 4) hx hb hts (fun w h => List.mem_cons_of_mem _ (gx_7 w h)) hown hK hP (40 + 2 * t_10) (by have := ht_t_10; omega) (eX_sh ca h ht_t_10 _ _ _) rfl 1 (by decide) (hts _ (List.mem_cons_of_mem _ mw_4)) (fun _ h9 => h9) (congrArg (fun z => some (Value.int z)) (show f0X (40 + 2 * t_10) 1 = (-1) from (by rw [f0X_sh ht_t_10]; rfl))) dX11_sitters_30 ?_
        refine lv_iconst (v := (-1)) hx hb dX11_sitters_33 (by decide) ?_
        refine lv_icmp_ne (tgt := 39) hx hb dX11_sitters_34 (by decide) (fun c => absurd c (by decide)) (fun c => ?_)
        refine lv_iconst (v := 0) hx hb dX11_sitters_37 (by decide) ?_
        exact hret _ _ _ _ (0) f0X L0 Q0 dX11_sitters_38 hP hS ⟨trivial, Or.inl ⟨rfl, by omega⟩⟩
      · skip
        have c_9 : 8 < x2.toInt := (by have z := bn_nle c; have k1 : (8 : Int32).toInt = 8 := (by decide); omega)
        refine lv_iconst (v := (-1)) hx hb dX11_sitters_18 (by decide) ?_
        exact hret _ _ _ _ (-1) f0X L0 Q0 dX11_sitters_19 hP hS ⟨trivial, Or.inr (⟨rfl, by omega⟩)⟩
  · skip
    have q_11 := hq
    refine lv_if_eq (tgt := 18) hx hb dX11_sitters_4 (by decide) (fun c => ?_) (fun c => absurd c (by decide))
    refine lv_iconst (v := (-1)) hx hb dX11_sitters_18 (by decide) ?_
    exact hret _ _ _ _ (-1) f0X L0 Q0 dX11_sitters_19 hP hS ⟨trivial, Or.inr (⟨rfl, by omega⟩)⟩

set_option maxHeartbeats 4000000 in
set_option maxRecDepth 100000 in
theorem cf_X0_placeOf (l : Launch) (D : va_G) (ca : Nat → ClassId) (za h : Nat → Nat) (hh : sgH 52 h) (f : sg_F) (L : sg_L) (Q : sg_Q) (x0 : Int32) (x1 : Int32) (hs : f 1 3 = 0) (sz : Nat) : Met l yX0_placeOf gwX0_placeOf { frames := 0, cells := 0, slots := 0, locals := 0 } (sgP D vwCl (tyX ca) 52 h (eX ca h) zcX za f L Q sz [.ref (h 1), .int x0, .int x1]) (sgQi D vwCl 52 h (eX ca h) sz (fun r f1 L1 Q1 => (f1 = f ∧ L1 = L ∧ Q1 = Q) ∧ ((r = (-1) ∧ (x1.toInt < 8 ∨ 10 < x1.toInt ∨ x0.toInt < 0 ∨ 2 < x0.toInt ∨ (x1.toInt = 10 ∧ x0.toInt ≠ 0))) ∨ (r = 64 ∧ (x1.toInt = 8 ∧ x0.toInt = 0)) ∨ (r = 65 ∧ (x1.toInt = 8 ∧ x0.toInt = 1)) ∨ (r = 66 ∧ (x1.toInt = 8 ∧ x0.toInt = 2)) ∨ (r = 67 ∧ (x1.toInt = 9 ∧ x0.toInt = 0)) ∨ (r = 68 ∧ (x1.toInt = 9 ∧ x0.toInt = 1)) ∨ (r = 69 ∧ (x1.toInt = 9 ∧ x0.toInt = 2)) ∨ (r = 70 ∧ (x1.toInt = 10 ∧ x0.toInt = 0))))) 0 0 (sgA 52 h sz) := by
  refine sg_ofWi (cc := cX0_placeOf) (maxL := 3) RX0 (by decide) rfl rfl (Nat.le_of_ble_eq_true rfl) ?_
  intro p e s m below meth cd Qz ls hx hb hml hown hts hK hZ hP hS hl hret
  have hA := sgY.self (n := 52) (h := h) (sz := s.heap.size)
  have hl : lv_has ls 3 [(0, .ref (h 1)), (1, .int x0), (2, .int x1)] := hl
  obtain ⟨H, hH⟩ : ∃ z : Heap, z = s.heap := ⟨_, rfl⟩
  obtain ⟨locs, hlo⟩ : ∃ z : List Loc, z = [] := ⟨_, rfl⟩
  have hP : va_P D vwCl (sgw 52 h (eX ca h) f L Q) H := by rw [hH]; exact hP
  have hS : va_S (sgA 52 h s.heap.size) s.heap H locs := by rw [hH, hlo]; exact hS
  suffices hgo : W p l e ({ frames := 0, cells := 0, slots := 0, locals := 0 }) s m ([.ref (h 1), .int x0, .int x1] : List Value).toArray below meth cd H locs 0 0 Qz (F0 m 0 ls []) by rw [hH, hlo] at hgo; exact hgo
  refine lv_iload_n hx hb dX0_placeOf_0 rfl (lv_at hl 1 rfl) ?_
  refine lv_if_lt (tgt := 14) hx hb dX0_placeOf_1 (by decide) (fun c => ?_) (fun c => ?_)
  · skip
    have c_1 : x0.toInt < 0 := (by have z := bn_lt c; have k1 : (0 : Int32).toInt = 0 := (by decide); omega)
    refine lv_iconst (v := (-1)) hx hb dX0_placeOf_14 (by decide) ?_
    exact hret _ _ _ _ (-1) f L Q dX0_placeOf_15 hP hS ⟨⟨rfl, rfl, rfl⟩, Or.inl ⟨rfl, by omega⟩⟩
  · skip
    have c_2 : 0 ≤ x0.toInt := (by have z := bn_nlt c; have k1 : (0 : Int32).toInt = 0 := (by decide); omega)
    refine lv_iload_n hx hb dX0_placeOf_4 rfl (lv_at hl 2 rfl) ?_
    refine lv_if_lt (tgt := 14) hx hb dX0_placeOf_5 (by decide) (fun c => ?_) (fun c => ?_)
    · skip
      have c_3 : x1.toInt < 0 := (by have z := bn_lt c; have k1 : (0 : Int32).toInt = 0 := (by decide); omega)
      refine lv_iconst (v := (-1)) hx hb dX0_placeOf_14 (by decide) ?_
      exact hret _ _ _ _ (-1) f L Q dX0_placeOf_15 hP hS ⟨⟨rfl, rfl, rfl⟩, Or.inl ⟨rfl, by omega⟩⟩
    · skip
      have c_4 : 0 ≤ x1.toInt := (by have z := bn_nlt c; have k1 : (0 : Int32).toInt = 0 := (by decide); omega)
      refine lv_iload_n hx hb dX0_placeOf_8 rfl (lv_at hl 2 rfl) ?_
      refine lv_bipush (v := 10) hx hb dX0_placeOf_9 (by decide) ?_
      refine lv_icmp_le (tgt := 16) hx hb dX0_placeOf_11 (by decide) (fun c => ?_) (fun c => ?_)
      · skip
        have c_5 : x1.toInt ≤ 10 := (by have z := bn_le c; have k1 : (10 : Int32).toInt = 10 := (by decide); omega)
        refine lv_iload_n hx hb dX0_placeOf_16 rfl (lv_at hl 2 rfl) ?_
        refine lv_bipush (v := 8) hx hb dX0_placeOf_17 (by decide) ?_
        refine lv_icmp_ge (tgt := 41) hx hb dX0_placeOf_19 (by decide) (fun c => ?_) (fun c => ?_)
        · skip
          have c_7 : 8 ≤ x1.toInt := (by have z := bn_le c; have k1 : (8 : Int32).toInt = 8 := (by decide); omega)
          refine lv_iload_n hx hb dX0_placeOf_41 rfl (lv_at hl 2 rfl) ?_
          refine lv_bipush (v := 10) hx hb dX0_placeOf_42 (by decide) ?_
          refine lv_icmp_ne (tgt := 58) hx hb dX0_placeOf_44 (by decide) (fun c => ?_) (fun c => ?_)
          · skip
            have c_9 : x1.toInt ≠ 10 := (by have z := bn_ne c; have k1 : (10 : Int32).toInt = 10 := (by decide); omega)
            refine lv_iload_n hx hb dX0_placeOf_58 rfl (lv_at hl 1 rfl) ?_
            refine lv_iconst (v := 3) hx hb dX0_placeOf_59 (by decide) ?_
            refine lv_icmp_lt (tgt := 65) hx hb dX0_placeOf_60 (by decide) (fun c => ?_) (fun c => ?_)
            · skip
              have c_11 : x0.toInt < 3 := (by have z := bn_lt c; have k1 : (3 : Int32).toInt = 3 := (by decide); omega)
              refine lv_iload_n hx hb dX0_placeOf_65 rfl (lv_at hl 2 rfl) ?_
              refine lv_bipush (v := 9) hx hb dX0_placeOf_66 (by decide) ?_
              refine lv_icmp_ne (tgt := 76) hx hb dX0_placeOf_68 (by decide) (fun c => ?_) (fun c => ?_)
              · skip
                have c_13 : x1.toInt ≠ 9 := (by have z := bn_ne c; have k1 : (9 : Int32).toInt = 9 := (by decide); omega)
                refine lv_bipush (v := 64) hx hb dX0_placeOf_76 (by decide) ?_
                refine lv_iload_n hx hb dX0_placeOf_78 rfl (lv_at hl 1 rfl) ?_
                refine lv_iadd hx hb dX0_placeOf_79 ?_
                refine lv_topi (fun v_15 ev_15 => ?_)
                have q_16 : v_15.toInt = 64 + x0.toInt := by rw [ev_15]; have k0 : (64 : Int32).toInt = 64 := (by decide); exact (bn_addI (by omega) (by omega)).trans (by omega)
                rcases (show x0.toInt = 0 ∨ x0.toInt = 1 ∨ x0.toInt = 2 from by omega) with z | z | z <;> exact hret _ _ _ _ (v_15) f L Q dX0_placeOf_80 hP hS ⟨⟨rfl, rfl, rfl⟩, (by first | exact Or.inl ⟨Int32.toInt_inj.mp (by have k9 : ((-1) : Int32).toInt = (-1) := (by decide); omega), by omega⟩ | exact Or.inr (Or.inl ⟨Int32.toInt_inj.mp (by have k9 : (64 : Int32).toInt = 64 := (by decide); omega), by omega⟩) | exact Or.inr (Or.inr (Or.inl ⟨Int32.toInt_inj.mp (by have k9 : (65 : Int32).toInt = 65 := (by decide); omega), by omega⟩)) | exact Or.inr (Or.inr (Or.inr (Or.inl ⟨Int32.toInt_inj.mp (by have k9 : (66 : Int32).toInt = 66 := (by decide); omega), by omega⟩))) | exact Or.inr (Or.inr (Or.inr (Or.inr (Or.inl ⟨Int32.toInt_inj.mp (by have k9 : (67 : Int32).toInt = 67 := (by decide); omega), by omega⟩)))) | exact Or.inr (Or.inr (Or.inr (Or.inr (Or.inr (Or.inl ⟨Int32.toInt_inj.mp (by have k9 : (68 : Int32).toInt = 68 := (by decide); omega), by omega⟩))))) | exact Or.inr (Or.inr (Or.inr (Or.inr (Or.inr (Or.inr (Or.inl ⟨Int32.toInt_inj.mp (by have k9 : (69 : Int32).toInt = 69 := (by decide); omega), by omega⟩)))))) | exact Or.inr (Or.inr (Or.inr (Or.inr (Or.inr (Or.inr (Or.inr (⟨Int32.toInt_inj.mp (by have k9 : (70 : Int32).toInt = 70 := (by decide); omega), by omega⟩))))))))⟩
              · skip
                have c_14 : x1.toInt = 9 := (by have z := Int32.toInt_inj.mpr c; have k1 : (9 : Int32).toInt = 9 := (by decide); omega)
                refine lv_bipush (v := 67) hx hb dX0_placeOf_71 (by decide) ?_
                refine lv_goto (tgt := 78) hx hb dX0_placeOf_73 (by decide) ?_
                refine lv_iload_n hx hb dX0_placeOf_78 rfl (lv_at hl 1 rfl) ?_
                refine lv_iadd hx hb dX0_placeOf_79 ?_
                refine lv_topi (fun v_17 ev_17 => ?_)
                have q_18 : v_17.toInt = 67 + x0.toInt := by rw [ev_17]; have k0 : (67 : Int32).toInt = 67 := (by decide); exact (bn_addI (by omega) (by omega)).trans (by omega)
                rcases (show x0.toInt = 0 ∨ x0.toInt = 1 ∨ x0.toInt = 2 from by omega) with z | z | z <;> exact hret _ _ _ _ (v_17) f L Q dX0_placeOf_80 hP hS ⟨⟨rfl, rfl, rfl⟩, (by first | exact Or.inl ⟨Int32.toInt_inj.mp (by have k9 : ((-1) : Int32).toInt = (-1) := (by decide); omega), by omega⟩ | exact Or.inr (Or.inl ⟨Int32.toInt_inj.mp (by have k9 : (64 : Int32).toInt = 64 := (by decide); omega), by omega⟩) | exact Or.inr (Or.inr (Or.inl ⟨Int32.toInt_inj.mp (by have k9 : (65 : Int32).toInt = 65 := (by decide); omega), by omega⟩)) | exact Or.inr (Or.inr (Or.inr (Or.inl ⟨Int32.toInt_inj.mp (by have k9 : (66 : Int32).toInt = 66 := (by decide); omega), by omega⟩))) | exact Or.inr (Or.inr (Or.inr (Or.inr (Or.inl ⟨Int32.toInt_inj.mp (by have k9 : (67 : Int32).toInt = 67 := (by decide); omega), by omega⟩)))) | exact Or.inr (Or.inr (Or.inr (Or.inr (Or.inr (Or.inl ⟨Int32.toInt_inj.mp (by have k9 : (68 : Int32).toInt = 68 := (by decide); omega), by omega⟩))))) | exact Or.inr (Or.inr (Or.inr (Or.inr (Or.inr (Or.inr (Or.inl ⟨Int32.toInt_inj.mp (by have k9 : (69 : Int32).toInt = 69 := (by decide); omega), by omega⟩)))))) | exact Or.inr (Or.inr (Or.inr (Or.inr (Or.inr (Or.inr (Or.inr (⟨Int32.toInt_inj.mp (by have k9 : (70 : Int32).toInt = 70 := (by decide); omega), by omega⟩))))))))⟩
            · skip
              have c_12 : 3 ≤ x0.toInt := (by have z := bn_nlt c; have k1 : (3 : Int32).toInt = 3 := (by decide); omega)
              refine lv_iconst (v := (-1)) hx hb dX0_placeOf_63 (by decide) ?_
              exact hret _ _ _ _ (-1) f L Q dX0_placeOf_64 hP hS ⟨⟨rfl, rfl, rfl⟩, Or.inl ⟨rfl, by omega⟩⟩
          · skip
            have c_10 : x1.toInt = 10 := (by have z := Int32.toInt_inj.mpr c; have k1 : (10 : Int32).toInt = 10 := (by decide); omega)
            refine lv_iload_n hx hb dX0_placeOf_47 rfl (lv_at hl 1 rfl) ?_
            refine lv_if_ne (tgt := 56) hx hb dX0_placeOf_48 (by decide) (fun c => ?_) (fun c => ?_)
            · skip
              have c_19 : x0.toInt ≠ 0 := (by have z := bn_ne c; have k1 : (0 : Int32).toInt = 0 := (by decide); omega)
              refine lv_iconst (v := (-1)) hx hb dX0_placeOf_56 (by decide) ?_
              exact hret _ _ _ _ (-1) f L Q dX0_placeOf_57 hP hS ⟨⟨rfl, rfl, rfl⟩, Or.inl ⟨rfl, by omega⟩⟩
            · skip
              have c_20 : x0.toInt = 0 := (by have z := Int32.toInt_inj.mpr c; have k1 : (0 : Int32).toInt = 0 := (by decide); omega)
              refine lv_bipush (v := 70) hx hb dX0_placeOf_51 (by decide) ?_
              refine lv_goto (tgt := 57) hx hb dX0_placeOf_53 (by decide) ?_
              exact hret _ _ _ _ (70) f L Q dX0_placeOf_57 hP hS ⟨⟨rfl, rfl, rfl⟩, Or.inr (Or.inr (Or.inr (Or.inr (Or.inr (Or.inr (Or.inr (⟨rfl, by omega⟩)))))))⟩
        · skip
          have c_8 : x1.toInt < 8 := (by have z := bn_nle c; have k1 : (8 : Int32).toInt = 8 := (by decide); omega)
          refine lv_iload_n hx hb dX0_placeOf_22 rfl (lv_at hl 1 rfl) ?_
          refine lv_aload_n hx hb dX0_placeOf_23 rfl (lv_at hl 0 rfl) ?_
          refine sg_get (ci := 0) (v := .int 0) (C := RX0) (T := TX0) (N := 5) hx hb hts (fun w h => List.mem_cons_of_mem _ (gx_0 w h)) hown hK hP 1 (by decide) rfl rfl 3 (by decide) (hts _ (List.mem_cons_of_mem _ mw_2)) (fun _ h9 => h9) (congrArg (fun z => some (Value.int z)) (show f 1 3 = 0 from hs)) dX0_placeOf_24 ?_
          refine lv_icmp_ge (tgt := 39) hx hb dX0_placeOf_27 (by decide) (fun c => ?_) (fun c => ?_)
          · skip
            have c_21 : 0 ≤ x0.toInt := (by have z := bn_le c; have k1 : (0 : Int32).toInt = 0 := (by decide); omega)
            refine lv_iconst (v := (-1)) hx hb dX0_placeOf_39 (by decide) ?_
            exact hret _ _ _ _ (-1) f L Q dX0_placeOf_40 hP hS ⟨⟨rfl, rfl, rfl⟩, Or.inl ⟨rfl, by omega⟩⟩
          · skip
            exfalso; have c_22 : x0.toInt < 0 := (by have z := bn_nle c; have k1 : (0 : Int32).toInt = 0 := (by decide); omega); omega
      · skip
        have c_6 : 10 < x1.toInt := (by have z := bn_nle c; have k1 : (10 : Int32).toInt = 10 := (by decide); omega)
        refine lv_iconst (v := (-1)) hx hb dX0_placeOf_14 (by decide) ?_
        exact hret _ _ _ _ (-1) f L Q dX0_placeOf_15 hP hS ⟨⟨rfl, rfl, rfl⟩, Or.inl ⟨rfl, by omega⟩⟩

set_option maxHeartbeats 4000000 in
set_option maxRecDepth 100000 in
theorem cf_X1_comes (l : Launch) (D : va_G) (ca : Nat → ClassId) (za h : Nat → Nat) (hh : sgH 52 h) (f : sg_F) (L : sg_L) (Q : sg_Q) (x0 : Int32) (x1 : Int32) (x2 : Int32) (hd : f 32 3 = 0) (sz : Nat) : Met l yX1_comes gwX1_comes { frames := 0, cells := 0, slots := 0, locals := 0 } (sgP D vwCl (tyX ca) 52 h (eX ca h) zcX za f L Q sz [.ref (h 32), .int x0, .int x1, .int x2]) (sgQv D vwCl 52 h (eX ca h) sz (fun f1 L1 Q1 => True)) 0 0 (sgA 52 h sz) := by
  refine sg_ofWv (cc := cX1_comes) (maxL := 4) RX1 (by decide) rfl rfl (Nat.le_of_ble_eq_true rfl) ?_
  intro p e s m below meth cd Qz ls hx hb hml hown hts hK hZ hP hS hl hret
  have hA := sgY.self (n := 52) (h := h) (sz := s.heap.size)
  have hl : lv_has ls 4 [(0, .ref (h 32)), (1, .int x0), (2, .int x1), (3, .int x2)] := hl
  obtain ⟨H, hH⟩ : ∃ z : Heap, z = s.heap := ⟨_, rfl⟩
  obtain ⟨locs, hlo⟩ : ∃ z : List Loc, z = [] := ⟨_, rfl⟩
  have hP : va_P D vwCl (sgw 52 h (eX ca h) f L Q) H := by rw [hH]; exact hP
  have hS : va_S (sgA 52 h s.heap.size) s.heap H locs := by rw [hH, hlo]; exact hS
  suffices hgo : W p l e ({ frames := 0, cells := 0, slots := 0, locals := 0 }) s m ([.ref (h 32), .int x0, .int x1, .int x2] : List Value).toArray below meth cd H locs 0 0 Qz (F0 m 0 ls []) by rw [hH, hlo] at hgo; exact hgo
  refine lv_aload_n hx hb dX1_comes_0 rfl (lv_at hl 0 rfl) ?_
  refine sg_get (ci := 1) (v := .int 0) (C := RX1) (T := TX1) (N := 5) hx hb hts (fun w h => List.mem_cons_of_mem _ (gx_1 w h)) hown hK hP 32 (by decide) rfl rfl 3 (by decide) (hts _ (List.mem_cons_of_mem _ mw_43)) (fun _ h9 => h9) (congrArg (fun z => some (Value.int z)) (show f 32 3 = 0 from hd)) dX1_comes_1 ?_
  refine lv_bipush (v := 40) hx hb dX1_comes_4 (by decide) ?_
  refine lv_icmp_ne (tgt := 13) hx hb dX1_comes_6 (by decide) (fun c => ?_) (fun c => absurd c (by decide))
  refine lv_aload_n hx hb dX1_comes_13 rfl (lv_at hl 0 rfl) ?_
  refine sg_get (ci := 1) (v := .ref (h 33)) (C := RX1) (T := TX1) (N := 5) hx hb hts (fun w h => List.mem_cons_of_mem _ (gx_1 w h)) hown hK hP 32 (by decide) rfl rfl 0 (by decide) (hts _ (List.mem_cons_of_mem _ mw_44)) (fun _ h9 => h9) rfl dX1_comes_14 ?_
  refine lv_aload_n hx hb dX1_comes_17 rfl (lv_at hl 0 rfl) ?_
  refine sg_get (ci := 1) (v := .int 0) (C := RX1) (T := TX1) (N := 5) hx hb hts (fun w h => List.mem_cons_of_mem _ (gx_1 w h)) hown hK hP 32 (by decide) rfl rfl 3 (by decide) (hts _ (List.mem_cons_of_mem _ mw_43)) (fun _ h9 => h9) (congrArg (fun z => some (Value.int z)) (show f 32 3 = 0 from hd)) dX1_comes_18 ?_
  refine lv_iload_n hx hb dX1_comes_21 rfl (lv_at hl 1 rfl) ?_
  refine sg_iast hx hb hh hA hK hP hS 33 (by decide) 0 (fun _ => rfl) rfl (i := 0) (x := x0) (vp_in_iff.mpr (by decide)) dX1_comes_22 (fun f_1 H locs ef_1 hP hS => ?_)
  refine lv_aload_n hx hb dX1_comes_23 rfl (lv_at hl 0 rfl) ?_
  refine sg_get (ci := 1) (v := .ref (h 34)) (C := RX1) (T := TX1) (N := 5) hx hb hts (fun w h => List.mem_cons_of_mem _ (gx_1 w h)) hown hK hP 32 (by decide) rfl rfl 1 (by decide) (hts _ (List.mem_cons_of_mem _ mw_45)) (fun _ h9 => h9) rfl dX1_comes_24 ?_
  refine lv_aload_n hx hb dX1_comes_27 rfl (lv_at hl 0 rfl) ?_
  refine sg_get (ci := 1) (v := .int 0) (C := RX1) (T := TX1) (N := 5) hx hb hts (fun w h => List.mem_cons_of_mem _ (gx_1 w h)) hown hK hP 32 (by decide) rfl rfl 3 (by decide) (hts _ (List.mem_cons_of_mem _ mw_43)) (fun _ h9 => h9) (congrArg (fun z => some (Value.int z)) (show f_1 32 3 = 0 from (by rw [ef_1]; exact (show _ = _ from hd)))) dX1_comes_28 ?_
  refine lv_iload_n hx hb dX1_comes_31 rfl (lv_at hl 2 rfl) ?_
  refine sg_iast hx hb hh hA hK hP hS 34 (by decide) 0 (fun _ => rfl) rfl (i := 0) (x := x1) (vp_in_iff.mpr (by decide)) dX1_comes_32 (fun f_2 H locs ef_2 hP hS => ?_)
  refine lv_aload_n hx hb dX1_comes_33 rfl (lv_at hl 0 rfl) ?_
  refine sg_get (ci := 1) (v := .ref (h 35)) (C := RX1) (T := TX1) (N := 5) hx hb hts (fun w h => List.mem_cons_of_mem _ (gx_1 w h)) hown hK hP 32 (by decide) rfl rfl 2 (by decide) (hts _ (List.mem_cons_of_mem _ mw_46)) (fun _ h9 => h9) rfl dX1_comes_34 ?_
  refine lv_aload_n hx hb dX1_comes_37 rfl (lv_at hl 0 rfl) ?_
  refine sg_get (ci := 1) (v := .int 0) (C := RX1) (T := TX1) (N := 5) hx hb hts (fun w h => List.mem_cons_of_mem _ (gx_1 w h)) hown hK hP 32 (by decide) rfl rfl 3 (by decide) (hts _ (List.mem_cons_of_mem _ mw_43)) (fun _ h9 => h9) (congrArg (fun z => some (Value.int z)) (show f_2 32 3 = 0 from (by rw [ef_2]; exact (show _ = _ from (by rw [ef_1]; exact (show _ = _ from hd)))))) dX1_comes_38 ?_
  refine lv_iload_n hx hb dX1_comes_41 rfl (lv_at hl 3 rfl) ?_
  refine sg_iast hx hb hh hA hK hP hS 35 (by decide) 0 (fun _ => rfl) rfl (i := 0) (x := x2) (vp_in_iff.mpr (by decide)) dX1_comes_42 (fun f_3 H locs ef_3 hP hS => ?_)
  refine lv_aload_n hx hb dX1_comes_43 rfl (lv_at hl 0 rfl) ?_
  refine lv_dup hx hb dX1_comes_44 rfl ?_
  refine sg_get (ci := 1) (v := .int 0) (C := RX1) (T := TX1) (N := 5) hx hb hts (fun w h => List.mem_cons_of_mem _ (gx_1 w h)) hown hK hP 32 (by decide) rfl rfl 3 (by decide) (hts _ (List.mem_cons_of_mem _ mw_43)) (fun _ h9 => h9) (congrArg (fun z => some (Value.int z)) (show f_3 32 3 = 0 from (by rw [ef_3]; exact (show _ = _ from (by rw [ef_2]; exact (show _ = _ from (by rw [ef_1]; exact (show _ = _ from hd)))))))) dX1_comes_45 ?_
  refine lv_iconst (v := 1) hx hb dX1_comes_48 (by decide) ?_
  refine lv_iadd hx hb dX1_comes_49 ?_
  refine W.eq (g2 := F0 m 50 ls [.int 1, .ref (h 32)]) (by rw [show (0 + 1 : Int32) = 1 from by decide]) ?_
  refine sg_put (ci := 1) (x := 1) (ty := .int) (C := RX1) (T := TX1) (N := 5) hx hb hts (fun w h => List.mem_cons_of_mem _ (gx_1 w h)) tyX1 tyX1_ok nmX1 hown hh hA hK hP hS 32 (by decide) rfl rfl 3 (by decide) (hts _ (List.mem_cons_of_mem _ mw_43)) (fun _ h9 => h9) rfl rfl (by decide +kernel) rfl rfl (Nat.le_of_ble_eq_true rfl) dX1_comes_50 (fun f_4 H locs ef_4 hP hS => ?_)
  refine lv_aload_n hx hb dX1_comes_53 rfl (lv_at hl 0 rfl) ?_
  refine lv_aload_n hx hb dX1_comes_54 rfl (lv_at hl 0 rfl) ?_
  refine sg_get (ci := 1) (v := .int 1) (C := RX1) (T := TX1) (N := 5) hx hb hts (fun w h => List.mem_cons_of_mem _ (gx_1 w h)) hown hK hP 32 (by decide) rfl rfl 3 (by decide) (hts _ (List.mem_cons_of_mem _ mw_43)) (fun _ h9 => h9) (congrArg (fun z => some (Value.int z)) (show f_4 32 3 = 1 from (by rw [ef_4]; rfl))) dX1_comes_55 ?_
  refine sg_put (ci := 1) (x := 1) (ty := .int) (C := RX1) (T := TX1) (N := 5) hx hb hts (fun w h => List.mem_cons_of_mem _ (gx_1 w h)) tyX1 tyX1_ok nmX1 hown hh hA hK hP hS 32 (by decide) rfl rfl 4 (by decide) (hts _ (List.mem_cons_of_mem _ mw_47)) (fun _ h9 => h9) rfl rfl (by decide +kernel) rfl rfl (Nat.le_of_ble_eq_true rfl) dX1_comes_58 (fun f_5 H locs ef_5 hP hS => ?_)
  exact hret _ _ _ _ f_5 L Q dX1_comes_61 hP hS trivial

set_option maxHeartbeats 4000000 in
set_option maxRecDepth 100000 in
theorem cf_X0_becomes (l : Launch) (D : va_G) (ca : Nat → ClassId) (za h : Nat → Nat) (hh : sgH 52 h) (f : sg_F) (L : sg_L) (Q : sg_Q) (x0 : Int32) (x1 : Int32) (b0 : 64 ≤ x0.toInt ∧ x0.toInt ≤ 70) (sz : Nat) : Met l yX0_becomes gwX0_becomes { frames := 0, cells := 0, slots := 0, locals := 0 } (sgP D vwCl (tyX ca) 52 h (eX ca h) zcX za f L Q sz [.ref (h 1), .int x0, .int x1]) (sgQv D vwCl 52 h (eX ca h) sz (fun f1 L1 Q1 => True)) 0 0 (sgA 52 h sz) := by
  refine sg_ofWv (cc := cX0_becomes) (maxL := 3) RX0 (by decide) rfl rfl (Nat.le_of_ble_eq_true rfl) ?_
  intro p e s m below meth cd Qz ls hx hb hml hown hts hK hZ hP hS hl hret
  have hA := sgY.self (n := 52) (h := h) (sz := s.heap.size)
  have hl : lv_has ls 3 [(0, .ref (h 1)), (1, .int x0), (2, .int x1)] := hl
  obtain ⟨H, hH⟩ : ∃ z : Heap, z = s.heap := ⟨_, rfl⟩
  obtain ⟨locs, hlo⟩ : ∃ z : List Loc, z = [] := ⟨_, rfl⟩
  have hP : va_P D vwCl (sgw 52 h (eX ca h) f L Q) H := by rw [hH]; exact hP
  have hS : va_S (sgA 52 h s.heap.size) s.heap H locs := by rw [hH, hlo]; exact hS
  suffices hgo : W p l e ({ frames := 0, cells := 0, slots := 0, locals := 0 }) s m ([.ref (h 1), .int x0, .int x1] : List Value).toArray below meth cd H locs 0 0 Qz (F0 m 0 ls []) by rw [hH, hlo] at hgo; exact hgo
  refine lv_iload_n hx hb dX0_becomes_0 rfl (lv_at hl 1 rfl) ?_
  refine lv_if_lt (tgt := 10) hx hb dX0_becomes_1 (by decide) (fun c => ?_) (fun c => ?_)
  · skip
    exfalso; have c_1 : x0.toInt < 0 := (by have z := bn_lt c; have k1 : (0 : Int32).toInt = 0 := (by decide); omega); omega
  · skip
    have c_2 : 0 ≤ x0.toInt := (by have z := bn_nlt c; have k1 : (0 : Int32).toInt = 0 := (by decide); omega)
    refine lv_iload_n hx hb dX0_becomes_4 rfl (lv_at hl 1 rfl) ?_
    refine lv_bipush (v := 70) hx hb dX0_becomes_5 (by decide) ?_
    refine lv_icmp_le (tgt := 11) hx hb dX0_becomes_7 (by decide) (fun c => ?_) (fun c => ?_)
    · skip
      have c_3 : x0.toInt ≤ 70 := (by have z := bn_le c; have k1 : (70 : Int32).toInt = 70 := (by decide); omega)
      refine lv_aload_n hx hb dX0_becomes_11 rfl (lv_at hl 0 rfl) ?_
      refine sg_get (ci := 0) (v := .ref (h 2)) (C := RX0) (T := TX0) (N := 5) hx hb hts (fun w h => List.mem_cons_of_mem _ (gx_0 w h)) hown hK hP 1 (by decide) rfl rfl 0 (by decide) (hts _ (List.mem_cons_of_mem _ mw_31)) (fun _ h9 => h9) rfl dX0_becomes_12 ?_
      refine lv_iload_n hx hb dX0_becomes_15 rfl (lv_at hl 1 rfl) ?_
      refine lv_iload_n hx hb dX0_becomes_16 rfl (lv_at hl 2 rfl) ?_
      refine sg_iast hx hb hh hA hK hP hS 2 (by decide) 0 (fun _ => rfl) rfl (i := x0) (x := x1) (vp_in_iff.mpr ⟨by omega, by omega⟩) dX0_becomes_17 (fun f_5 H locs ef_5 hP hS => ?_)
      refine lv_iload_n hx hb dX0_becomes_18 rfl (lv_at hl 1 rfl) ?_
      refine lv_bipush (v := 64) hx hb dX0_becomes_19 (by decide) ?_
      refine lv_icmp_ge (tgt := 32) hx hb dX0_becomes_21 (by decide) (fun c => ?_) (fun c => ?_)
      · skip
        have c_6 : 64 ≤ x0.toInt := (by have z := bn_le c; have k1 : (64 : Int32).toInt = 64 := (by decide); omega)
        exact hret _ _ _ _ f_5 L Q dX0_becomes_32 hP hS trivial
      · skip
        exfalso; have c_7 : x0.toInt < 64 := (by have z := bn_nle c; have k1 : (64 : Int32).toInt = 64 := (by decide); omega); omega
    · skip
      exfalso; have c_4 : 70 < x0.toInt := (by have z := bn_nle c; have k1 : (70 : Int32).toInt = 70 := (by decide); omega); omega

set_option maxHeartbeats 4000000 in
set_option maxRecDepth 100000 in
theorem cf_X11_mend (l : Launch) (D : va_G) (ca : Nat → ClassId) (za h : Nat → Nat) (hh : sgH 52 h) (x0 : Int32) (x1 : Int32) (x2 : Int32) (sz : Nat) : Met l yX11_mend gwX11_mend { frames := 1, cells := 0, slots := 0, locals := 23 } (sgP D vwCl (tyX ca) 52 h (eX ca h) zcX za f0X L0 Q0 sz [.ref (h 0), .int x0, .int x1, .int x2]) (sgQi D vwCl 52 h (eX ca h) sz (fun r f1 L1 Q1 => True ∧ ((r = 1 ∧ (x1.toInt = 9 ∧ 0 ≤ x0.toInt ∧ x0.toInt ≤ 2 ∧ 0 ≤ x2.toInt ∧ x2.toInt ≤ 9)) ∨ (r = 0 ∧ (x1.toInt = 8 ∧ 0 ≤ x0.toInt ∧ x0.toInt ≤ 2 ∧ 0 ≤ x2.toInt ∧ x2.toInt ≤ 3)) ∨ (r = 3 ∧ (x1.toInt = 10 ∧ x0.toInt = 0 ∧ 0 ≤ x2.toInt ∧ x2.toInt ≤ 99)) ∨ (r = (-1) ∧ (¬ (x1.toInt = 9 ∧ 0 ≤ x0.toInt ∧ x0.toInt ≤ 2 ∧ 0 ≤ x2.toInt ∧ x2.toInt ≤ 9) ∧ ¬ (x1.toInt = 8 ∧ 0 ≤ x0.toInt ∧ x0.toInt ≤ 2 ∧ 0 ≤ x2.toInt ∧ x2.toInt ≤ 3) ∧ ¬ (x1.toInt = 10 ∧ x0.toInt = 0 ∧ 0 ≤ x2.toInt ∧ x2.toInt ≤ 99)))))) 0 0 (sgA 52 h sz) := by
  refine sg_ofWi (cc := cX11_mend) (maxL := 6) RX11 (by decide) rfl rfl (Nat.le_of_ble_eq_true rfl) ?_
  intro p e s m below meth cd Qz ls hx hb hml hown hts hK hZ hP hS hl hret
  have hA := sgY.self (n := 52) (h := h) (sz := s.heap.size)
  have hl : lv_has ls 6 [(0, .ref (h 0)), (1, .int x0), (2, .int x1), (3, .int x2)] := hl
  obtain ⟨H, hH⟩ : ∃ z : Heap, z = s.heap := ⟨_, rfl⟩
  obtain ⟨locs, hlo⟩ : ∃ z : List Loc, z = [] := ⟨_, rfl⟩
  have hP : va_P D vwCl (sgw 52 h (eX ca h) f0X L0 Q0) H := by rw [hH]; exact hP
  have hS : va_S (sgA 52 h s.heap.size) s.heap H locs := by rw [hH, hlo]; exact hS
  suffices hgo : W p l e ({ frames := 1, cells := 0, slots := 0, locals := 23 }) s m ([.ref (h 0), .int x0, .int x1, .int x2] : List Value).toArray below meth cd H locs 0 0 Qz (F0 m 0 ls []) by rw [hH, hlo] at hgo; exact hgo
  refine lv_aload_n hx hb dX11_mend_0 rfl (lv_at hl 0 rfl) ?_
  refine sg_get (ci := 11) (v := .ref (h 1)) (C := RX11) (T := TX11) (N := 10) hx hb hts (fun w h => List.mem_cons_of_mem _ (gx_11 w h)) hown hK hP 0 (by decide) rfl rfl 0 (by decide) (hts _ (List.mem_cons_of_mem _ mw_10)) (fun _ h9 => h9) rfl dX11_mend_1 ?_
  refine lv_iload_n hx hb dX11_mend_4 rfl (lv_at hl 1 rfl) ?_
  refine lv_iload_n hx hb dX11_mend_5 rfl (lv_at hl 2 rfl) ?_
  refine sg_calli (va_runV (As := [.int x0, .int x1]) (rest := []) ⟨hx, hb, hml, hown, hts⟩ (cf_X0_placeOf l D ca za h hh f0X L0 Q0 x0 x1 rfl H.size) (cwV 2 hts (gw_V (fun _ h => List.mem_cons_of_mem _ h) mw_49 mw_50 mw_51 mw_15 mw_48) rfl rfl rfl (by decide +kernel) ⟨Nat.le_of_ble_eq_true rfl, Nat.le_of_ble_eq_true rfl⟩) (sg_preV (ci := 0) (C := RX0) (T := TX0) (N := 5) hA hK hP hS hZ 1 (by decide) rfl rfl) rfl rfl hl.1 rfl (lv_room (Nat.le_of_ble_eq_true rfl)) dX11_mend_6 ⟨Nat.le_refl _, Nat.le_refl _⟩) hA hS (fun r_4 f_1 L_2 Q_3 H locs hq hP hS => ?_)
  obtain ⟨⟨ef9, eL9, eQ9⟩, hq⟩ := hq
  rw [ef9, eL9, eQ9] at hP; clear ef9 eL9 eQ9
  rcases hq with ⟨rfl, hq⟩ | ⟨rfl, hq⟩ | ⟨rfl, hq⟩ | ⟨rfl, hq⟩ | ⟨rfl, hq⟩ | ⟨rfl, hq⟩ | ⟨rfl, hq⟩ | ⟨rfl, hq⟩
  · skip
    have q_5 := hq
    refine lv_istore (lv' := [(4, .int (-1)), (0, .ref (h 0)), (1, .int x0), (2, .int x1), (3, .int x2)]) hx hb dX11_mend_9 hl (by decide) rfl (fun ls hl => ?_)
    refine lv_iload hx hb dX11_mend_11 (lv_at hl 0 rfl) ?_
    refine lv_if_lt (tgt := 24) hx hb dX11_mend_13 (by decide) (fun c => ?_) (fun c => absurd c (by decide))
    refine lv_iconst (v := (-1)) hx hb dX11_mend_24 (by decide) ?_
    exact hret _ _ _ _ (-1) f0X L0 Q0 dX11_mend_25 hP hS ⟨trivial, Or.inr (Or.inr (Or.inr (⟨rfl, by omega⟩)))⟩
  · skip
    have q_6 := hq
    have k_7 : (8 : Int32).toInt = 8 := (by decide)
    obtain rfl : x1 = 8 := Int32.toInt_inj.mp (by omega)
    have k_8 : (0 : Int32).toInt = 0 := (by decide)
    obtain rfl : x0 = 0 := Int32.toInt_inj.mp (by omega)
    refine lv_istore (lv' := [(4, .int 64), (0, .ref (h 0)), (1, .int 0), (2, .int 8), (3, .int x2)]) hx hb dX11_mend_9 hl (by decide) rfl (fun ls hl => ?_)
    refine lv_iload hx hb dX11_mend_11 (lv_at hl 0 rfl) ?_
    refine lv_if_lt (tgt := 24) hx hb dX11_mend_13 (by decide) (fun c => absurd c (by decide)) (fun c => ?_)
    refine lv_iload_n hx hb dX11_mend_16 rfl (lv_at hl 3 rfl) ?_
    refine lv_iload_n hx hb dX11_mend_17 rfl (lv_at hl 4 rfl) ?_
    refine sg_calli (va_runS (As := [.int 8, .int x2]) (rest := []) ⟨hx, hb, hml, hown, hts⟩ (cf_X11_fits_8 l D ca za h hh f0X L0 Q0 x2 H.size) (va_cwS 2 hts (gw_S (fun _ h => List.mem_cons_of_mem _ h) mw_37 mw_38 mw_9 mw_36) rfl rfl rfl (by decide +kernel) ⟨Nat.le_of_ble_eq_true rfl, Nat.le_of_ble_eq_true rfl⟩) (sg_preS hA hK hP hS hZ) rfl rfl hl.1 rfl (lv_room (Nat.le_of_ble_eq_true rfl)) dX11_mend_18 ⟨Nat.le_refl _, Nat.le_refl _⟩) hA hS (fun r_12 f_9 L_10 Q_11 H locs hq hP hS => ?_)
    obtain ⟨⟨ef9, eL9, eQ9⟩, hq⟩ := hq
    rw [ef9, eL9, eQ9] at hP; clear ef9 eL9 eQ9
    have k_13 : (8 : Int32).toInt = 8 := by decide
    rcases hq with ⟨rfl, hq⟩ | ⟨rfl, hq⟩
    · skip
      have q_14 := hq
      refine lv_if_ne (tgt := 26) hx hb dX11_mend_21 (by decide) (fun c => ?_) (fun c => absurd c (by decide))
      refine lv_aload_n hx hb dX11_mend_26 rfl (lv_at hl 1 rfl) ?_
      refine sg_get (ci := 11) (v := .ref (h 1)) (C := RX11) (T := TX11) (N := 10) hx hb hts (fun w h => List.mem_cons_of_mem _ (gx_11 w h)) hown hK hP 0 (by decide) rfl rfl 0 (by decide) (hts _ (List.mem_cons_of_mem _ mw_10)) (fun _ h9 => h9) rfl dX11_mend_27 ?_
      refine sg_get (ci := 0) (v := .ref (h 2)) (C := RX0) (T := TX0) (N := 5) hx hb hts (fun w h => List.mem_cons_of_mem _ (gx_0 w h)) hown hK hP 1 (by decide) rfl rfl 0 (by decide) (hts _ (List.mem_cons_of_mem _ mw_52)) (fun _ h9 => h9) rfl dX11_mend_30 ?_
      refine lv_iload hx hb dX11_mend_33 (lv_at hl 0 rfl) ?_
      refine sg_iald hx hb hK hP 2 (by decide) 0 rfl rfl (i := 64) (vp_in_iff.mpr (by decide)) dX11_mend_35 ?_
      refine W.eq (g2 := F0 m 36 ls [.int 0]) (by rw [show f0X 2 (Int32.toNatClampNeg 64) = 0 from rfl]) ?_
      refine lv_istore (lv' := [(5, .int 0), (4, .int 64), (0, .ref (h 0)), (1, .int 0), (2, .int 8), (3, .int x2)]) hx hb dX11_mend_36 hl (by decide) rfl (fun ls hl => ?_)
      refine lv_iload hx hb dX11_mend_38 (lv_at hl 0 rfl) ?_
      refine lv_iload_n hx hb dX11_mend_40 rfl (lv_at hl 5 rfl) ?_
      refine lv_icmp_eq (tgt := 66) hx hb dX11_mend_41 (by decide) (fun c => ?_) (fun c => ?_)
      · skip
        have c_15 : 0 = x2.toInt := (by have z := Int32.toInt_inj.mpr c; have k0 : (0 : Int32).toInt = 0 := (by decide); omega)
        refine lv_iload hx hb dX11_mend_66 (lv_at hl 0 rfl) ?_
        exact hret _ _ _ _ (0) f0X L0 Q0 dX11_mend_68 hP hS ⟨trivial, Or.inr (Or.inl ⟨rfl, by omega⟩)⟩
      · skip
        have c_16 : 0 ≠ x2.toInt := (by have z := bn_ne c; have k0 : (0 : Int32).toInt = 0 := (by decide); omega)
        refine lv_aload_n hx hb dX11_mend_44 rfl (lv_at hl 2 rfl) ?_
        refine sg_get (ci := 11) (v := .ref (h 32)) (C := RX11) (T := TX11) (N := 10) hx hb hts (fun w h => List.mem_cons_of_mem _ (gx_11 w h)) hown hK hP 0 (by decide) rfl rfl 7 (by decide) (hts _ (List.mem_cons_of_mem _ mw_53)) (fun _ h9 => h9) rfl dX11_mend_45 ?_
        refine lv_iload hx hb dX11_mend_48 (lv_at hl 1 rfl) ?_
        refine lv_iload hx hb dX11_mend_50 (lv_at hl 0 rfl) ?_
        refine lv_iload_n hx hb dX11_mend_52 rfl (lv_at hl 5 rfl) ?_
        refine sg_callv (va_runV (As := [.int 64, .int 0, .int x2]) (rest := []) ⟨hx, hb, hml, hown, hts⟩ (cf_X1_comes l D ca za h hh f0X L0 Q0 64 0 x2 rfl H.size) (cwV 3 hts (gw_V (fun _ h => List.mem_cons_of_mem _ h) mw_55 mw_56 mw_57 mw_58 mw_54) rfl rfl rfl (by decide +kernel) ⟨Nat.le_of_ble_eq_true rfl, Nat.le_of_ble_eq_true rfl⟩) (sg_preV (ci := 1) (C := RX1) (T := TX1) (N := 5) hA hK hP hS hZ 32 (by decide) rfl rfl) rfl rfl hl.1 rfl (lv_room (Nat.le_of_ble_eq_true rfl)) dX11_mend_53 ⟨Nat.le_refl _, Nat.le_refl _⟩) hA hS (fun f_17 L_18 Q_19 H locs hq hP hS => ?_)
        refine lv_aload_n hx hb dX11_mend_56 rfl (lv_at hl 2 rfl) ?_
        refine sg_get (ci := 11) (v := .ref (h 1)) (C := RX11) (T := TX11) (N := 10) hx hb hts (fun w h => List.mem_cons_of_mem _ (gx_11 w h)) hown hK hP 0 (by decide) rfl rfl 0 (by decide) (hts _ (List.mem_cons_of_mem _ mw_10)) (fun _ h9 => h9) rfl dX11_mend_57 ?_
        refine lv_iload hx hb dX11_mend_60 (lv_at hl 1 rfl) ?_
        refine lv_iload_n hx hb dX11_mend_62 rfl (lv_at hl 5 rfl) ?_
        refine sg_callv (va_runV (As := [.int 64, .int x2]) (rest := []) ⟨hx, hb, hml, hown, hts⟩ (cf_X0_becomes l D ca za h hh f_17 L_18 Q_19 64 x2 (by first | omega | decide) H.size) (cwV 2 hts (gw_V (fun _ h => List.mem_cons_of_mem _ h) mw_60 mw_61 mw_62 mw_15 mw_59) rfl rfl rfl (by decide +kernel) ⟨Nat.le_of_ble_eq_true rfl, Nat.le_of_ble_eq_true rfl⟩) (sg_preV (ci := 0) (C := RX0) (T := TX0) (N := 5) hA hK hP hS hZ 1 (by decide) rfl rfl) rfl rfl hl.1 rfl (lv_room (Nat.le_of_ble_eq_true rfl)) dX11_mend_63 ⟨Nat.le_refl _, Nat.le_refl _⟩) hA hS (fun f_20 L_21 Q_22 H locs hq hP hS => ?_)
        refine lv_iload hx hb dX11_mend_66 (lv_at hl 0 rfl) ?_
        exact hret _ _ _ _ (0) f_20 L_21 Q_22 dX11_mend_68 hP hS ⟨trivial, Or.inr (Or.inl ⟨rfl, by omega⟩)⟩
    · skip
      have q_23 := hq
      refine lv_if_ne (tgt := 26) hx hb dX11_mend_21 (by decide) (fun c => absurd c (by decide)) (fun c => ?_)
      refine lv_iconst (v := (-1)) hx hb dX11_mend_24 (by decide) ?_
      exact hret _ _ _ _ (-1) f0X L0 Q0 dX11_mend_25 hP hS ⟨trivial, Or.inr (Or.inr (Or.inr (⟨rfl, by omega⟩)))⟩
  · skip
    have q_24 := hq
    have k_25 : (8 : Int32).toInt = 8 := (by decide)
    obtain rfl : x1 = 8 := Int32.toInt_inj.mp (by omega)
    have k_26 : (1 : Int32).toInt = 1 := (by decide)
    obtain rfl : x0 = 1 := Int32.toInt_inj.mp (by omega)
    refine lv_istore (lv' := [(4, .int 65), (0, .ref (h 0)), (1, .int 1), (2, .int 8), (3, .int x2)]) hx hb dX11_mend_9 hl (by decide) rfl (fun ls hl => ?_)
    refine lv_iload hx hb dX11_mend_11 (lv_at hl 0 rfl) ?_
    refine lv_if_lt (tgt := 24) hx hb dX11_mend_13 (by decide) (fun c => absurd c (by decide)) (fun c => ?_)
    refine lv_iload_n hx hb dX11_mend_16 rfl (lv_at hl 3 rfl) ?_
    refine lv_iload_n hx hb dX11_mend_17 rfl (lv_at hl 4 rfl) ?_
    refine sg_calli (va_runS (As := [.int 8, .int x2]) (rest := []) ⟨hx, hb, hml, hown, hts⟩ (cf_X11_fits_8 l D ca za h hh f0X L0 Q0 x2 H.size) (va_cwS 2 hts (gw_S (fun _ h => List.mem_cons_of_mem _ h) mw_37 mw_38 mw_9 mw_36) rfl rfl rfl (by decide +kernel) ⟨Nat.le_of_ble_eq_true rfl, Nat.le_of_ble_eq_true rfl⟩) (sg_preS hA hK hP hS hZ) rfl rfl hl.1 rfl (lv_room (Nat.le_of_ble_eq_true rfl)) dX11_mend_18 ⟨Nat.le_refl _, Nat.le_refl _⟩) hA hS (fun r_30 f_27 L_28 Q_29 H locs hq hP hS => ?_)
    obtain ⟨⟨ef9, eL9, eQ9⟩, hq⟩ := hq
    rw [ef9, eL9, eQ9] at hP; clear ef9 eL9 eQ9
    have k_31 : (8 : Int32).toInt = 8 := by decide
    rcases hq with ⟨rfl, hq⟩ | ⟨rfl, hq⟩
    · skip
      have q_32 := hq
      refine lv_if_ne (tgt := 26) hx hb dX11_mend_21 (by decide) (fun c => ?_) (fun c => absurd c (by decide))
      refine lv_aload_n hx hb dX11_mend_26 rfl (lv_at hl 1 rfl) ?_
      refine sg_get (ci := 11) (v := .ref (h 1)) (C := RX11) (T := TX11) (N := 10) hx hb hts (fun w h => List.mem_cons_of_mem _ (gx_11 w h)) hown hK hP 0 (by decide) rfl rfl 0 (by decide) (hts _ (List.mem_cons_of_mem _ mw_10)) (fun _ h9 => h9) rfl dX11_mend_27 ?_
      refine sg_get (ci := 0) (v := .ref (h 2)) (C := RX0) (T := TX0) (N := 5) hx hb hts (fun w h => List.mem_cons_of_mem _ (gx_0 w h)) hown hK hP 1 (by decide) rfl rfl 0 (by decide) (hts _ (List.mem_cons_of_mem _ mw_52)) (fun _ h9 => h9) rfl dX11_mend_30 ?_
      refine lv_iload hx hb dX11_mend_33 (lv_at hl 0 rfl) ?_
      refine sg_iald hx hb hK hP 2 (by decide) 0 rfl rfl (i := 65) (vp_in_iff.mpr (by decide)) dX11_mend_35 ?_
      refine W.eq (g2 := F0 m 36 ls [.int 0]) (by rw [show f0X 2 (Int32.toNatClampNeg 65) = 0 from rfl]) ?_
      refine lv_istore (lv' := [(5, .int 0), (4, .int 65), (0, .ref (h 0)), (1, .int 1), (2, .int 8), (3, .int x2)]) hx hb dX11_mend_36 hl (by decide) rfl (fun ls hl => ?_)
      refine lv_iload hx hb dX11_mend_38 (lv_at hl 0 rfl) ?_
      refine lv_iload_n hx hb dX11_mend_40 rfl (lv_at hl 5 rfl) ?_
      refine lv_icmp_eq (tgt := 66) hx hb dX11_mend_41 (by decide) (fun c => ?_) (fun c => ?_)
      · skip
        have c_33 : 0 = x2.toInt := (by have z := Int32.toInt_inj.mpr c; have k0 : (0 : Int32).toInt = 0 := (by decide); omega)
        refine lv_iload hx hb dX11_mend_66 (lv_at hl 0 rfl) ?_
        exact hret _ _ _ _ (0) f0X L0 Q0 dX11_mend_68 hP hS ⟨trivial, Or.inr (Or.inl ⟨rfl, by omega⟩)⟩
      · skip
        have c_34 : 0 ≠ x2.toInt := (by have z := bn_ne c; have k0 : (0 : Int32).toInt = 0 := (by decide); omega)
        refine lv_aload_n hx hb dX11_mend_44 rfl (lv_at hl 2 rfl) ?_
        refine sg_get (ci := 11) (v := .ref (h 32)) (C := RX11) (T := TX11) (N := 10) hx hb hts (fun w h => List.mem_cons_of_mem _ (gx_11 w h)) hown hK hP 0 (by decide) rfl rfl 7 (by decide) (hts _ (List.mem_cons_of_mem _ mw_53)) (fun _ h9 => h9) rfl dX11_mend_45 ?_
        refine lv_iload hx hb dX11_mend_48 (lv_at hl 1 rfl) ?_
        refine lv_iload hx hb dX11_mend_50 (lv_at hl 0 rfl) ?_
        refine lv_iload_n hx hb dX11_mend_52 rfl (lv_at hl 5 rfl) ?_
        refine sg_callv (va_runV (As := [.int 65, .int 0, .int x2]) (rest := []) ⟨hx, hb, hml, hown, hts⟩ (cf_X1_comes l D ca za h hh f0X L0 Q0 65 0 x2 rfl H.size) (cwV 3 hts (gw_V (fun _ h => List.mem_cons_of_mem _ h) mw_55 mw_56 mw_57 mw_58 mw_54) rfl rfl rfl (by decide +kernel) ⟨Nat.le_of_ble_eq_true rfl, Nat.le_of_ble_eq_true rfl⟩) (sg_preV (ci := 1) (C := RX1) (T := TX1) (N := 5) hA hK hP hS hZ 32 (by decide) rfl rfl) rfl rfl hl.1 rfl (lv_room (Nat.le_of_ble_eq_true rfl)) dX11_mend_53 ⟨Nat.le_refl _, Nat.le_refl _⟩) hA hS (fun f_35 L_36 Q_37 H locs hq hP hS => ?_)
        refine lv_aload_n hx hb dX11_mend_56 rfl (lv_at hl 2 rfl) ?_
        refine sg_get (ci := 11) (v := .ref (h 1)) (C := RX11) (T := TX11) (N := 10) hx hb hts (fun w h => List.mem_cons_of_mem _ (gx_11 w h)) hown hK hP 0 (by decide) rfl rfl 0 (by decide) (hts _ (List.mem_cons_of_mem _ mw_10)) (fun _ h9 => h9) rfl dX11_mend_57 ?_
        refine lv_iload hx hb dX11_mend_60 (lv_at hl 1 rfl) ?_
        refine lv_iload_n hx hb dX11_mend_62 rfl (lv_at hl 5 rfl) ?_
        refine sg_callv (va_runV (As := [.int 65, .int x2]) (rest := []) ⟨hx, hb, hml, hown, hts⟩ (cf_X0_becomes l D ca za h hh f_35 L_36 Q_37 65 x2 (by first | omega | decide) H.size) (cwV 2 hts (gw_V (fun _ h => List.mem_cons_of_mem _ h) mw_60 mw_61 mw_62 mw_15 mw_59) rfl rfl rfl (by decide +kernel) ⟨Nat.le_of_ble_eq_true rfl, Nat.le_of_ble_eq_true rfl⟩) (sg_preV (ci := 0) (C := RX0) (T := TX0) (N := 5) hA hK hP hS hZ 1 (by decide) rfl rfl) rfl rfl hl.1 rfl (lv_room (Nat.le_of_ble_eq_true rfl)) dX11_mend_63 ⟨Nat.le_refl _, Nat.le_refl _⟩) hA hS (fun f_38 L_39 Q_40 H locs hq hP hS => ?_)
        refine lv_iload hx hb dX11_mend_66 (lv_at hl 0 rfl) ?_
        exact hret _ _ _ _ (0) f_38 L_39 Q_40 dX11_mend_68 hP hS ⟨trivial, Or.inr (Or.inl ⟨rfl, by omega⟩)⟩
    · skip
      have q_41 := hq
      refine lv_if_ne (tgt := 26) hx hb dX11_mend_21 (by decide) (fun c => absurd c (by decide)) (fun c => ?_)
      refine lv_iconst (v := (-1)) hx hb dX11_mend_24 (by decide) ?_
      exact hret _ _ _ _ (-1) f0X L0 Q0 dX11_mend_25 hP hS ⟨trivial, Or.inr (Or.inr (Or.inr (⟨rfl, by omega⟩)))⟩
  · skip
    have q_42 := hq
    have k_43 : (8 : Int32).toInt = 8 := (by decide)
    obtain rfl : x1 = 8 := Int32.toInt_inj.mp (by omega)
    have k_44 : (2 : Int32).toInt = 2 := (by decide)
    obtain rfl : x0 = 2 := Int32.toInt_inj.mp (by omega)
    refine lv_istore (lv' := [(4, .int 66), (0, .ref (h 0)), (1, .int 2), (2, .int 8), (3, .int x2)]) hx hb dX11_mend_9 hl (by decide) rfl (fun ls hl => ?_)
    refine lv_iload hx hb dX11_mend_11 (lv_at hl 0 rfl) ?_
    refine lv_if_lt (tgt := 24) hx hb dX11_mend_13 (by decide) (fun c => absurd c (by decide)) (fun c => ?_)
    refine lv_iload_n hx hb dX11_mend_16 rfl (lv_at hl 3 rfl) ?_
    refine lv_iload_n hx hb dX11_mend_17 rfl (lv_at hl 4 rfl) ?_
    refine sg_calli (va_runS (As := [.int 8, .int x2]) (rest := []) ⟨hx, hb, hml, hown, hts⟩ (cf_X11_fits_8 l D ca za h hh f0X L0 Q0 x2 H.size) (va_cwS 2 hts (gw_S (fun _ h => List.mem_cons_of_mem _ h) mw_37 mw_38 mw_9 mw_36) rfl rfl rfl (by decide +kernel) ⟨Nat.le_of_ble_eq_true rfl, Nat.le_of_ble_eq_true rfl⟩) (sg_preS hA hK hP hS hZ) rfl rfl hl.1 rfl (lv_room (Nat.le_of_ble_eq_true rfl)) dX11_mend_18 ⟨Nat.le_refl _, Nat.le_refl _⟩) hA hS (fun r_48 f_45 L_46 Q_47 H locs hq hP hS => ?_)
    obtain ⟨⟨ef9, eL9, eQ9⟩, hq⟩ := hq
    rw [ef9, eL9, eQ9] at hP; clear ef9 eL9 eQ9
    have k_49 : (8 : Int32).toInt = 8 := by decide
    rcases hq with ⟨rfl, hq⟩ | ⟨rfl, hq⟩
    · skip
      have q_50 := hq
      refine lv_if_ne (tgt := 26) hx hb dX11_mend_21 (by decide) (fun c => ?_) (fun c => absurd c (by decide))
      refine lv_aload_n hx hb dX11_mend_26 rfl (lv_at hl 1 rfl) ?_
      refine sg_get (ci := 11) (v := .ref (h 1)) (C := RX11) (T := TX11) (N := 10) hx hb hts (fun w h => List.mem_cons_of_mem _ (gx_11 w h)) hown hK hP 0 (by decide) rfl rfl 0 (by decide) (hts _ (List.mem_cons_of_mem _ mw_10)) (fun _ h9 => h9) rfl dX11_mend_27 ?_
      refine sg_get (ci := 0) (v := .ref (h 2)) (C := RX0) (T := TX0) (N := 5) hx hb hts (fun w h => List.mem_cons_of_mem _ (gx_0 w h)) hown hK hP 1 (by decide) rfl rfl 0 (by decide) (hts _ (List.mem_cons_of_mem _ mw_52)) (fun _ h9 => h9) rfl dX11_mend_30 ?_
      refine lv_iload hx hb dX11_mend_33 (lv_at hl 0 rfl) ?_
      refine sg_iald hx hb hK hP 2 (by decide) 0 rfl rfl (i := 66) (vp_in_iff.mpr (by decide)) dX11_mend_35 ?_
      refine W.eq (g2 := F0 m 36 ls [.int 0]) (by rw [show f0X 2 (Int32.toNatClampNeg 66) = 0 from rfl]) ?_
      refine lv_istore (lv' := [(5, .int 0), (4, .int 66), (0, .ref (h 0)), (1, .int 2), (2, .int 8), (3, .int x2)]) hx hb dX11_mend_36 hl (by decide) rfl (fun ls hl => ?_)
      refine lv_iload hx hb dX11_mend_38 (lv_at hl 0 rfl) ?_
      refine lv_iload_n hx hb dX11_mend_40 rfl (lv_at hl 5 rfl) ?_
      refine lv_icmp_eq (tgt := 66) hx hb dX11_mend_41 (by decide) (fun c => ?_) (fun c => ?_)
      · skip
        have c_51 : 0 = x2.toInt := (by have z := Int32.toInt_inj.mpr c; have k0 : (0 : Int32).toInt = 0 := (by decide); omega)
        refine lv_iload hx hb dX11_mend_66 (lv_at hl 0 rfl) ?_
        exact hret _ _ _ _ (0) f0X L0 Q0 dX11_mend_68 hP hS ⟨trivial, Or.inr (Or.inl ⟨rfl, by omega⟩)⟩
      · skip
        have c_52 : 0 ≠ x2.toInt := (by have z := bn_ne c; have k0 : (0 : Int32).toInt = 0 := (by decide); omega)
        refine lv_aload_n hx hb dX11_mend_44 rfl (lv_at hl 2 rfl) ?_
        refine sg_get (ci := 11) (v := .ref (h 32)) (C := RX11) (T := TX11) (N := 10) hx hb hts (fun w h => List.mem_cons_of_mem _ (gx_11 w h)) hown hK hP 0 (by decide) rfl rfl 7 (by decide) (hts _ (List.mem_cons_of_mem _ mw_53)) (fun _ h9 => h9) rfl dX11_mend_45 ?_
        refine lv_iload hx hb dX11_mend_48 (lv_at hl 1 rfl) ?_
        refine lv_iload hx hb dX11_mend_50 (lv_at hl 0 rfl) ?_
        refine lv_iload_n hx hb dX11_mend_52 rfl (lv_at hl 5 rfl) ?_
        refine sg_callv (va_runV (As := [.int 66, .int 0, .int x2]) (rest := []) ⟨hx, hb, hml, hown, hts⟩ (cf_X1_comes l D ca za h hh f0X L0 Q0 66 0 x2 rfl H.size) (cwV 3 hts (gw_V (fun _ h => List.mem_cons_of_mem _ h) mw_55 mw_56 mw_57 mw_58 mw_54) rfl rfl rfl (by decide +kernel) ⟨Nat.le_of_ble_eq_true rfl, Nat.le_of_ble_eq_true rfl⟩) (sg_preV (ci := 1) (C := RX1) (T := TX1) (N := 5) hA hK hP hS hZ 32 (by decide) rfl rfl) rfl rfl hl.1 rfl (lv_room (Nat.le_of_ble_eq_true rfl)) dX11_mend_53 ⟨Nat.le_refl _, Nat.le_refl _⟩) hA hS (fun f_53 L_54 Q_55 H locs hq hP hS => ?_)
        refine lv_aload_n hx hb dX11_mend_56 rfl (lv_at hl 2 rfl) ?_
        refine sg_get (ci := 11) (v := .ref (h 1)) (C := RX11) (T := TX11) (N := 10) hx hb hts (fun w h => List.mem_cons_of_mem _ (gx_11 w h)) hown hK hP 0 (by decide) rfl rfl 0 (by decide) (hts _ (List.mem_cons_of_mem _ mw_10)) (fun _ h9 => h9) rfl dX11_mend_57 ?_
        refine lv_iload hx hb dX11_mend_60 (lv_at hl 1 rfl) ?_
        refine lv_iload_n hx hb dX11_mend_62 rfl (lv_at hl 5 rfl) ?_
        refine sg_callv (va_runV (As := [.int 66, .int x2]) (rest := []) ⟨hx, hb, hml, hown, hts⟩ (cf_X0_becomes l D ca za h hh f_53 L_54 Q_55 66 x2 (by first | omega | decide) H.size) (cwV 2 hts (gw_V (fun _ h => List.mem_cons_of_mem _ h) mw_60 mw_61 mw_62 mw_15 mw_59) rfl rfl rfl (by decide +kernel) ⟨Nat.le_of_ble_eq_true rfl, Nat.le_of_ble_eq_true rfl⟩) (sg_preV (ci := 0) (C := RX0) (T := TX0) (N := 5) hA hK hP hS hZ 1 (by decide) rfl rfl) rfl rfl hl.1 rfl (lv_room (Nat.le_of_ble_eq_true rfl)) dX11_mend_63 ⟨Nat.le_refl _, Nat.le_refl _⟩) hA hS (fun f_56 L_57 Q_58 H locs hq hP hS => ?_)
        refine lv_iload hx hb dX11_mend_66 (lv_at hl 0 rfl) ?_
        exact hret _ _ _ _ (0) f_56 L_57 Q_58 dX11_mend_68 hP hS ⟨trivial, Or.inr (Or.inl ⟨rfl, by omega⟩)⟩
    · skip
      have q_59 := hq
      refine lv_if_ne (tgt := 26) hx hb dX11_mend_21 (by decide) (fun c => absurd c (by decide)) (fun c => ?_)
      refine lv_iconst (v := (-1)) hx hb dX11_mend_24 (by decide) ?_
      exact hret _ _ _ _ (-1) f0X L0 Q0 dX11_mend_25 hP hS ⟨trivial, Or.inr (Or.inr (Or.inr (⟨rfl, by omega⟩)))⟩
  · skip
    have q_60 := hq
    have k_61 : (9 : Int32).toInt = 9 := (by decide)
    obtain rfl : x1 = 9 := Int32.toInt_inj.mp (by omega)
    have k_62 : (0 : Int32).toInt = 0 := (by decide)
    obtain rfl : x0 = 0 := Int32.toInt_inj.mp (by omega)
    refine lv_istore (lv' := [(4, .int 67), (0, .ref (h 0)), (1, .int 0), (2, .int 9), (3, .int x2)]) hx hb dX11_mend_9 hl (by decide) rfl (fun ls hl => ?_)
    refine lv_iload hx hb dX11_mend_11 (lv_at hl 0 rfl) ?_
    refine lv_if_lt (tgt := 24) hx hb dX11_mend_13 (by decide) (fun c => absurd c (by decide)) (fun c => ?_)
    refine lv_iload_n hx hb dX11_mend_16 rfl (lv_at hl 3 rfl) ?_
    refine lv_iload_n hx hb dX11_mend_17 rfl (lv_at hl 4 rfl) ?_
    refine sg_calli (va_runS (As := [.int 9, .int x2]) (rest := []) ⟨hx, hb, hml, hown, hts⟩ (cf_X11_fits_9 l D ca za h hh f0X L0 Q0 x2 H.size) (va_cwS 2 hts (gw_S (fun _ h => List.mem_cons_of_mem _ h) mw_37 mw_38 mw_9 mw_36) rfl rfl rfl (by decide +kernel) ⟨Nat.le_of_ble_eq_true rfl, Nat.le_of_ble_eq_true rfl⟩) (sg_preS hA hK hP hS hZ) rfl rfl hl.1 rfl (lv_room (Nat.le_of_ble_eq_true rfl)) dX11_mend_18 ⟨Nat.le_refl _, Nat.le_refl _⟩) hA hS (fun r_66 f_63 L_64 Q_65 H locs hq hP hS => ?_)
    obtain ⟨⟨ef9, eL9, eQ9⟩, hq⟩ := hq
    rw [ef9, eL9, eQ9] at hP; clear ef9 eL9 eQ9
    have k_67 : (9 : Int32).toInt = 9 := by decide
    rcases hq with ⟨rfl, hq⟩ | ⟨rfl, hq⟩
    · skip
      have q_68 := hq
      refine lv_if_ne (tgt := 26) hx hb dX11_mend_21 (by decide) (fun c => ?_) (fun c => absurd c (by decide))
      refine lv_aload_n hx hb dX11_mend_26 rfl (lv_at hl 1 rfl) ?_
      refine sg_get (ci := 11) (v := .ref (h 1)) (C := RX11) (T := TX11) (N := 10) hx hb hts (fun w h => List.mem_cons_of_mem _ (gx_11 w h)) hown hK hP 0 (by decide) rfl rfl 0 (by decide) (hts _ (List.mem_cons_of_mem _ mw_10)) (fun _ h9 => h9) rfl dX11_mend_27 ?_
      refine sg_get (ci := 0) (v := .ref (h 2)) (C := RX0) (T := TX0) (N := 5) hx hb hts (fun w h => List.mem_cons_of_mem _ (gx_0 w h)) hown hK hP 1 (by decide) rfl rfl 0 (by decide) (hts _ (List.mem_cons_of_mem _ mw_52)) (fun _ h9 => h9) rfl dX11_mend_30 ?_
      refine lv_iload hx hb dX11_mend_33 (lv_at hl 0 rfl) ?_
      refine sg_iald hx hb hK hP 2 (by decide) 0 rfl rfl (i := 67) (vp_in_iff.mpr (by decide)) dX11_mend_35 ?_
      refine W.eq (g2 := F0 m 36 ls [.int 1]) (by rw [show f0X 2 (Int32.toNatClampNeg 67) = 1 from rfl]) ?_
      refine lv_istore (lv' := [(5, .int 1), (4, .int 67), (0, .ref (h 0)), (1, .int 0), (2, .int 9), (3, .int x2)]) hx hb dX11_mend_36 hl (by decide) rfl (fun ls hl => ?_)
      refine lv_iload hx hb dX11_mend_38 (lv_at hl 0 rfl) ?_
      refine lv_iload_n hx hb dX11_mend_40 rfl (lv_at hl 5 rfl) ?_
      refine lv_icmp_eq (tgt := 66) hx hb dX11_mend_41 (by decide) (fun c => ?_) (fun c => ?_)
      · skip
        have c_69 : 1 = x2.toInt := (by have z := Int32.toInt_inj.mpr c; have k0 : (1 : Int32).toInt = 1 := (by decide); omega)
        refine lv_iload hx hb dX11_mend_66 (lv_at hl 0 rfl) ?_
        exact hret _ _ _ _ (1) f0X L0 Q0 dX11_mend_68 hP hS ⟨trivial, Or.inl ⟨rfl, by omega⟩⟩
      · skip
        have c_70 : 1 ≠ x2.toInt := (by have z := bn_ne c; have k0 : (1 : Int32).toInt = 1 := (by decide); omega)
        refine lv_aload_n hx hb dX11_mend_44 rfl (lv_at hl 2 rfl) ?_
        refine sg_get (ci := 11) (v := .ref (h 32)) (C := RX11) (T := TX11) (N := 10) hx hb hts (fun w h => List.mem_cons_of_mem _ (gx_11 w h)) hown hK hP 0 (by decide) rfl rfl 7 (by decide) (hts _ (List.mem_cons_of_mem _ mw_53)) (fun _ h9 => h9) rfl dX11_mend_45 ?_
        refine lv_iload hx hb dX11_mend_48 (lv_at hl 1 rfl) ?_
        refine lv_iload hx hb dX11_mend_50 (lv_at hl 0 rfl) ?_
        refine lv_iload_n hx hb dX11_mend_52 rfl (lv_at hl 5 rfl) ?_
        refine sg_callv (va_runV (As := [.int 67, .int 1, .int x2]) (rest := []) ⟨hx, hb, hml, hown, hts⟩ (cf_X1_comes l D ca za h hh f0X L0 Q0 67 1 x2 rfl H.size) (cwV 3 hts (gw_V (fun _ h => List.mem_cons_of_mem _ h) mw_55 mw_56 mw_57 mw_58 mw_54) rfl rfl rfl (by decide +kernel) ⟨Nat.le_of_ble_eq_true rfl, Nat.le_of_ble_eq_true rfl⟩) (sg_preV (ci := 1) (C := RX1) (T := TX1) (N := 5) hA hK hP hS hZ 32 (by decide) rfl rfl) rfl rfl hl.1 rfl (lv_room (Nat.le_of_ble_eq_true rfl)) dX11_mend_53 ⟨Nat.le_refl _, Nat.le_refl _⟩) hA hS (fun f_71 L_72 Q_73 H locs hq hP hS => ?_)
        refine lv_aload_n hx hb dX11_mend_56 rfl (lv_at hl 2 rfl) ?_
        refine sg_get (ci := 11) (v := .ref (h 1)) (C := RX11) (T := TX11) (N := 10) hx hb hts (fun w h => List.mem_cons_of_mem _ (gx_11 w h)) hown hK hP 0 (by decide) rfl rfl 0 (by decide) (hts _ (List.mem_cons_of_mem _ mw_10)) (fun _ h9 => h9) rfl dX11_mend_57 ?_
        refine lv_iload hx hb dX11_mend_60 (lv_at hl 1 rfl) ?_
        refine lv_iload_n hx hb dX11_mend_62 rfl (lv_at hl 5 rfl) ?_
        refine sg_callv (va_runV (As := [.int 67, .int x2]) (rest := []) ⟨hx, hb, hml, hown, hts⟩ (cf_X0_becomes l D ca za h hh f_71 L_72 Q_73 67 x2 (by first | omega | decide) H.size) (cwV 2 hts (gw_V (fun _ h => List.mem_cons_of_mem _ h) mw_60 mw_61 mw_62 mw_15 mw_59) rfl rfl rfl (by decide +kernel) ⟨Nat.le_of_ble_eq_true rfl, Nat.le_of_ble_eq_true rfl⟩) (sg_preV (ci := 0) (C := RX0) (T := TX0) (N := 5) hA hK hP hS hZ 1 (by decide) rfl rfl) rfl rfl hl.1 rfl (lv_room (Nat.le_of_ble_eq_true rfl)) dX11_mend_63 ⟨Nat.le_refl _, Nat.le_refl _⟩) hA hS (fun f_74 L_75 Q_76 H locs hq hP hS => ?_)
        refine lv_iload hx hb dX11_mend_66 (lv_at hl 0 rfl) ?_
        exact hret _ _ _ _ (1) f_74 L_75 Q_76 dX11_mend_68 hP hS ⟨trivial, Or.inl ⟨rfl, by omega⟩⟩
    · skip
      have q_77 := hq
      refine lv_if_ne (tgt := 26) hx hb dX11_mend_21 (by decide) (fun c => absurd c (by decide)) (fun c => ?_)
      refine lv_iconst (v := (-1)) hx hb dX11_mend_24 (by decide) ?_
      exact hret _ _ _ _ (-1) f0X L0 Q0 dX11_mend_25 hP hS ⟨trivial, Or.inr (Or.inr (Or.inr (⟨rfl, by omega⟩)))⟩
  · skip
    have q_78 := hq
    have k_79 : (9 : Int32).toInt = 9 := (by decide)
    obtain rfl : x1 = 9 := Int32.toInt_inj.mp (by omega)
    have k_80 : (1 : Int32).toInt = 1 := (by decide)
    obtain rfl : x0 = 1 := Int32.toInt_inj.mp (by omega)
    refine lv_istore (lv' := [(4, .int 68), (0, .ref (h 0)), (1, .int 1), (2, .int 9), (3, .int x2)]) hx hb dX11_mend_9 hl (by decide) rfl (fun ls hl => ?_)
    refine lv_iload hx hb dX11_mend_11 (lv_at hl 0 rfl) ?_
    refine lv_if_lt (tgt := 24) hx hb dX11_mend_13 (by decide) (fun c => absurd c (by decide)) (fun c => ?_)
    refine lv_iload_n hx hb dX11_mend_16 rfl (lv_at hl 3 rfl) ?_
    refine lv_iload_n hx hb dX11_mend_17 rfl (lv_at hl 4 rfl) ?_
    refine sg_calli (va_runS (As := [.int 9, .int x2]) (rest := []) ⟨hx, hb, hml, hown, hts⟩ (cf_X11_fits_9 l D ca za h hh f0X L0 Q0 x2 H.size) (va_cwS 2 hts (gw_S (fun _ h => List.mem_cons_of_mem _ h) mw_37 mw_38 mw_9 mw_36) rfl rfl rfl (by decide +kernel) ⟨Nat.le_of_ble_eq_true rfl, Nat.le_of_ble_eq_true rfl⟩) (sg_preS hA hK hP hS hZ) rfl rfl hl.1 rfl (lv_room (Nat.le_of_ble_eq_true rfl)) dX11_mend_18 ⟨Nat.le_refl _, Nat.le_refl _⟩) hA hS (fun r_84 f_81 L_82 Q_83 H locs hq hP hS => ?_)
    obtain ⟨⟨ef9, eL9, eQ9⟩, hq⟩ := hq
    rw [ef9, eL9, eQ9] at hP; clear ef9 eL9 eQ9
    have k_85 : (9 : Int32).toInt = 9 := by decide
    rcases hq with ⟨rfl, hq⟩ | ⟨rfl, hq⟩
    · skip
      have q_86 := hq
      refine lv_if_ne (tgt := 26) hx hb dX11_mend_21 (by decide) (fun c => ?_) (fun c => absurd c (by decide))
      refine lv_aload_n hx hb dX11_mend_26 rfl (lv_at hl 1 rfl) ?_
      refine sg_get (ci := 11) (v := .ref (h 1)) (C := RX11) (T := TX11) (N := 10) hx hb hts (fun w h => List.mem_cons_of_mem _ (gx_11 w h)) hown hK hP 0 (by decide) rfl rfl 0 (by decide) (hts _ (List.mem_cons_of_mem _ mw_10)) (fun _ h9 => h9) rfl dX11_mend_27 ?_
      refine sg_get (ci := 0) (v := .ref (h 2)) (C := RX0) (T := TX0) (N := 5) hx hb hts (fun w h => List.mem_cons_of_mem _ (gx_0 w h)) hown hK hP 1 (by decide) rfl rfl 0 (by decide) (hts _ (List.mem_cons_of_mem _ mw_52)) (fun _ h9 => h9) rfl dX11_mend_30 ?_
      refine lv_iload hx hb dX11_mend_33 (lv_at hl 0 rfl) ?_
      refine sg_iald hx hb hK hP 2 (by decide) 0 rfl rfl (i := 68) (vp_in_iff.mpr (by decide)) dX11_mend_35 ?_
      refine W.eq (g2 := F0 m 36 ls [.int 1]) (by rw [show f0X 2 (Int32.toNatClampNeg 68) = 1 from rfl]) ?_
      refine lv_istore (lv' := [(5, .int 1), (4, .int 68), (0, .ref (h 0)), (1, .int 1), (2, .int 9), (3, .int x2)]) hx hb dX11_mend_36 hl (by decide) rfl (fun ls hl => ?_)
      refine lv_iload hx hb dX11_mend_38 (lv_at hl 0 rfl) ?_
      refine lv_iload_n hx hb dX11_mend_40 rfl (lv_at hl 5 rfl) ?_
      refine lv_icmp_eq (tgt := 66) hx hb dX11_mend_41 (by decide) (fun c => ?_) (fun c => ?_)
      · skip
        have c_87 : 1 = x2.toInt := (by have z := Int32.toInt_inj.mpr c; have k0 : (1 : Int32).toInt = 1 := (by decide); omega)
        refine lv_iload hx hb dX11_mend_66 (lv_at hl 0 rfl) ?_
        exact hret _ _ _ _ (1) f0X L0 Q0 dX11_mend_68 hP hS ⟨trivial, Or.inl ⟨rfl, by omega⟩⟩
      · skip
        have c_88 : 1 ≠ x2.toInt := (by have z := bn_ne c; have k0 : (1 : Int32).toInt = 1 := (by decide); omega)
        refine lv_aload_n hx hb dX11_mend_44 rfl (lv_at hl 2 rfl) ?_
        refine sg_get (ci := 11) (v := .ref (h 32)) (C := RX11) (T := TX11) (N := 10) hx hb hts (fun w h => List.mem_cons_of_mem _ (gx_11 w h)) hown hK hP 0 (by decide) rfl rfl 7 (by decide) (hts _ (List.mem_cons_of_mem _ mw_53)) (fun _ h9 => h9) rfl dX11_mend_45 ?_
        refine lv_iload hx hb dX11_mend_48 (lv_at hl 1 rfl) ?_
        refine lv_iload hx hb dX11_mend_50 (lv_at hl 0 rfl) ?_
        refine lv_iload_n hx hb dX11_mend_52 rfl (lv_at hl 5 rfl) ?_
        refine sg_callv (va_runV (As := [.int 68, .int 1, .int x2]) (rest := []) ⟨hx, hb, hml, hown, hts⟩ (cf_X1_comes l D ca za h hh f0X L0 Q0 68 1 x2 rfl H.size) (cwV 3 hts (gw_V (fun _ h => List.mem_cons_of_mem _ h) mw_55 mw_56 mw_57 mw_58 mw_54) rfl rfl rfl (by decide +kernel) ⟨Nat.le_of_ble_eq_true rfl, Nat.le_of_ble_eq_true rfl⟩) (sg_preV (ci := 1) (C := RX1) (T := TX1) (N := 5) hA hK hP hS hZ 32 (by decide) rfl rfl) rfl rfl hl.1 rfl (lv_room (Nat.le_of_ble_eq_true rfl)) dX11_mend_53 ⟨Nat.le_refl _, Nat.le_refl _⟩) hA hS (fun f_89 L_90 Q_91 H locs hq hP hS => ?_)
        refine lv_aload_n hx hb dX11_mend_56 rfl (lv_at hl 2 rfl) ?_
        refine sg_get (ci := 11) (v := .ref (h 1)) (C := RX11) (T := TX11) (N := 10) hx hb hts (fun w h => List.mem_cons_of_mem _ (gx_11 w h)) hown hK hP 0 (by decide) rfl rfl 0 (by decide) (hts _ (List.mem_cons_of_mem _ mw_10)) (fun _ h9 => h9) rfl dX11_mend_57 ?_
        refine lv_iload hx hb dX11_mend_60 (lv_at hl 1 rfl) ?_
        refine lv_iload_n hx hb dX11_mend_62 rfl (lv_at hl 5 rfl) ?_
        refine sg_callv (va_runV (As := [.int 68, .int x2]) (rest := []) ⟨hx, hb, hml, hown, hts⟩ (cf_X0_becomes l D ca za h hh f_89 L_90 Q_91 68 x2 (by first | omega | decide) H.size) (cwV 2 hts (gw_V (fun _ h => List.mem_cons_of_mem _ h) mw_60 mw_61 mw_62 mw_15 mw_59) rfl rfl rfl (by decide +kernel) ⟨Nat.le_of_ble_eq_true rfl, Nat.le_of_ble_eq_true rfl⟩) (sg_preV (ci := 0) (C := RX0) (T := TX0) (N := 5) hA hK hP hS hZ 1 (by decide) rfl rfl) rfl rfl hl.1 rfl (lv_room (Nat.le_of_ble_eq_true rfl)) dX11_mend_63 ⟨Nat.le_refl _, Nat.le_refl _⟩) hA hS (fun f_92 L_93 Q_94 H locs hq hP hS => ?_)
        refine lv_iload hx hb dX11_mend_66 (lv_at hl 0 rfl) ?_
        exact hret _ _ _ _ (1) f_92 L_93 Q_94 dX11_mend_68 hP hS ⟨trivial, Or.inl ⟨rfl, by omega⟩⟩
    · skip
      have q_95 := hq
      refine lv_if_ne (tgt := 26) hx hb dX11_mend_21 (by decide) (fun c => absurd c (by decide)) (fun c => ?_)
      refine lv_iconst (v := (-1)) hx hb dX11_mend_24 (by decide) ?_
      exact hret _ _ _ _ (-1) f0X L0 Q0 dX11_mend_25 hP hS ⟨trivial, Or.inr (Or.inr (Or.inr (⟨rfl, by omega⟩)))⟩
  · skip
    have q_96 := hq
    have k_97 : (9 : Int32).toInt = 9 := (by decide)
    obtain rfl : x1 = 9 := Int32.toInt_inj.mp (by omega)
    have k_98 : (2 : Int32).toInt = 2 := (by decide)
    obtain rfl : x0 = 2 := Int32.toInt_inj.mp (by omega)
    refine lv_istore (lv' := [(4, .int 69), (0, .ref (h 0)), (1, .int 2), (2, .int 9), (3, .int x2)]) hx hb dX11_mend_9 hl (by decide) rfl (fun ls hl => ?_)
    refine lv_iload hx hb dX11_mend_11 (lv_at hl 0 rfl) ?_
    refine lv_if_lt (tgt := 24) hx hb dX11_mend_13 (by decide) (fun c => absurd c (by decide)) (fun c => ?_)
    refine lv_iload_n hx hb dX11_mend_16 rfl (lv_at hl 3 rfl) ?_
    refine lv_iload_n hx hb dX11_mend_17 rfl (lv_at hl 4 rfl) ?_
    refine sg_calli (va_runS (As := [.int 9, .int x2]) (rest := []) ⟨hx, hb, hml, hown, hts⟩ (cf_X11_fits_9 l D ca za h hh f0X L0 Q0 x2 H.size) (va_cwS 2 hts (gw_S (fun _ h => List.mem_cons_of_mem _ h) mw_37 mw_38 mw_9 mw_36) rfl rfl rfl (by decide +kernel) ⟨Nat.le_of_ble_eq_true rfl, Nat.le_of_ble_eq_true rfl⟩) (sg_preS hA hK hP hS hZ) rfl rfl hl.1 rfl (lv_room (Nat.le_of_ble_eq_true rfl)) dX11_mend_18 ⟨Nat.le_refl _, Nat.le_refl _⟩) hA hS (fun r_102 f_99 L_100 Q_101 H locs hq hP hS => ?_)
    obtain ⟨⟨ef9, eL9, eQ9⟩, hq⟩ := hq
    rw [ef9, eL9, eQ9] at hP; clear ef9 eL9 eQ9
    have k_103 : (9 : Int32).toInt = 9 := by decide
    rcases hq with ⟨rfl, hq⟩ | ⟨rfl, hq⟩
    · skip
      have q_104 := hq
      refine lv_if_ne (tgt := 26) hx hb dX11_mend_21 (by decide) (fun c => ?_) (fun c => absurd c (by decide))
      refine lv_aload_n hx hb dX11_mend_26 rfl (lv_at hl 1 rfl) ?_
      refine sg_get (ci := 11) (v := .ref (h 1)) (C := RX11) (T := TX11) (N := 10) hx hb hts (fun w h => List.mem_cons_of_mem _ (gx_11 w h)) hown hK hP 0 (by decide) rfl rfl 0 (by decide) (hts _ (List.mem_cons_of_mem _ mw_10)) (fun _ h9 => h9) rfl dX11_mend_27 ?_
      refine sg_get (ci := 0) (v := .ref (h 2)) (C := RX0) (T := TX0) (N := 5) hx hb hts (fun w h => List.mem_cons_of_mem _ (gx_0 w h)) hown hK hP 1 (by decide) rfl rfl 0 (by decide) (hts _ (List.mem_cons_of_mem _ mw_52)) (fun _ h9 => h9) rfl dX11_mend_30 ?_
      refine lv_iload hx hb dX11_mend_33 (lv_at hl 0 rfl) ?_
      refine sg_iald hx hb hK hP 2 (by decide) 0 rfl rfl (i := 69) (vp_in_iff.mpr (by decide)) dX11_mend_35 ?_
      refine W.eq (g2 := F0 m 36 ls [.int 1]) (by rw [show f0X 2 (Int32.toNatClampNeg 69) = 1 from rfl]) ?_
      refine lv_istore (lv' := [(5, .int 1), (4, .int 69), (0, .ref (h 0)), (1, .int 2), (2, .int 9), (3, .int x2)]) hx hb dX11_mend_36 hl (by decide) rfl (fun ls hl => ?_)
      refine lv_iload hx hb dX11_mend_38 (lv_at hl 0 rfl) ?_
      refine lv_iload_n hx hb dX11_mend_40 rfl (lv_at hl 5 rfl) ?_
      refine lv_icmp_eq (tgt := 66) hx hb dX11_mend_41 (by decide) (fun c => ?_) (fun c => ?_)
      · skip
        have c_105 : 1 = x2.toInt := (by have z := Int32.toInt_inj.mpr c; have k0 : (1 : Int32).toInt = 1 := (by decide); omega)
        refine lv_iload hx hb dX11_mend_66 (lv_at hl 0 rfl) ?_
        exact hret _ _ _ _ (1) f0X L0 Q0 dX11_mend_68 hP hS ⟨trivial, Or.inl ⟨rfl, by omega⟩⟩
      · skip
        have c_106 : 1 ≠ x2.toInt := (by have z := bn_ne c; have k0 : (1 : Int32).toInt = 1 := (by decide); omega)
        refine lv_aload_n hx hb dX11_mend_44 rfl (lv_at hl 2 rfl) ?_
        refine sg_get (ci := 11) (v := .ref (h 32)) (C := RX11) (T := TX11) (N := 10) hx hb hts (fun w h => List.mem_cons_of_mem _ (gx_11 w h)) hown hK hP 0 (by decide) rfl rfl 7 (by decide) (hts _ (List.mem_cons_of_mem _ mw_53)) (fun _ h9 => h9) rfl dX11_mend_45 ?_
        refine lv_iload hx hb dX11_mend_48 (lv_at hl 1 rfl) ?_
        refine lv_iload hx hb dX11_mend_50 (lv_at hl 0 rfl) ?_
        refine lv_iload_n hx hb dX11_mend_52 rfl (lv_at hl 5 rfl) ?_
        refine sg_callv (va_runV (As := [.int 69, .int 1, .int x2]) (rest := []) ⟨hx, hb, hml, hown, hts⟩ (cf_X1_comes l D ca za h hh f0X L0 Q0 69 1 x2 rfl H.size) (cwV 3 hts (gw_V (fun _ h => List.mem_cons_of_mem _ h) mw_55 mw_56 mw_57 mw_58 mw_54) rfl rfl rfl (by decide +kernel) ⟨Nat.le_of_ble_eq_true rfl, Nat.le_of_ble_eq_true rfl⟩) (sg_preV (ci := 1) (C := RX1) (T := TX1) (N := 5) hA hK hP hS hZ 32 (by decide) rfl rfl) rfl rfl hl.1 rfl (lv_room (Nat.le_of_ble_eq_true rfl)) dX11_mend_53 ⟨Nat.le_refl _, Nat.le_refl _⟩) hA hS (fun f_107 L_108 Q_109 H locs hq hP hS => ?_)
        refine lv_aload_n hx hb dX11_mend_56 rfl (lv_at hl 2 rfl) ?_
        refine sg_get (ci := 11) (v := .ref (h 1)) (C := RX11) (T := TX11) (N := 10) hx hb hts (fun w h => List.mem_cons_of_mem _ (gx_11 w h)) hown hK hP 0 (by decide) rfl rfl 0 (by decide) (hts _ (List.mem_cons_of_mem _ mw_10)) (fun _ h9 => h9) rfl dX11_mend_57 ?_
        refine lv_iload hx hb dX11_mend_60 (lv_at hl 1 rfl) ?_
        refine lv_iload_n hx hb dX11_mend_62 rfl (lv_at hl 5 rfl) ?_
        refine sg_callv (va_runV (As := [.int 69, .int x2]) (rest := []) ⟨hx, hb, hml, hown, hts⟩ (cf_X0_becomes l D ca za h hh f_107 L_108 Q_109 69 x2 (by first | omega | decide) H.size) (cwV 2 hts (gw_V (fun _ h => List.mem_cons_of_mem _ h) mw_60 mw_61 mw_62 mw_15 mw_59) rfl rfl rfl (by decide +kernel) ⟨Nat.le_of_ble_eq_true rfl, Nat.le_of_ble_eq_true rfl⟩) (sg_preV (ci := 0) (C := RX0) (T := TX0) (N := 5) hA hK hP hS hZ 1 (by decide) rfl rfl) rfl rfl hl.1 rfl (lv_room (Nat.le_of_ble_eq_true rfl)) dX11_mend_63 ⟨Nat.le_refl _, Nat.le_refl _⟩) hA hS (fun f_110 L_111 Q_112 H locs hq hP hS => ?_)
        refine lv_iload hx hb dX11_mend_66 (lv_at hl 0 rfl) ?_
        exact hret _ _ _ _ (1) f_110 L_111 Q_112 dX11_mend_68 hP hS ⟨trivial, Or.inl ⟨rfl, by omega⟩⟩
    · skip
      have q_113 := hq
      refine lv_if_ne (tgt := 26) hx hb dX11_mend_21 (by decide) (fun c => absurd c (by decide)) (fun c => ?_)
      refine lv_iconst (v := (-1)) hx hb dX11_mend_24 (by decide) ?_
      exact hret _ _ _ _ (-1) f0X L0 Q0 dX11_mend_25 hP hS ⟨trivial, Or.inr (Or.inr (Or.inr (⟨rfl, by omega⟩)))⟩
  · skip
    have q_114 := hq
    have k_115 : (10 : Int32).toInt = 10 := (by decide)
    obtain rfl : x1 = 10 := Int32.toInt_inj.mp (by omega)
    have k_116 : (0 : Int32).toInt = 0 := (by decide)
    obtain rfl : x0 = 0 := Int32.toInt_inj.mp (by omega)
    refine lv_istore (lv' := [(4, .int 70), (0, .ref (h 0)), (1, .int 0), (2, .int 10), (3, .int x2)]) hx hb dX11_mend_9 hl (by decide) rfl (fun ls hl => ?_)
    refine lv_iload hx hb dX11_mend_11 (lv_at hl 0 rfl) ?_
    refine lv_if_lt (tgt := 24) hx hb dX11_mend_13 (by decide) (fun c => absurd c (by decide)) (fun c => ?_)
    refine lv_iload_n hx hb dX11_mend_16 rfl (lv_at hl 3 rfl) ?_
    refine lv_iload_n hx hb dX11_mend_17 rfl (lv_at hl 4 rfl) ?_
    refine sg_calli (va_runS (As := [.int 10, .int x2]) (rest := []) ⟨hx, hb, hml, hown, hts⟩ (cf_X11_fits_10 l D ca za h hh f0X L0 Q0 x2 H.size) (va_cwS 2 hts (gw_S (fun _ h => List.mem_cons_of_mem _ h) mw_37 mw_38 mw_9 mw_36) rfl rfl rfl (by decide +kernel) ⟨Nat.le_of_ble_eq_true rfl, Nat.le_of_ble_eq_true rfl⟩) (sg_preS hA hK hP hS hZ) rfl rfl hl.1 rfl (lv_room (Nat.le_of_ble_eq_true rfl)) dX11_mend_18 ⟨Nat.le_refl _, Nat.le_refl _⟩) hA hS (fun r_120 f_117 L_118 Q_119 H locs hq hP hS => ?_)
    obtain ⟨⟨ef9, eL9, eQ9⟩, hq⟩ := hq
    rw [ef9, eL9, eQ9] at hP; clear ef9 eL9 eQ9
    have k_121 : (10 : Int32).toInt = 10 := by decide
    rcases hq with ⟨rfl, hq⟩ | ⟨rfl, hq⟩
    · skip
      have q_122 := hq
      refine lv_if_ne (tgt := 26) hx hb dX11_mend_21 (by decide) (fun c => ?_) (fun c => absurd c (by decide))
      refine lv_aload_n hx hb dX11_mend_26 rfl (lv_at hl 1 rfl) ?_
      refine sg_get (ci := 11) (v := .ref (h 1)) (C := RX11) (T := TX11) (N := 10) hx hb hts (fun w h => List.mem_cons_of_mem _ (gx_11 w h)) hown hK hP 0 (by decide) rfl rfl 0 (by decide) (hts _ (List.mem_cons_of_mem _ mw_10)) (fun _ h9 => h9) rfl dX11_mend_27 ?_
      refine sg_get (ci := 0) (v := .ref (h 2)) (C := RX0) (T := TX0) (N := 5) hx hb hts (fun w h => List.mem_cons_of_mem _ (gx_0 w h)) hown hK hP 1 (by decide) rfl rfl 0 (by decide) (hts _ (List.mem_cons_of_mem _ mw_52)) (fun _ h9 => h9) rfl dX11_mend_30 ?_
      refine lv_iload hx hb dX11_mend_33 (lv_at hl 0 rfl) ?_
      refine sg_iald hx hb hK hP 2 (by decide) 0 rfl rfl (i := 70) (vp_in_iff.mpr (by decide)) dX11_mend_35 ?_
      refine W.eq (g2 := F0 m 36 ls [.int 3]) (by rw [show f0X 2 (Int32.toNatClampNeg 70) = 3 from rfl]) ?_
      refine lv_istore (lv' := [(5, .int 3), (4, .int 70), (0, .ref (h 0)), (1, .int 0), (2, .int 10), (3, .int x2)]) hx hb dX11_mend_36 hl (by decide) rfl (fun ls hl => ?_)
      refine lv_iload hx hb dX11_mend_38 (lv_at hl 0 rfl) ?_
      refine lv_iload_n hx hb dX11_mend_40 rfl (lv_at hl 5 rfl) ?_
      refine lv_icmp_eq (tgt := 66) hx hb dX11_mend_41 (by decide) (fun c => ?_) (fun c => ?_)
      · skip
        have c_123 : 3 = x2.toInt := (by have z := Int32.toInt_inj.mpr c; have k0 : (3 : Int32).toInt = 3 := (by decide); omega)
        refine lv_iload hx hb dX11_mend_66 (lv_at hl 0 rfl) ?_
        exact hret _ _ _ _ (3) f0X L0 Q0 dX11_mend_68 hP hS ⟨trivial, Or.inr (Or.inr (Or.inl ⟨rfl, by omega⟩))⟩
      · skip
        have c_124 : 3 ≠ x2.toInt := (by have z := bn_ne c; have k0 : (3 : Int32).toInt = 3 := (by decide); omega)
        refine lv_aload_n hx hb dX11_mend_44 rfl (lv_at hl 2 rfl) ?_
        refine sg_get (ci := 11) (v := .ref (h 32)) (C := RX11) (T := TX11) (N := 10) hx hb hts (fun w h => List.mem_cons_of_mem _ (gx_11 w h)) hown hK hP 0 (by decide) rfl rfl 7 (by decide) (hts _ (List.mem_cons_of_mem _ mw_53)) (fun _ h9 => h9) rfl dX11_mend_45 ?_
        refine lv_iload hx hb dX11_mend_48 (lv_at hl 1 rfl) ?_
        refine lv_iload hx hb dX11_mend_50 (lv_at hl 0 rfl) ?_
        refine lv_iload_n hx hb dX11_mend_52 rfl (lv_at hl 5 rfl) ?_
        refine sg_callv (va_runV (As := [.int 70, .int 3, .int x2]) (rest := []) ⟨hx, hb, hml, hown, hts⟩ (cf_X1_comes l D ca za h hh f0X L0 Q0 70 3 x2 rfl H.size) (cwV 3 hts (gw_V (fun _ h => List.mem_cons_of_mem _ h) mw_55 mw_56 mw_57 mw_58 mw_54) rfl rfl rfl (by decide +kernel) ⟨Nat.le_of_ble_eq_true rfl, Nat.le_of_ble_eq_true rfl⟩) (sg_preV (ci := 1) (C := RX1) (T := TX1) (N := 5) hA hK hP hS hZ 32 (by decide) rfl rfl) rfl rfl hl.1 rfl (lv_room (Nat.le_of_ble_eq_true rfl)) dX11_mend_53 ⟨Nat.le_refl _, Nat.le_refl _⟩) hA hS (fun f_125 L_126 Q_127 H locs hq hP hS => ?_)
        refine lv_aload_n hx hb dX11_mend_56 rfl (lv_at hl 2 rfl) ?_
        refine sg_get (ci := 11) (v := .ref (h 1)) (C := RX11) (T := TX11) (N := 10) hx hb hts (fun w h => List.mem_cons_of_mem _ (gx_11 w h)) hown hK hP 0 (by decide) rfl rfl 0 (by decide) (hts _ (List.mem_cons_of_mem _ mw_10)) (fun _ h9 => h9) rfl dX11_mend_57 ?_
        refine lv_iload hx hb dX11_mend_60 (lv_at hl 1 rfl) ?_
        refine lv_iload_n hx hb dX11_mend_62 rfl (lv_at hl 5 rfl) ?_
        refine sg_callv (va_runV (As := [.int 70, .int x2]) (rest := []) ⟨hx, hb, hml, hown, hts⟩ (cf_X0_becomes l D ca za h hh f_125 L_126 Q_127 70 x2 (by first | omega | decide) H.size) (cwV 2 hts (gw_V (fun _ h => List.mem_cons_of_mem _ h) mw_60 mw_61 mw_62 mw_15 mw_59) rfl rfl rfl (by decide +kernel) ⟨Nat.le_of_ble_eq_true rfl, Nat.le_of_ble_eq_true rfl⟩) (sg_preV (ci := 0) (C := RX0) (T := TX0) (N := 5) hA hK hP hS hZ 1 (by decide) rfl rfl) rfl rfl hl.1 rfl (lv_room (Nat.le_of_ble_eq_true rfl)) dX11_mend_63 ⟨Nat.le_refl _, Nat.le_refl _⟩) hA hS (fun f_128 L_129 Q_130 H locs hq hP hS => ?_)
        refine lv_iload hx hb dX11_mend_66 (lv_at hl 0 rfl) ?_
        exact hret _ _ _ _ (3) f_128 L_129 Q_130 dX11_mend_68 hP hS ⟨trivial, Or.inr (Or.inr (Or.inl ⟨rfl, by omega⟩))⟩
    · skip
      have q_131 := hq
      refine lv_if_ne (tgt := 26) hx hb dX11_mend_21 (by decide) (fun c => absurd c (by decide)) (fun c => ?_)
      refine lv_iconst (v := (-1)) hx hb dX11_mend_24 (by decide) ?_
      exact hret _ _ _ _ (-1) f0X L0 Q0 dX11_mend_25 hP hS ⟨trivial, Or.inr (Or.inr (Or.inr (⟨rfl, by omega⟩)))⟩

set_option maxHeartbeats 4000000 in
set_option maxRecDepth 100000 in
theorem cf_X11_of (l : Launch) (D : va_G) (ca : Nat → ClassId) (za h : Nat → Nat) (hh : sgH 52 h) (x0 : Int32) (x1 : Int32) (sz : Nat) : Met l yX11_of gwX11_of { frames := 1, cells := 0, slots := 0, locals := 22 } (sgP D vwCl (tyX ca) 52 h (eX ca h) zcX za f0X L0 Q0 sz [.ref (h 0), .int x0, .int x1]) (sgQi D vwCl 52 h (eX ca h) sz (fun r f1 L1 Q1 => True ∧ ((r = 30 ∧ (x1.toInt = 11 ∧ 0 ≤ x0.toInt ∧ x0.toInt ≤ 2)) ∨ (r = 1 ∧ (x1.toInt = 9 ∧ 0 ≤ x0.toInt ∧ x0.toInt ≤ 2)) ∨ (r = 0 ∧ (x1.toInt = 8 ∧ 0 ≤ x0.toInt ∧ x0.toInt ≤ 2)) ∨ (r = 3 ∧ (x1.toInt = 10 ∧ x0.toInt = 0)) ∨ (r = (-1) ∧ (¬ (x1.toInt = 11 ∧ 0 ≤ x0.toInt ∧ x0.toInt ≤ 2) ∧ ¬ (x1.toInt = 9 ∧ 0 ≤ x0.toInt ∧ x0.toInt ≤ 2) ∧ ¬ (x1.toInt = 8 ∧ 0 ≤ x0.toInt ∧ x0.toInt ≤ 2) ∧ ¬ (x1.toInt = 10 ∧ x0.toInt = 0)))))) 0 0 (sgA 52 h sz) := by
  refine sg_ofWi (cc := cX11_of) (maxL := 4) RX11 (by decide) rfl rfl (Nat.le_of_ble_eq_true rfl) ?_
  intro p e s m below meth cd Qz ls hx hb hml hown hts hK hZ hP hS hl hret
  have hA := sgY.self (n := 52) (h := h) (sz := s.heap.size)
  have hl : lv_has ls 4 [(0, .ref (h 0)), (1, .int x0), (2, .int x1)] := hl
  obtain ⟨H, hH⟩ : ∃ z : Heap, z = s.heap := ⟨_, rfl⟩
  obtain ⟨locs, hlo⟩ : ∃ z : List Loc, z = [] := ⟨_, rfl⟩
  have hP : va_P D vwCl (sgw 52 h (eX ca h) f0X L0 Q0) H := by rw [hH]; exact hP
  have hS : va_S (sgA 52 h s.heap.size) s.heap H locs := by rw [hH, hlo]; exact hS
  suffices hgo : W p l e ({ frames := 1, cells := 0, slots := 0, locals := 22 }) s m ([.ref (h 0), .int x0, .int x1] : List Value).toArray below meth cd H locs 0 0 Qz (F0 m 0 ls []) by rw [hH, hlo] at hgo; exact hgo
  refine lv_iload_n hx hb dX11_of_0 rfl (lv_at hl 2 rfl) ?_
  refine lv_bipush (v := 11) hx hb dX11_of_1 (by decide) ?_
  refine lv_icmp_ne (tgt := 27) hx hb dX11_of_3 (by decide) (fun c => ?_) (fun c => ?_)
  · skip
    have c_1 : x1.toInt ≠ 11 := (by have z := bn_ne c; have k1 : (11 : Int32).toInt = 11 := (by decide); omega)
    refine lv_aload_n hx hb dX11_of_27 rfl (lv_at hl 0 rfl) ?_
    refine sg_get (ci := 11) (v := .ref (h 1)) (C := RX11) (T := TX11) (N := 10) hx hb hts (fun w h => List.mem_cons_of_mem _ (gx_11 w h)) hown hK hP 0 (by decide) rfl rfl 0 (by decide) (hts _ (List.mem_cons_of_mem _ mw_10)) (fun _ h9 => h9) rfl dX11_of_28 ?_
    refine lv_iload_n hx hb dX11_of_31 rfl (lv_at hl 1 rfl) ?_
    refine lv_iload_n hx hb dX11_of_32 rfl (lv_at hl 2 rfl) ?_
    refine sg_calli (va_runV (As := [.int x0, .int x1]) (rest := []) ⟨hx, hb, hml, hown, hts⟩ (cf_X0_placeOf l D ca za h hh f0X L0 Q0 x0 x1 rfl H.size) (cwV 2 hts (gw_V (fun _ h => List.mem_cons_of_mem _ h) mw_49 mw_50 mw_51 mw_15 mw_48) rfl rfl rfl (by decide +kernel) ⟨Nat.le_of_ble_eq_true rfl, Nat.le_of_ble_eq_true rfl⟩) (sg_preV (ci := 0) (C := RX0) (T := TX0) (N := 5) hA hK hP hS hZ 1 (by decide) rfl rfl) rfl rfl hl.1 rfl (lv_room (Nat.le_of_ble_eq_true rfl)) dX11_of_33 ⟨Nat.le_refl _, Nat.le_refl _⟩) hA hS (fun r_6 f_3 L_4 Q_5 H locs hq hP hS => ?_)
    obtain ⟨⟨ef9, eL9, eQ9⟩, hq⟩ := hq
    rw [ef9, eL9, eQ9] at hP; clear ef9 eL9 eQ9
    rcases hq with ⟨rfl, hq⟩ | ⟨rfl, hq⟩ | ⟨rfl, hq⟩ | ⟨rfl, hq⟩ | ⟨rfl, hq⟩ | ⟨rfl, hq⟩ | ⟨rfl, hq⟩ | ⟨rfl, hq⟩
    · skip
      have q_7 := hq
      refine lv_istore_n (lv' := [(3, .int (-1)), (0, .ref (h 0)), (1, .int x0), (2, .int x1)]) hx hb dX11_of_36 rfl hl (by decide) rfl (fun ls hl => ?_)
      refine lv_iload_n hx hb dX11_of_37 rfl (lv_at hl 0 rfl) ?_
      refine lv_if_ge (tgt := 45) hx hb dX11_of_38 (by decide) (fun c => absurd c (by decide)) (fun c => ?_)
      refine lv_iconst (v := (-1)) hx hb dX11_of_41 (by decide) ?_
      refine lv_goto (tgt := 54) hx hb dX11_of_42 (by decide) ?_
      exact hret _ _ _ _ (-1) f0X L0 Q0 dX11_of_54 hP hS ⟨trivial, Or.inr (Or.inr (Or.inr (Or.inr (⟨rfl, by omega⟩))))⟩
    · skip
      have q_8 := hq
      have k_9 : (8 : Int32).toInt = 8 := (by decide)
      obtain rfl : x1 = 8 := Int32.toInt_inj.mp (by omega)
      have k_10 : (0 : Int32).toInt = 0 := (by decide)
      obtain rfl : x0 = 0 := Int32.toInt_inj.mp (by omega)
      refine lv_istore_n (lv' := [(3, .int 64), (0, .ref (h 0)), (1, .int 0), (2, .int 8)]) hx hb dX11_of_36 rfl hl (by decide) rfl (fun ls hl => ?_)
      refine lv_iload_n hx hb dX11_of_37 rfl (lv_at hl 0 rfl) ?_
      refine lv_if_ge (tgt := 45) hx hb dX11_of_38 (by decide) (fun c => ?_) (fun c => absurd c (by decide))
      refine lv_aload_n hx hb dX11_of_45 rfl (lv_at hl 1 rfl) ?_
      refine sg_get (ci := 11) (v := .ref (h 1)) (C := RX11) (T := TX11) (N := 10) hx hb hts (fun w h => List.mem_cons_of_mem _ (gx_11 w h)) hown hK hP 0 (by decide) rfl rfl 0 (by decide) (hts _ (List.mem_cons_of_mem _ mw_10)) (fun _ h9 => h9) rfl dX11_of_46 ?_
      refine sg_get (ci := 0) (v := .ref (h 2)) (C := RX0) (T := TX0) (N := 5) hx hb hts (fun w h => List.mem_cons_of_mem _ (gx_0 w h)) hown hK hP 1 (by decide) rfl rfl 0 (by decide) (hts _ (List.mem_cons_of_mem _ mw_52)) (fun _ h9 => h9) rfl dX11_of_49 ?_
      refine lv_iload_n hx hb dX11_of_52 rfl (lv_at hl 0 rfl) ?_
      refine sg_iald hx hb hK hP 2 (by decide) 0 rfl rfl (i := 64) (vp_in_iff.mpr (by decide)) dX11_of_53 ?_
      refine W.eq (g2 := F0 m 54 ls [.int 0]) (by rw [show f0X 2 (Int32.toNatClampNeg 64) = 0 from rfl]) ?_
      exact hret _ _ _ _ (0) f0X L0 Q0 dX11_of_54 hP hS ⟨trivial, Or.inr (Or.inr (Or.inl ⟨rfl, by omega⟩))⟩
    · skip
      have q_11 := hq
      have k_12 : (8 : Int32).toInt = 8 := (by decide)
      obtain rfl : x1 = 8 := Int32.toInt_inj.mp (by omega)
      have k_13 : (1 : Int32).toInt = 1 := (by decide)
      obtain rfl : x0 = 1 := Int32.toInt_inj.mp (by omega)
      refine lv_istore_n (lv' := [(3, .int 65), (0, .ref (h 0)), (1, .int 1), (2, .int 8)]) hx hb dX11_of_36 rfl hl (by decide) rfl (fun ls hl => ?_)
      refine lv_iload_n hx hb dX11_of_37 rfl (lv_at hl 0 rfl) ?_
      refine lv_if_ge (tgt := 45) hx hb dX11_of_38 (by decide) (fun c => ?_) (fun c => absurd c (by decide))
      refine lv_aload_n hx hb dX11_of_45 rfl (lv_at hl 1 rfl) ?_
      refine sg_get (ci := 11) (v := .ref (h 1)) (C := RX11) (T := TX11) (N := 10) hx hb hts (fun w h => List.mem_cons_of_mem _ (gx_11 w h)) hown hK hP 0 (by decide) rfl rfl 0 (by decide) (hts _ (List.mem_cons_of_mem _ mw_10)) (fun _ h9 => h9) rfl dX11_of_46 ?_
      refine sg_get (ci := 0) (v := .ref (h 2)) (C := RX0) (T := TX0) (N := 5) hx hb hts (fun w h => List.mem_cons_of_mem _ (gx_0 w h)) hown hK hP 1 (by decide) rfl rfl 0 (by decide) (hts _ (List.mem_cons_of_mem _ mw_52)) (fun _ h9 => h9) rfl dX11_of_49 ?_
      refine lv_iload_n hx hb dX11_of_52 rfl (lv_at hl 0 rfl) ?_
      refine sg_iald hx hb hK hP 2 (by decide) 0 rfl rfl (i := 65) (vp_in_iff.mpr (by decide)) dX11_of_53 ?_
      refine W.eq (g2 := F0 m 54 ls [.int 0]) (by rw [show f0X 2 (Int32.toNatClampNeg 65) = 0 from rfl]) ?_
      exact hret _ _ _ _ (0) f0X L0 Q0 dX11_of_54 hP hS ⟨trivial, Or.inr (Or.inr (Or.inl ⟨rfl, by omega⟩))⟩
    · skip
      have q_14 := hq
      have k_15 : (8 : Int32).toInt = 8 := (by decide)
      obtain rfl : x1 = 8 := Int32.toInt_inj.mp (by omega)
      have k_16 : (2 : Int32).toInt = 2 := (by decide)
      obtain rfl : x0 = 2 := Int32.toInt_inj.mp (by omega)
      refine lv_istore_n (lv' := [(3, .int 66), (0, .ref (h 0)), (1, .int 2), (2, .int 8)]) hx hb dX11_of_36 rfl hl (by decide) rfl (fun ls hl => ?_)
      refine lv_iload_n hx hb dX11_of_37 rfl (lv_at hl 0 rfl) ?_
      refine lv_if_ge (tgt := 45) hx hb dX11_of_38 (by decide) (fun c => ?_) (fun c => absurd c (by decide))
      refine lv_aload_n hx hb dX11_of_45 rfl (lv_at hl 1 rfl) ?_
      refine sg_get (ci := 11) (v := .ref (h 1)) (C := RX11) (T := TX11) (N := 10) hx hb hts (fun w h => List.mem_cons_of_mem _ (gx_11 w h)) hown hK hP 0 (by decide) rfl rfl 0 (by decide) (hts _ (List.mem_cons_of_mem _ mw_10)) (fun _ h9 => h9) rfl dX11_of_46 ?_
      refine sg_get (ci := 0) (v := .ref (h 2)) (C := RX0) (T := TX0) (N := 5) hx hb hts (fun w h => List.mem_cons_of_mem _ (gx_0 w h)) hown hK hP 1 (by decide) rfl rfl 0 (by decide) (hts _ (List.mem_cons_of_mem _ mw_52)) (fun _ h9 => h9) rfl dX11_of_49 ?_
      refine lv_iload_n hx hb dX11_of_52 rfl (lv_at hl 0 rfl) ?_
      refine sg_iald hx hb hK hP 2 (by decide) 0 rfl rfl (i := 66) (vp_in_iff.mpr (by decide)) dX11_of_53 ?_
      refine W.eq (g2 := F0 m 54 ls [.int 0]) (by rw [show f0X 2 (Int32.toNatClampNeg 66) = 0 from rfl]) ?_
      exact hret _ _ _ _ (0) f0X L0 Q0 dX11_of_54 hP hS ⟨trivial, Or.inr (Or.inr (Or.inl ⟨rfl, by omega⟩))⟩
    · skip
      have q_17 := hq
      have k_18 : (9 : Int32).toInt = 9 := (by decide)
      obtain rfl : x1 = 9 := Int32.toInt_inj.mp (by omega)
      have k_19 : (0 : Int32).toInt = 0 := (by decide)
      obtain rfl : x0 = 0 := Int32.toInt_inj.mp (by omega)
      refine lv_istore_n (lv' := [(3, .int 67), (0, .ref (h 0)), (1, .int 0), (2, .int 9)]) hx hb dX11_of_36 rfl hl (by decide) rfl (fun ls hl => ?_)
      refine lv_iload_n hx hb dX11_of_37 rfl (lv_at hl 0 rfl) ?_
      refine lv_if_ge (tgt := 45) hx hb dX11_of_38 (by decide) (fun c => ?_) (fun c => absurd c (by decide))
      refine lv_aload_n hx hb dX11_of_45 rfl (lv_at hl 1 rfl) ?_
      refine sg_get (ci := 11) (v := .ref (h 1)) (C := RX11) (T := TX11) (N := 10) hx hb hts (fun w h => List.mem_cons_of_mem _ (gx_11 w h)) hown hK hP 0 (by decide) rfl rfl 0 (by decide) (hts _ (List.mem_cons_of_mem _ mw_10)) (fun _ h9 => h9) rfl dX11_of_46 ?_
      refine sg_get (ci := 0) (v := .ref (h 2)) (C := RX0) (T := TX0) (N := 5) hx hb hts (fun w h => List.mem_cons_of_mem _ (gx_0 w h)) hown hK hP 1 (by decide) rfl rfl 0 (by decide) (hts _ (List.mem_cons_of_mem _ mw_52)) (fun _ h9 => h9) rfl dX11_of_49 ?_
      refine lv_iload_n hx hb dX11_of_52 rfl (lv_at hl 0 rfl) ?_
      refine sg_iald hx hb hK hP 2 (by decide) 0 rfl rfl (i := 67) (vp_in_iff.mpr (by decide)) dX11_of_53 ?_
      refine W.eq (g2 := F0 m 54 ls [.int 1]) (by rw [show f0X 2 (Int32.toNatClampNeg 67) = 1 from rfl]) ?_
      exact hret _ _ _ _ (1) f0X L0 Q0 dX11_of_54 hP hS ⟨trivial, Or.inr (Or.inl ⟨rfl, by omega⟩)⟩
    · skip
      have q_20 := hq
      have k_21 : (9 : Int32).toInt = 9 := (by decide)
      obtain rfl : x1 = 9 := Int32.toInt_inj.mp (by omega)
      have k_22 : (1 : Int32).toInt = 1 := (by decide)
      obtain rfl : x0 = 1 := Int32.toInt_inj.mp (by omega)
      refine lv_istore_n (lv' := [(3, .int 68), (0, .ref (h 0)), (1, .int 1), (2, .int 9)]) hx hb dX11_of_36 rfl hl (by decide) rfl (fun ls hl => ?_)
      refine lv_iload_n hx hb dX11_of_37 rfl (lv_at hl 0 rfl) ?_
      refine lv_if_ge (tgt := 45) hx hb dX11_of_38 (by decide) (fun c => ?_) (fun c => absurd c (by decide))
      refine lv_aload_n hx hb dX11_of_45 rfl (lv_at hl 1 rfl) ?_
      refine sg_get (ci := 11) (v := .ref (h 1)) (C := RX11) (T := TX11) (N := 10) hx hb hts (fun w h => List.mem_cons_of_mem _ (gx_11 w h)) hown hK hP 0 (by decide) rfl rfl 0 (by decide) (hts _ (List.mem_cons_of_mem _ mw_10)) (fun _ h9 => h9) rfl dX11_of_46 ?_
      refine sg_get (ci := 0) (v := .ref (h 2)) (C := RX0) (T := TX0) (N := 5) hx hb hts (fun w h => List.mem_cons_of_mem _ (gx_0 w h)) hown hK hP 1 (by decide) rfl rfl 0 (by decide) (hts _ (List.mem_cons_of_mem _ mw_52)) (fun _ h9 => h9) rfl dX11_of_49 ?_
      refine lv_iload_n hx hb dX11_of_52 rfl (lv_at hl 0 rfl) ?_
      refine sg_iald hx hb hK hP 2 (by decide) 0 rfl rfl (i := 68) (vp_in_iff.mpr (by decide)) dX11_of_53 ?_
      refine W.eq (g2 := F0 m 54 ls [.int 1]) (by rw [show f0X 2 (Int32.toNatClampNeg 68) = 1 from rfl]) ?_
      exact hret _ _ _ _ (1) f0X L0 Q0 dX11_of_54 hP hS ⟨trivial, Or.inr (Or.inl ⟨rfl, by omega⟩)⟩
    · skip
      have q_23 := hq
      have k_24 : (9 : Int32).toInt = 9 := (by decide)
      obtain rfl : x1 = 9 := Int32.toInt_inj.mp (by omega)
      have k_25 : (2 : Int32).toInt = 2 := (by decide)
      obtain rfl : x0 = 2 := Int32.toInt_inj.mp (by omega)
      refine lv_istore_n (lv' := [(3, .int 69), (0, .ref (h 0)), (1, .int 2), (2, .int 9)]) hx hb dX11_of_36 rfl hl (by decide) rfl (fun ls hl => ?_)
      refine lv_iload_n hx hb dX11_of_37 rfl (lv_at hl 0 rfl) ?_
      refine lv_if_ge (tgt := 45) hx hb dX11_of_38 (by decide) (fun c => ?_) (fun c => absurd c (by decide))
      refine lv_aload_n hx hb dX11_of_45 rfl (lv_at hl 1 rfl) ?_
      refine sg_get (ci := 11) (v := .ref (h 1)) (C := RX11) (T := TX11) (N := 10) hx hb hts (fun w h => List.mem_cons_of_mem _ (gx_11 w h)) hown hK hP 0 (by decide) rfl rfl 0 (by decide) (hts _ (List.mem_cons_of_mem _ mw_10)) (fun _ h9 => h9) rfl dX11_of_46 ?_
      refine sg_get (ci := 0) (v := .ref (h 2)) (C := RX0) (T := TX0) (N := 5) hx hb hts (fun w h => List.mem_cons_of_mem _ (gx_0 w h)) hown hK hP 1 (by decide) rfl rfl 0 (by decide) (hts _ (List.mem_cons_of_mem _ mw_52)) (fun _ h9 => h9) rfl dX11_of_49 ?_
      refine lv_iload_n hx hb dX11_of_52 rfl (lv_at hl 0 rfl) ?_
      refine sg_iald hx hb hK hP 2 (by decide) 0 rfl rfl (i := 69) (vp_in_iff.mpr (by decide)) dX11_of_53 ?_
      refine W.eq (g2 := F0 m 54 ls [.int 1]) (by rw [show f0X 2 (Int32.toNatClampNeg 69) = 1 from rfl]) ?_
      exact hret _ _ _ _ (1) f0X L0 Q0 dX11_of_54 hP hS ⟨trivial, Or.inr (Or.inl ⟨rfl, by omega⟩)⟩
    · skip
      have q_26 := hq
      have k_27 : (10 : Int32).toInt = 10 := (by decide)
      obtain rfl : x1 = 10 := Int32.toInt_inj.mp (by omega)
      have k_28 : (0 : Int32).toInt = 0 := (by decide)
      obtain rfl : x0 = 0 := Int32.toInt_inj.mp (by omega)
      refine lv_istore_n (lv' := [(3, .int 70), (0, .ref (h 0)), (1, .int 0), (2, .int 10)]) hx hb dX11_of_36 rfl hl (by decide) rfl (fun ls hl => ?_)
      refine lv_iload_n hx hb dX11_of_37 rfl (lv_at hl 0 rfl) ?_
      refine lv_if_ge (tgt := 45) hx hb dX11_of_38 (by decide) (fun c => ?_) (fun c => absurd c (by decide))
      refine lv_aload_n hx hb dX11_of_45 rfl (lv_at hl 1 rfl) ?_
      refine sg_get (ci := 11) (v := .ref (h 1)) (C := RX11) (T := TX11) (N := 10) hx hb hts (fun w h => List.mem_cons_of_mem _ (gx_11 w h)) hown hK hP 0 (by decide) rfl rfl 0 (by decide) (hts _ (List.mem_cons_of_mem _ mw_10)) (fun _ h9 => h9) rfl dX11_of_46 ?_
      refine sg_get (ci := 0) (v := .ref (h 2)) (C := RX0) (T := TX0) (N := 5) hx hb hts (fun w h => List.mem_cons_of_mem _ (gx_0 w h)) hown hK hP 1 (by decide) rfl rfl 0 (by decide) (hts _ (List.mem_cons_of_mem _ mw_52)) (fun _ h9 => h9) rfl dX11_of_49 ?_
      refine lv_iload_n hx hb dX11_of_52 rfl (lv_at hl 0 rfl) ?_
      refine sg_iald hx hb hK hP 2 (by decide) 0 rfl rfl (i := 70) (vp_in_iff.mpr (by decide)) dX11_of_53 ?_
      refine W.eq (g2 := F0 m 54 ls [.int 3]) (by rw [show f0X 2 (Int32.toNatClampNeg 70) = 3 from rfl]) ?_
      exact hret _ _ _ _ (3) f0X L0 Q0 dX11_of_54 hP hS ⟨trivial, Or.inr (Or.inr (Or.inr (Or.inl ⟨rfl, by omega⟩)))⟩
  · skip
    have c_2 : x1.toInt = 11 := (by have z := Int32.toInt_inj.mpr c; have k1 : (11 : Int32).toInt = 11 := (by decide); omega)
    refine lv_iload_n hx hb dX11_of_6 rfl (lv_at hl 1 rfl) ?_
    refine sg_calli (va_runS (As := [.int x0]) (rest := []) ⟨hx, hb, hml, hown, hts⟩ (cf_X11_isPart l D ca za h hh f0X L0 Q0 x0 H.size) (va_cwS 1 hts (gw_S (fun _ h => List.mem_cons_of_mem _ h) mw_20 mw_21 mw_9 mw_19) rfl rfl rfl (by decide +kernel) ⟨Nat.le_of_ble_eq_true rfl, Nat.le_of_ble_eq_true rfl⟩) (sg_preS hA hK hP hS hZ) rfl rfl hl.1 rfl (lv_room (Nat.le_of_ble_eq_true rfl)) dX11_of_7 ⟨Nat.le_refl _, Nat.le_refl _⟩) hA hS (fun r_32 f_29 L_30 Q_31 H locs hq hP hS => ?_)
    obtain ⟨⟨ef9, eL9, eQ9⟩, hq⟩ := hq
    rw [ef9, eL9, eQ9] at hP; clear ef9 eL9 eQ9
    rcases hq with ⟨rfl, hq⟩ | ⟨rfl, hq⟩
    · skip
      have q_33 := hq
      refine lv_if_eq (tgt := 25) hx hb dX11_of_10 (by decide) (fun c => absurd c (by decide)) (fun c => ?_)
      refine lv_aload_n hx hb dX11_of_13 rfl (lv_at hl 0 rfl) ?_
      refine sg_get (ci := 11) (v := .ref (h 1)) (C := RX11) (T := TX11) (N := 10) hx hb hts (fun w h => List.mem_cons_of_mem _ (gx_11 w h)) hown hK hP 0 (by decide) rfl rfl 0 (by decide) (hts _ (List.mem_cons_of_mem _ mw_10)) (fun _ h9 => h9) rfl dX11_of_14 ?_
      refine sg_get (ci := 0) (v := .ref (h 3)) (C := RX0) (T := TX0) (N := 5) hx hb hts (fun w h => List.mem_cons_of_mem _ (gx_0 w h)) hown hK hP 1 (by decide) rfl rfl 1 (by decide) (hts _ (List.mem_cons_of_mem _ mw_63)) (fun _ h9 => h9) rfl dX11_of_17 ?_
      refine lv_iload_n hx hb dX11_of_20 rfl (lv_at hl 1 rfl) ?_
      refine sg_iald hx hb hK hP 3 (by decide) 0 rfl rfl (i := x0) (vp_in_iff.mpr ⟨by omega, by omega⟩) dX11_of_21 ?_
      refine lv_topi (fun v_34 ev_34 => ?_)
      have q_35 : v_34.toInt = 30 := by rw [ev_34, f0X_st (by omega) (by omega)]; decide
      refine lv_goto (tgt := 26) hx hb dX11_of_22 (by decide) ?_
      exact hret _ _ _ _ (v_34) f0X L0 Q0 dX11_of_26 hP hS ⟨trivial, (by first | exact Or.inl ⟨Int32.toInt_inj.mp (by have k9 : (30 : Int32).toInt = 30 := (by decide); omega), by omega⟩ | exact Or.inr (Or.inl ⟨Int32.toInt_inj.mp (by have k9 : (1 : Int32).toInt = 1 := (by decide); omega), by omega⟩) | exact Or.inr (Or.inr (Or.inl ⟨Int32.toInt_inj.mp (by have k9 : (0 : Int32).toInt = 0 := (by decide); omega), by omega⟩)) | exact Or.inr (Or.inr (Or.inr (Or.inl ⟨Int32.toInt_inj.mp (by have k9 : (3 : Int32).toInt = 3 := (by decide); omega), by omega⟩))) | exact Or.inr (Or.inr (Or.inr (Or.inr (⟨Int32.toInt_inj.mp (by have k9 : ((-1) : Int32).toInt = (-1) := (by decide); omega), by omega⟩)))))⟩
    · skip
      have q_36 := hq
      refine lv_if_eq (tgt := 25) hx hb dX11_of_10 (by decide) (fun c => ?_) (fun c => absurd c (by decide))
      refine lv_iconst (v := (-1)) hx hb dX11_of_25 (by decide) ?_
      exact hret _ _ _ _ (-1) f0X L0 Q0 dX11_of_26 hP hS ⟨trivial, Or.inr (Or.inr (Or.inr (Or.inr (⟨rfl, by omega⟩))))⟩

set_option maxHeartbeats 4000000 in
set_option maxRecDepth 100000 in
theorem cf_X5_takes (l : Launch) (D : va_G) (ca : Nat → ClassId) (za h : Nat → Nat) (hh : sgH 52 h) (f : sg_F) (L : sg_L) (Q : sg_Q) (x0 : Int32) (hs : f 4 1 = 0) (sz : Nat) : Met l yX5_takes gwX5_takes { frames := 0, cells := 0, slots := 0, locals := 0 } (sgP D vwCl (tyX ca) 52 h (eX ca h) zcX za f L Q sz [.ref (h 4), .int x0]) (sgQi D vwCl 52 h (eX ca h) sz (fun r f1 L1 Q1 => True ∧ ((r = 1 ∧ (True))))) 0 0 (sgA 52 h sz) := by
  refine sg_ofWi (cc := cX5_takes) (maxL := 2) RX5 (by decide) rfl rfl (Nat.le_of_ble_eq_true rfl) ?_
  intro p e s m below meth cd Qz ls hx hb hml hown hts hK hZ hP hS hl hret
  have hA := sgY.self (n := 52) (h := h) (sz := s.heap.size)
  have hl : lv_has ls 2 [(0, .ref (h 4)), (1, .int x0)] := hl
  obtain ⟨H, hH⟩ : ∃ z : Heap, z = s.heap := ⟨_, rfl⟩
  obtain ⟨locs, hlo⟩ : ∃ z : List Loc, z = [] := ⟨_, rfl⟩
  have hP : va_P D vwCl (sgw 52 h (eX ca h) f L Q) H := by rw [hH]; exact hP
  have hS : va_S (sgA 52 h s.heap.size) s.heap H locs := by rw [hH, hlo]; exact hS
  suffices hgo : W p l e ({ frames := 0, cells := 0, slots := 0, locals := 0 }) s m ([.ref (h 4), .int x0] : List Value).toArray below meth cd H locs 0 0 Qz (F0 m 0 ls []) by rw [hH, hlo] at hgo; exact hgo
  refine lv_aload_n hx hb dX5_takes_0 rfl (lv_at hl 0 rfl) ?_
  refine sg_get (ci := 5) (v := .int 0) (C := RX5) (T := TX5) (N := 10) hx hb hts (fun w h => List.mem_cons_of_mem _ (gx_5 w h)) hown hK hP 4 (by decide) rfl rfl 1 (by decide) (hts _ (List.mem_cons_of_mem _ mw_64)) (fun _ h9 => h9) (congrArg (fun z => some (Value.int z)) (show f 4 1 = 0 from hs)) dX5_takes_1 ?_
  refine lv_bipush (v := 120) hx hb dX5_takes_4 (by decide) ?_
  refine lv_icmp_lt (tgt := 12) hx hb dX5_takes_6 (by decide) (fun c => ?_) (fun c => absurd c (by decide))
  refine lv_aload_n hx hb dX5_takes_12 rfl (lv_at hl 0 rfl) ?_
  refine sg_get (ci := 5) (v := .ref (h 5)) (C := RX5) (T := TX5) (N := 10) hx hb hts (fun w h => List.mem_cons_of_mem _ (gx_5 w h)) hown hK hP 4 (by decide) rfl rfl 0 (by decide) (hts _ (List.mem_cons_of_mem _ mw_65)) (fun _ h9 => h9) rfl dX5_takes_13 ?_
  refine lv_aload_n hx hb dX5_takes_16 rfl (lv_at hl 0 rfl) ?_
  refine sg_get (ci := 5) (v := .int 0) (C := RX5) (T := TX5) (N := 10) hx hb hts (fun w h => List.mem_cons_of_mem _ (gx_5 w h)) hown hK hP 4 (by decide) rfl rfl 1 (by decide) (hts _ (List.mem_cons_of_mem _ mw_64)) (fun _ h9 => h9) (congrArg (fun z => some (Value.int z)) (show f 4 1 = 0 from hs)) dX5_takes_17 ?_
  refine lv_iload_n hx hb dX5_takes_20 rfl (lv_at hl 1 rfl) ?_
  refine sg_iast hx hb hh hA hK hP hS 5 (by decide) 0 (fun _ => rfl) rfl (i := 0) (x := x0) (vp_in_iff.mpr (by decide)) dX5_takes_21 (fun f_1 H locs ef_1 hP hS => ?_)
  refine lv_aload_n hx hb dX5_takes_22 rfl (lv_at hl 0 rfl) ?_
  refine lv_dup hx hb dX5_takes_23 rfl ?_
  refine sg_get (ci := 5) (v := .int 0) (C := RX5) (T := TX5) (N := 10) hx hb hts (fun w h => List.mem_cons_of_mem _ (gx_5 w h)) hown hK hP 4 (by decide) rfl rfl 1 (by decide) (hts _ (List.mem_cons_of_mem _ mw_64)) (fun _ h9 => h9) (congrArg (fun z => some (Value.int z)) (show f_1 4 1 = 0 from (by rw [ef_1]; exact (show _ = _ from hs)))) dX5_takes_24 ?_
  refine lv_iconst (v := 1) hx hb dX5_takes_27 (by decide) ?_
  refine lv_iadd hx hb dX5_takes_28 ?_
  refine W.eq (g2 := F0 m 29 ls [.int 1, .ref (h 4)]) (by rw [show (0 + 1 : Int32) = 1 from by decide]) ?_
  refine sg_put (ci := 5) (x := 1) (ty := .int) (C := RX5) (T := TX5) (N := 10) hx hb hts (fun w h => List.mem_cons_of_mem _ (gx_5 w h)) tyX5 tyX5_ok nmX5 hown hh hA hK hP hS 4 (by decide) rfl rfl 1 (by decide) (hts _ (List.mem_cons_of_mem _ mw_64)) (fun _ h9 => h9) rfl rfl (by decide +kernel) rfl rfl (Nat.le_of_ble_eq_true rfl) dX5_takes_29 (fun f_2 H locs ef_2 hP hS => ?_)
  refine lv_aload_n hx hb dX5_takes_32 rfl (lv_at hl 0 rfl) ?_
  refine sg_get (ci := 5) (v := .int 1) (C := RX5) (T := TX5) (N := 10) hx hb hts (fun w h => List.mem_cons_of_mem _ (gx_5 w h)) hown hK hP 4 (by decide) rfl rfl 1 (by decide) (hts _ (List.mem_cons_of_mem _ mw_64)) (fun _ h9 => h9) (congrArg (fun z => some (Value.int z)) (show f_2 4 1 = 1 from (by rw [ef_2]; rfl))) dX5_takes_33 ?_
  exact hret _ _ _ _ (1) f_2 L Q dX5_takes_36 hP hS ⟨trivial, ⟨rfl, trivial⟩⟩

set_option maxHeartbeats 4000000 in
set_option maxRecDepth 100000 in
theorem cf_X11_feed (l : Launch) (D : va_G) (ca : Nat → ClassId) (za h : Nat → Nat) (hh : sgH 52 h) (x0 : Int32) (sz : Nat) : Met l yX11_feed gwX11_feed { frames := 1, cells := 0, slots := 0, locals := 21 } (sgP D vwCl (tyX ca) 52 h (eX ca h) zcX za f0X L0 Q0 sz [.ref (h 0), .int x0]) (sgQi D vwCl 52 h (eX ca h) sz (fun r f1 L1 Q1 => True ∧ ((r = 1 ∧ (0 ≤ x0.toInt ∧ x0.toInt ≤ 255)) ∨ (r = (-1) ∧ (¬ (0 ≤ x0.toInt ∧ x0.toInt ≤ 255)))))) 0 0 (sgA 52 h sz) := by
  refine sg_ofWi (cc := cX11_feed) (maxL := 2) RX11 (by decide) rfl rfl (Nat.le_of_ble_eq_true rfl) ?_
  intro p e s m below meth cd Qz ls hx hb hml hown hts hK hZ hP hS hl hret
  have hA := sgY.self (n := 52) (h := h) (sz := s.heap.size)
  have hl : lv_has ls 2 [(0, .ref (h 0)), (1, .int x0)] := hl
  obtain ⟨H, hH⟩ : ∃ z : Heap, z = s.heap := ⟨_, rfl⟩
  obtain ⟨locs, hlo⟩ : ∃ z : List Loc, z = [] := ⟨_, rfl⟩
  have hP : va_P D vwCl (sgw 52 h (eX ca h) f0X L0 Q0) H := by rw [hH]; exact hP
  have hS : va_S (sgA 52 h s.heap.size) s.heap H locs := by rw [hH, hlo]; exact hS
  suffices hgo : W p l e ({ frames := 1, cells := 0, slots := 0, locals := 21 }) s m ([.ref (h 0), .int x0] : List Value).toArray below meth cd H locs 0 0 Qz (F0 m 0 ls []) by rw [hH, hlo] at hgo; exact hgo
  refine lv_iload_n hx hb dX11_feed_0 rfl (lv_at hl 1 rfl) ?_
  refine lv_if_lt (tgt := 11) hx hb dX11_feed_1 (by decide) (fun c => ?_) (fun c => ?_)
  · skip
    have c_1 : x0.toInt < 0 := (by have z := bn_lt c; have k1 : (0 : Int32).toInt = 0 := (by decide); omega)
    refine lv_iconst (v := (-1)) hx hb dX11_feed_11 (by decide) ?_
    refine lv_goto (tgt := 26) hx hb dX11_feed_12 (by decide) ?_
    exact hret _ _ _ _ (-1) f0X L0 Q0 dX11_feed_26 hP hS ⟨trivial, Or.inr (⟨rfl, by omega⟩)⟩
  · skip
    have c_2 : 0 ≤ x0.toInt := (by have z := bn_nlt c; have k1 : (0 : Int32).toInt = 0 := (by decide); omega)
    refine lv_iload_n hx hb dX11_feed_4 rfl (lv_at hl 1 rfl) ?_
    refine lv_sipush (v := 255) hx hb dX11_feed_5 (by decide) ?_
    refine lv_icmp_le (tgt := 15) hx hb dX11_feed_8 (by decide) (fun c => ?_) (fun c => ?_)
    · skip
      have c_3 : x0.toInt ≤ 255 := (by have z := bn_le c; have k1 : (255 : Int32).toInt = 255 := (by decide); omega)
      refine lv_aload_n hx hb dX11_feed_15 rfl (lv_at hl 0 rfl) ?_
      refine sg_get (ci := 11) (v := .ref (h 1)) (C := RX11) (T := TX11) (N := 10) hx hb hts (fun w h => List.mem_cons_of_mem _ (gx_11 w h)) hown hK hP 0 (by decide) rfl rfl 0 (by decide) (hts _ (List.mem_cons_of_mem _ mw_10)) (fun _ h9 => h9) rfl dX11_feed_16 ?_
      refine sg_get (ci := 0) (v := .ref (h 4)) (C := RX0) (T := TX0) (N := 5) hx hb hts (fun w h => List.mem_cons_of_mem _ (gx_0 w h)) hown hK hP 1 (by decide) rfl rfl 2 (by decide) (hts _ (List.mem_cons_of_mem _ mw_66)) (fun _ h9 => h9) rfl dX11_feed_19 ?_
      refine lv_iload_n hx hb dX11_feed_22 rfl (lv_at hl 1 rfl) ?_
      refine sg_calli (va_runV (As := [.int x0]) (rest := []) ⟨hx, hb, hml, hown, hts⟩ (cf_X5_takes l D ca za h hh f0X L0 Q0 x0 rfl H.size) (cwV 1 hts (gw_V (fun _ h => List.mem_cons_of_mem _ h) mw_68 mw_69 mw_70 mw_71 mw_67) rfl rfl rfl (by decide +kernel) ⟨Nat.le_of_ble_eq_true rfl, Nat.le_of_ble_eq_true rfl⟩) (sg_preV (ci := 5) (C := RX5) (T := TX5) (N := 10) hA hK hP hS hZ 4 (by decide) rfl rfl) rfl rfl hl.1 rfl (lv_room (Nat.le_of_ble_eq_true rfl)) dX11_feed_23 ⟨Nat.le_refl _, Nat.le_refl _⟩) hA hS (fun r_8 f_5 L_6 Q_7 H locs hq hP hS => ?_)
      obtain ⟨-, hq⟩ := hq
      obtain ⟨rfl, hq⟩ := hq
      have q_9 := hq
      exact hret _ _ _ _ (1) f_5 L_6 Q_7 dX11_feed_26 hP hS ⟨trivial, Or.inl ⟨rfl, by omega⟩⟩
    · skip
      have c_4 : 255 < x0.toInt := (by have z := bn_nle c; have k1 : (255 : Int32).toInt = 255 := (by decide); omega)
      refine lv_iconst (v := (-1)) hx hb dX11_feed_11 (by decide) ?_
      refine lv_goto (tgt := 26) hx hb dX11_feed_12 (by decide) ?_
      exact hret _ _ _ _ (-1) f0X L0 Q0 dX11_feed_26 hP hS ⟨trivial, Or.inr (⟨rfl, by omega⟩)⟩

set_option maxHeartbeats 4000000 in
set_option maxRecDepth 100000 in
theorem cf_X5_next_a (l : Launch) (D : va_G) (ca : Nat → ClassId) (za h : Nat → Nat) (hh : sgH 52 h) (f : sg_F) (L : sg_L) (Q : sg_Q) (h1 : f 4 1 = 0) (h6 : f 4 6 = 0) (h8 : f 4 8 = 0) (h7 : f 4 7 = (-1)) (sz : Nat) : Met l yX5_next gwX5_next { frames := 0, cells := 0, slots := 0, locals := 0 } (sgP D vwCl (tyX ca) 52 h (eX ca h) zcX za f L Q sz [.ref (h 4)]) (sgQi D vwCl 52 h (eX ca h) sz (fun r f1 L1 Q1 => (f1 = f ∧ L1 = L ∧ Q1 = Q) ∧ ((r = (-1) ∧ (True))))) 0 0 (sgA 52 h sz) := by
  refine sg_ofWi (cc := cX5_next) (maxL := 1) RX5 (by decide) rfl rfl (Nat.le_of_ble_eq_true rfl) ?_
  intro p e s m below meth cd Qz ls hx hb hml hown hts hK hZ hP hS hl hret
  have hA := sgY.self (n := 52) (h := h) (sz := s.heap.size)
  have hl : lv_has ls 1 [(0, .ref (h 4))] := hl
  obtain ⟨H, hH⟩ : ∃ z : Heap, z = s.heap := ⟨_, rfl⟩
  obtain ⟨locs, hlo⟩ : ∃ z : List Loc, z = [] := ⟨_, rfl⟩
  have hP : va_P D vwCl (sgw 52 h (eX ca h) f L Q) H := by rw [hH]; exact hP
  have hS : va_S (sgA 52 h s.heap.size) s.heap H locs := by rw [hH, hlo]; exact hS
  suffices hgo : W p l e ({ frames := 0, cells := 0, slots := 0, locals := 0 }) s m ([.ref (h 4)] : List Value).toArray below meth cd H locs 0 0 Qz (F0 m 0 ls []) by rw [hH, hlo] at hgo; exact hgo
  refine lv_aload_n hx hb dX5_next_0 rfl (lv_at hl 0 rfl) ?_
  refine sg_get (ci := 5) (v := .int (-1)) (C := RX5) (T := TX5) (N := 10) hx hb hts (fun w h => List.mem_cons_of_mem _ (gx_5 w h)) hown hK hP 4 (by decide) rfl rfl 7 (by decide) (hts _ (List.mem_cons_of_mem _ mw_72)) (fun _ h9 => h9) (congrArg (fun z => some (Value.int z)) (show f 4 7 = (-1) from h7)) dX5_next_1 ?_
  refine lv_if_ge (tgt := 30) hx hb dX5_next_4 (by decide) (fun c => absurd c (by decide)) (fun c => ?_)
  refine lv_aload_n hx hb dX5_next_7 rfl (lv_at hl 0 rfl) ?_
  refine sg_get (ci := 5) (v := .int 0) (C := RX5) (T := TX5) (N := 10) hx hb hts (fun w h => List.mem_cons_of_mem _ (gx_5 w h)) hown hK hP 4 (by decide) rfl rfl 6 (by decide) (hts _ (List.mem_cons_of_mem _ mw_73)) (fun _ h9 => h9) (congrArg (fun z => some (Value.int z)) (show f 4 6 = 0 from h6)) dX5_next_8 ?_
  refine lv_aload_n hx hb dX5_next_11 rfl (lv_at hl 0 rfl) ?_
  refine sg_get (ci := 5) (v := .int 0) (C := RX5) (T := TX5) (N := 10) hx hb hts (fun w h => List.mem_cons_of_mem _ (gx_5 w h)) hown hK hP 4 (by decide) rfl rfl 1 (by decide) (hts _ (List.mem_cons_of_mem _ mw_64)) (fun _ h9 => h9) (congrArg (fun z => some (Value.int z)) (show f 4 1 = 0 from h1)) dX5_next_12 ?_
  refine lv_icmp_ge (tgt := 30) hx hb dX5_next_15 (by decide) (fun c => ?_) (fun c => absurd c (by decide))
  refine lv_iconst (v := (-1)) hx hb dX5_next_30 (by decide) ?_
  exact hret _ _ _ _ (-1) f L Q dX5_next_31 hP hS ⟨⟨rfl, rfl, rfl⟩, ⟨rfl, trivial⟩⟩

set_option maxHeartbeats 4000000 in
set_option maxRecDepth 100000 in
theorem cf_X5_next_b (l : Launch) (D : va_G) (ca : Nat → ClassId) (za h : Nat → Nat) (hh : sgH 52 h) (f : sg_F) (L : sg_L) (Q : sg_Q) (h1 : f 4 1 = 0) (h6 : f 4 6 = 0) (h8 : f 4 8 = 0) (h7 : f 4 7 = 0) (sz : Nat) : Met l yX5_next gwX5_next { frames := 0, cells := 0, slots := 0, locals := 0 } (sgP D vwCl (tyX ca) 52 h (eX ca h) zcX za f L Q sz [.ref (h 4)]) (sgQi D vwCl 52 h (eX ca h) sz (fun r f1 L1 Q1 => (f1 = f ∧ L1 = L ∧ Q1 = Q) ∧ ((r = (-1) ∧ (True))))) 0 0 (sgA 52 h sz) := by
  refine sg_ofWi (cc := cX5_next) (maxL := 1) RX5 (by decide) rfl rfl (Nat.le_of_ble_eq_true rfl) ?_
  intro p e s m below meth cd Qz ls hx hb hml hown hts hK hZ hP hS hl hret
  have hA := sgY.self (n := 52) (h := h) (sz := s.heap.size)
  have hl : lv_has ls 1 [(0, .ref (h 4))] := hl
  obtain ⟨H, hH⟩ : ∃ z : Heap, z = s.heap := ⟨_, rfl⟩
  obtain ⟨locs, hlo⟩ : ∃ z : List Loc, z = [] := ⟨_, rfl⟩
  have hP : va_P D vwCl (sgw 52 h (eX ca h) f L Q) H := by rw [hH]; exact hP
  have hS : va_S (sgA 52 h s.heap.size) s.heap H locs := by rw [hH, hlo]; exact hS
  suffices hgo : W p l e ({ frames := 0, cells := 0, slots := 0, locals := 0 }) s m ([.ref (h 4)] : List Value).toArray below meth cd H locs 0 0 Qz (F0 m 0 ls []) by rw [hH, hlo] at hgo; exact hgo
  refine lv_aload_n hx hb dX5_next_0 rfl (lv_at hl 0 rfl) ?_
  refine sg_get (ci := 5) (v := .int 0) (C := RX5) (T := TX5) (N := 10) hx hb hts (fun w h => List.mem_cons_of_mem _ (gx_5 w h)) hown hK hP 4 (by decide) rfl rfl 7 (by decide) (hts _ (List.mem_cons_of_mem _ mw_72)) (fun _ h9 => h9) (congrArg (fun z => some (Value.int z)) (show f 4 7 = 0 from h7)) dX5_next_1 ?_
  refine lv_if_ge (tgt := 30) hx hb dX5_next_4 (by decide) (fun c => ?_) (fun c => absurd c (by decide))
  refine lv_iconst (v := (-1)) hx hb dX5_next_30 (by decide) ?_
  exact hret _ _ _ _ (-1) f L Q dX5_next_31 hP hS ⟨⟨rfl, rfl, rfl⟩, ⟨rfl, trivial⟩⟩

set_option maxHeartbeats 4000000 in
set_option maxRecDepth 100000 in
theorem cf_X5_isDigit (l : Launch) (D : va_G) (ca : Nat → ClassId) (za h : Nat → Nat) (hh : sgH 52 h) (f : sg_F) (L : sg_L) (Q : sg_Q) (sz : Nat) : Met l yX5_isDigit gwX5_isDigit { frames := 0, cells := 0, slots := 0, locals := 0 } (sgP D vwCl (tyX ca) 52 h (eX ca h) zcX za f L Q sz [.int (-1)]) (sgQi D vwCl 52 h (eX ca h) sz (fun r f1 L1 Q1 => (f1 = f ∧ L1 = L ∧ Q1 = Q) ∧ ((r = 0 ∧ (True))))) 0 0 (sgA 52 h sz) := by
  refine sg_ofWz (cc := cX5_isDigit) (maxL := 1) RX5 (by decide) rfl rfl (Nat.le_of_ble_eq_true rfl) ?_
  intro p e s m below meth cd Qz ls hx hb hml hown hts hK hZ hP hS hl hret
  have hA := sgY.self (n := 52) (h := h) (sz := s.heap.size)
  have hl : lv_has ls 1 [(0, .int (-1))] := hl
  obtain ⟨H, hH⟩ : ∃ z : Heap, z = s.heap := ⟨_, rfl⟩
  obtain ⟨locs, hlo⟩ : ∃ z : List Loc, z = [] := ⟨_, rfl⟩
  have hP : va_P D vwCl (sgw 52 h (eX ca h) f L Q) H := by rw [hH]; exact hP
  have hS : va_S (sgA 52 h s.heap.size) s.heap H locs := by rw [hH, hlo]; exact hS
  suffices hgo : W p l e ({ frames := 0, cells := 0, slots := 0, locals := 0 }) s m ([.int (-1)] : List Value).toArray below meth cd H locs 0 0 Qz (F0 m 0 ls []) by rw [hH, hlo] at hgo; exact hgo
  refine lv_iload_n hx hb dX5_isDigit_0 rfl (lv_at hl 0 rfl) ?_
  refine lv_bipush (v := 48) hx hb dX5_isDigit_1 (by decide) ?_
  refine lv_icmp_lt (tgt := 16) hx hb dX5_isDigit_3 (by decide) (fun c => ?_) (fun c => absurd c (by decide))
  refine lv_iconst (v := 0) hx hb dX5_isDigit_16 (by decide) ?_
  exact hret _ _ _ _ (0) f L Q dX5_isDigit_17 (by decide) hP hS ⟨⟨rfl, rfl, rfl⟩, ⟨rfl, trivial⟩⟩

set_option maxHeartbeats 4000000 in
set_option maxRecDepth 100000 in
theorem cf_X5_isName (l : Launch) (D : va_G) (ca : Nat → ClassId) (za h : Nat → Nat) (hh : sgH 52 h) (f : sg_F) (L : sg_L) (Q : sg_Q) (sz : Nat) : Met l yX5_isName gwX5_isName { frames := 0, cells := 0, slots := 0, locals := 0 } (sgP D vwCl (tyX ca) 52 h (eX ca h) zcX za f L Q sz [.int (-1)]) (sgQi D vwCl 52 h (eX ca h) sz (fun r f1 L1 Q1 => (f1 = f ∧ L1 = L ∧ Q1 = Q) ∧ ((r = 0 ∧ (True))))) 0 0 (sgA 52 h sz) := by
  refine sg_ofWz (cc := cX5_isName) (maxL := 1) RX5 (by decide) rfl rfl (Nat.le_of_ble_eq_true rfl) ?_
  intro p e s m below meth cd Qz ls hx hb hml hown hts hK hZ hP hS hl hret
  have hA := sgY.self (n := 52) (h := h) (sz := s.heap.size)
  have hl : lv_has ls 1 [(0, .int (-1))] := hl
  obtain ⟨H, hH⟩ : ∃ z : Heap, z = s.heap := ⟨_, rfl⟩
  obtain ⟨locs, hlo⟩ : ∃ z : List Loc, z = [] := ⟨_, rfl⟩
  have hP : va_P D vwCl (sgw 52 h (eX ca h) f L Q) H := by rw [hH]; exact hP
  have hS : va_S (sgA 52 h s.heap.size) s.heap H locs := by rw [hH, hlo]; exact hS
  suffices hgo : W p l e ({ frames := 0, cells := 0, slots := 0, locals := 0 }) s m ([.int (-1)] : List Value).toArray below meth cd H locs 0 0 Qz (F0 m 0 ls []) by rw [hH, hlo] at hgo; exact hgo
  refine lv_iload_n hx hb dX5_isName_0 rfl (lv_at hl 0 rfl) ?_
  refine lv_bipush (v := 100) hx hb dX5_isName_1 (by decide) ?_
  refine lv_icmp_eq (tgt := 36) hx hb dX5_isName_3 (by decide) (fun c => absurd c (by decide)) (fun c => ?_)
  refine lv_iload_n hx hb dX5_isName_6 rfl (lv_at hl 0 rfl) ?_
  refine lv_bipush (v := 117) hx hb dX5_isName_7 (by decide) ?_
  refine lv_icmp_eq (tgt := 36) hx hb dX5_isName_9 (by decide) (fun c => absurd c (by decide)) (fun c => ?_)
  refine lv_iload_n hx hb dX5_isName_12 rfl (lv_at hl 0 rfl) ?_
  refine lv_bipush (v := 115) hx hb dX5_isName_13 (by decide) ?_
  refine lv_icmp_eq (tgt := 36) hx hb dX5_isName_15 (by decide) (fun c => absurd c (by decide)) (fun c => ?_)
  refine lv_iload_n hx hb dX5_isName_18 rfl (lv_at hl 0 rfl) ?_
  refine lv_bipush (v := 119) hx hb dX5_isName_19 (by decide) ?_
  refine lv_icmp_eq (tgt := 36) hx hb dX5_isName_21 (by decide) (fun c => absurd c (by decide)) (fun c => ?_)
  refine lv_iload_n hx hb dX5_isName_24 rfl (lv_at hl 0 rfl) ?_
  refine lv_bipush (v := 104) hx hb dX5_isName_25 (by decide) ?_
  refine lv_icmp_eq (tgt := 36) hx hb dX5_isName_27 (by decide) (fun c => absurd c (by decide)) (fun c => ?_)
  refine lv_iload_n hx hb dX5_isName_30 rfl (lv_at hl 0 rfl) ?_
  refine lv_bipush (v := 107) hx hb dX5_isName_31 (by decide) ?_
  refine lv_icmp_ne (tgt := 40) hx hb dX5_isName_33 (by decide) (fun c => ?_) (fun c => absurd c (by decide))
  refine lv_iconst (v := 0) hx hb dX5_isName_40 (by decide) ?_
  exact hret _ _ _ _ (0) f L Q dX5_isName_41 (by decide) hP hS ⟨⟨rfl, rfl, rfl⟩, ⟨rfl, trivial⟩⟩

set_option maxHeartbeats 4000000 in
set_option maxRecDepth 100000 in
theorem cf_X5_fail (l : Launch) (D : va_G) (ca : Nat → ClassId) (za h : Nat → Nat) (hh : sgH 52 h) (f : sg_F) (L : sg_L) (Q : sg_Q) (h1 : f 4 1 = 0) (h6 : f 4 6 = 0) (h8 : f 4 8 = 0) (h7 : f 4 7 = (-1)) (sz : Nat) : Met l yX5_fail gwX5_fail { frames := 0, cells := 0, slots := 0, locals := 0 } (sgP D vwCl (tyX ca) 52 h (eX ca h) zcX za f L Q sz [.ref (h 4)]) (sgQv D vwCl 52 h (eX ca h) sz (fun f1 L1 Q1 => (f1 4 1 = 0 ∧ f1 4 6 = 0 ∧ f1 4 7 = 0 ∧ f1 4 8 = 0))) 0 0 (sgA 52 h sz) := by
  refine sg_ofWv (cc := cX5_fail) (maxL := 1) RX5 (by decide) rfl rfl (Nat.le_of_ble_eq_true rfl) ?_
  intro p e s m below meth cd Qz ls hx hb hml hown hts hK hZ hP hS hl hret
  have hA := sgY.self (n := 52) (h := h) (sz := s.heap.size)
  have hl : lv_has ls 1 [(0, .ref (h 4))] := hl
  obtain ⟨H, hH⟩ : ∃ z : Heap, z = s.heap := ⟨_, rfl⟩
  obtain ⟨locs, hlo⟩ : ∃ z : List Loc, z = [] := ⟨_, rfl⟩
  have hP : va_P D vwCl (sgw 52 h (eX ca h) f L Q) H := by rw [hH]; exact hP
  have hS : va_S (sgA 52 h s.heap.size) s.heap H locs := by rw [hH, hlo]; exact hS
  suffices hgo : W p l e ({ frames := 0, cells := 0, slots := 0, locals := 0 }) s m ([.ref (h 4)] : List Value).toArray below meth cd H locs 0 0 Qz (F0 m 0 ls []) by rw [hH, hlo] at hgo; exact hgo
  refine lv_aload_n hx hb dX5_fail_0 rfl (lv_at hl 0 rfl) ?_
  refine sg_get (ci := 5) (v := .int (-1)) (C := RX5) (T := TX5) (N := 10) hx hb hts (fun w h => List.mem_cons_of_mem _ (gx_5 w h)) hown hK hP 4 (by decide) rfl rfl 7 (by decide) (hts _ (List.mem_cons_of_mem _ mw_72)) (fun _ h9 => h9) (congrArg (fun z => some (Value.int z)) (show f 4 7 = (-1) from h7)) dX5_fail_1 ?_
  refine lv_if_ge (tgt := 15) hx hb dX5_fail_4 (by decide) (fun c => absurd c (by decide)) (fun c => ?_)
  refine lv_aload_n hx hb dX5_fail_7 rfl (lv_at hl 0 rfl) ?_
  refine lv_aload_n hx hb dX5_fail_8 rfl (lv_at hl 0 rfl) ?_
  refine sg_get (ci := 5) (v := .int 0) (C := RX5) (T := TX5) (N := 10) hx hb hts (fun w h => List.mem_cons_of_mem _ (gx_5 w h)) hown hK hP 4 (by decide) rfl rfl 6 (by decide) (hts _ (List.mem_cons_of_mem _ mw_73)) (fun _ h9 => h9) (congrArg (fun z => some (Value.int z)) (show f 4 6 = 0 from h6)) dX5_fail_9 ?_
  refine sg_put (ci := 5) (x := 0) (ty := .int) (C := RX5) (T := TX5) (N := 10) hx hb hts (fun w h => List.mem_cons_of_mem _ (gx_5 w h)) tyX5 tyX5_ok nmX5 hown hh hA hK hP hS 4 (by decide) rfl rfl 7 (by decide) (hts _ (List.mem_cons_of_mem _ mw_72)) (fun _ h9 => h9) rfl rfl (by decide +kernel) rfl rfl (Nat.le_of_ble_eq_true rfl) dX5_fail_12 (fun f_1 H locs ef_1 hP hS => ?_)
  exact hret _ _ _ _ f_1 L Q dX5_fail_15 hP hS ⟨(show _ = _ from (by rw [ef_1]; exact (show _ = _ from h1))), (show _ = _ from (by rw [ef_1]; exact (show _ = _ from h6))), (show _ = _ from (by rw [ef_1]; rfl)), (show _ = _ from (by rw [ef_1]; exact (show _ = _ from h8)))⟩

set_option maxHeartbeats 4000000 in
set_option maxRecDepth 100000 in
theorem cf_X5_operand (l : Launch) (D : va_G) (ca : Nat → ClassId) (za h : Nat → Nat) (hh : sgH 52 h) (f : sg_F) (L : sg_L) (Q : sg_Q) (h1 : f 4 1 = 0) (h6 : f 4 6 = 0) (h8 : f 4 8 = 0) (h7 : f 4 7 = (-1)) (sz : Nat) : Met l yX5_operand gwX5_operand { frames := 1, cells := 0, slots := 0, locals := 20 } (sgP D vwCl (tyX ca) 52 h (eX ca h) zcX za f L Q sz [.ref (h 4), .int 0]) (sgQv D vwCl 52 h (eX ca h) sz (fun f1 L1 Q1 => (f1 4 1 = 0 ∧ f1 4 6 = 0 ∧ f1 4 7 = 0 ∧ f1 4 8 = 0))) 0 0 (sgA 52 h sz) := by
  refine sg_ofWv (cc := cX5_operand) (maxL := 3) RX5 (by decide) rfl rfl (Nat.le_of_ble_eq_true rfl) ?_
  intro p e s m below meth cd Qz ls hx hb hml hown hts hK hZ hP hS hl hret
  have hA := sgY.self (n := 52) (h := h) (sz := s.heap.size)
  have hl : lv_has ls 3 [(0, .ref (h 4)), (1, .int 0)] := hl
  obtain ⟨H, hH⟩ : ∃ z : Heap, z = s.heap := ⟨_, rfl⟩
  obtain ⟨locs, hlo⟩ : ∃ z : List Loc, z = [] := ⟨_, rfl⟩
  have hP : va_P D vwCl (sgw 52 h (eX ca h) f L Q) H := by rw [hH]; exact hP
  have hS : va_S (sgA 52 h s.heap.size) s.heap H locs := by rw [hH, hlo]; exact hS
  suffices hgo : W p l e ({ frames := 1, cells := 0, slots := 0, locals := 20 }) s m ([.ref (h 4), .int 0] : List Value).toArray below meth cd H locs 0 0 Qz (F0 m 0 ls []) by rw [hH, hlo] at hgo; exact hgo
  refine lv_aload_n hx hb dX5_operand_0 rfl (lv_at hl 0 rfl) ?_
  refine sg_calli (va_runV (As := []) (rest := []) ⟨hx, hb, hml, hown, hts⟩ (cf_X5_next_a l D ca za h hh f L Q (h1) (h6) (h8) (h7) H.size) (cwV 0 hts (gw_V (fun _ h => List.mem_cons_of_mem _ h) mw_75 mw_76 mw_77 mw_71 mw_74) rfl rfl rfl (by decide +kernel) ⟨Nat.le_of_ble_eq_true rfl, Nat.le_of_ble_eq_true rfl⟩) (sg_preV (ci := 5) (C := RX5) (T := TX5) (N := 10) hA hK hP hS hZ 4 (by decide) rfl rfl) rfl rfl hl.1 rfl (lv_room (Nat.le_of_ble_eq_true rfl)) dX5_operand_1 ⟨Nat.le_refl _, Nat.le_refl _⟩) hA hS (fun r_4 f_1 L_2 Q_3 H locs hq hP hS => ?_)
  obtain ⟨⟨ef9, eL9, eQ9⟩, hq⟩ := hq
  rw [ef9, eL9, eQ9] at hP; clear ef9 eL9 eQ9
  obtain ⟨rfl, hq⟩ := hq
  have q_5 := hq
  refine lv_istore_n (lv' := [(2, .int (-1)), (0, .ref (h 4)), (1, .int 0)]) hx hb dX5_operand_4 rfl hl (by decide) rfl (fun ls hl => ?_)
  refine lv_iload_n hx hb dX5_operand_5 rfl (lv_at hl 0 rfl) ?_
  refine sg_calli (va_runS (As := [.int (-1)]) (rest := []) ⟨hx, hb, hml, hown, hts⟩ (cf_X5_isDigit l D ca za h hh f L Q H.size) (va_cwS 1 hts (gw_S (fun _ h => List.mem_cons_of_mem _ h) mw_79 mw_80 mw_71 mw_78) rfl rfl rfl (by decide +kernel) ⟨Nat.le_of_ble_eq_true rfl, Nat.le_of_ble_eq_true rfl⟩) (sg_preS hA hK hP hS hZ) rfl rfl hl.1 rfl (lv_room (Nat.le_of_ble_eq_true rfl)) dX5_operand_6 ⟨Nat.le_refl _, Nat.le_refl _⟩) hA hS (fun r_9 f_6 L_7 Q_8 H locs hq hP hS => ?_)
  obtain ⟨⟨ef9, eL9, eQ9⟩, hq⟩ := hq
  rw [ef9, eL9, eQ9] at hP; clear ef9 eL9 eQ9
  have k_10 : ((-1) : Int32).toInt = (-1) := by decide
  obtain ⟨rfl, hq⟩ := hq
  have q_11 := hq
  refine lv_if_eq (tgt := 19) hx hb dX5_operand_9 (by decide) (fun c => ?_) (fun c => absurd c (by decide))
  refine lv_iload_n hx hb dX5_operand_19 rfl (lv_at hl 0 rfl) ?_
  refine sg_calli (va_runS (As := [.int (-1)]) (rest := []) ⟨hx, hb, hml, hown, hts⟩ (cf_X5_isName l D ca za h hh f L Q H.size) (va_cwS 1 hts (gw_S (fun _ h => List.mem_cons_of_mem _ h) mw_82 mw_83 mw_71 mw_81) rfl rfl rfl (by decide +kernel) ⟨Nat.le_of_ble_eq_true rfl, Nat.le_of_ble_eq_true rfl⟩) (sg_preS hA hK hP hS hZ) rfl rfl hl.1 rfl (lv_room (Nat.le_of_ble_eq_true rfl)) dX5_operand_20 ⟨Nat.le_refl _, Nat.le_refl _⟩) hA hS (fun r_15 f_12 L_13 Q_14 H locs hq hP hS => ?_)
  obtain ⟨⟨ef9, eL9, eQ9⟩, hq⟩ := hq
  rw [ef9, eL9, eQ9] at hP; clear ef9 eL9 eQ9
  have k_16 : ((-1) : Int32).toInt = (-1) := by decide
  obtain ⟨rfl, hq⟩ := hq
  have q_17 := hq
  refine lv_if_eq (tgt := 44) hx hb dX5_operand_23 (by decide) (fun c => ?_) (fun c => absurd c (by decide))
  refine lv_iload_n hx hb dX5_operand_44 rfl (lv_at hl 0 rfl) ?_
  refine lv_bipush (v := 40) hx hb dX5_operand_45 (by decide) ?_
  refine lv_icmp_eq (tgt := 62) hx hb dX5_operand_47 (by decide) (fun c => absurd c (by decide)) (fun c => ?_)
  refine lv_iload_n hx hb dX5_operand_50 rfl (lv_at hl 0 rfl) ?_
  refine lv_bipush (v := 33) hx hb dX5_operand_51 (by decide) ?_
  refine lv_icmp_eq (tgt := 62) hx hb dX5_operand_53 (by decide) (fun c => absurd c (by decide)) (fun c => ?_)
  refine lv_iload_n hx hb dX5_operand_56 rfl (lv_at hl 0 rfl) ?_
  refine lv_bipush (v := 45) hx hb dX5_operand_57 (by decide) ?_
  refine lv_icmp_ne (tgt := 68) hx hb dX5_operand_59 (by decide) (fun c => ?_) (fun c => absurd c (by decide))
  refine lv_aload_n hx hb dX5_operand_68 rfl (lv_at hl 1 rfl) ?_
  refine sg_callv (va_runV (As := []) (rest := []) ⟨hx, hb, hml, hown, hts⟩ (cf_X5_fail l D ca za h hh f L Q (h1) (h6) (h8) (h7) H.size) (cwV 0 hts (gw_V (fun _ h => List.mem_cons_of_mem _ h) mw_85 mw_86 mw_87 mw_71 mw_84) rfl rfl rfl (by decide +kernel) ⟨Nat.le_of_ble_eq_true rfl, Nat.le_of_ble_eq_true rfl⟩) (sg_preV (ci := 5) (C := RX5) (T := TX5) (N := 10) hA hK hP hS hZ 4 (by decide) rfl rfl) rfl rfl hl.1 rfl (lv_room (Nat.le_of_ble_eq_true rfl)) dX5_operand_69 ⟨Nat.le_refl _, Nat.le_refl _⟩) hA hS (fun f_18 L_19 Q_20 H locs hq hP hS => ?_)
  obtain ⟨h_21, h_22, h_23, h_24⟩ := hq
  refine lv_goto (tgt := 93) hx hb dX5_operand_72 (by decide) ?_
  exact hret _ _ _ _ f_18 L_19 Q_20 dX5_operand_93 hP hS ⟨(show _ = _ from h_21), (show _ = _ from h_22), (show _ = _ from h_23), (show _ = _ from h_24)⟩

set_option maxHeartbeats 4000000 in
set_option maxRecDepth 100000 in
theorem cf_X5_product (l : Launch) (D : va_G) (ca : Nat → ClassId) (za h : Nat → Nat) (hh : sgH 52 h) (f : sg_F) (L : sg_L) (Q : sg_Q) (h1 : f 4 1 = 0) (h6 : f 4 6 = 0) (h8 : f 4 8 = 0) (h7 : f 4 7 = (-1)) (sz : Nat) : Met l yX5_product gwX5_product { frames := 2, cells := 0, slots := 0, locals := 42 } (sgP D vwCl (tyX ca) 52 h (eX ca h) zcX za f L Q sz [.ref (h 4), .int 0]) (sgQv D vwCl 52 h (eX ca h) sz (fun f1 L1 Q1 => (f1 4 1 = 0 ∧ f1 4 6 = 0 ∧ f1 4 7 = 0 ∧ f1 4 8 = 0))) 0 0 (sgA 52 h sz) := by
  refine sg_ofWv (cc := cX5_product) (maxL := 4) RX5 (by decide) rfl rfl (Nat.le_of_ble_eq_true rfl) ?_
  intro p e s m below meth cd Qz ls hx hb hml hown hts hK hZ hP hS hl hret
  have hA := sgY.self (n := 52) (h := h) (sz := s.heap.size)
  have hl : lv_has ls 4 [(0, .ref (h 4)), (1, .int 0)] := hl
  obtain ⟨H, hH⟩ : ∃ z : Heap, z = s.heap := ⟨_, rfl⟩
  obtain ⟨locs, hlo⟩ : ∃ z : List Loc, z = [] := ⟨_, rfl⟩
  have hP : va_P D vwCl (sgw 52 h (eX ca h) f L Q) H := by rw [hH]; exact hP
  have hS : va_S (sgA 52 h s.heap.size) s.heap H locs := by rw [hH, hlo]; exact hS
  suffices hgo : W p l e ({ frames := 2, cells := 0, slots := 0, locals := 42 }) s m ([.ref (h 4), .int 0] : List Value).toArray below meth cd H locs 0 0 Qz (F0 m 0 ls []) by rw [hH, hlo] at hgo; exact hgo
  refine lv_aload_n hx hb dX5_product_0 rfl (lv_at hl 0 rfl) ?_
  refine lv_iload_n hx hb dX5_product_1 rfl (lv_at hl 1 rfl) ?_
  refine sg_callv (va_runV (As := [.int 0]) (rest := []) ⟨hx, hb, hml, hown, hts⟩ (cf_X5_operand l D ca za h hh f L Q (h1) (h6) (h8) (h7) H.size) (cwV 1 hts (gw_V (fun _ h => List.mem_cons_of_mem _ h) mw_89 mw_90 mw_91 mw_71 mw_88) rfl rfl rfl (by decide +kernel) ⟨Nat.le_of_ble_eq_true rfl, Nat.le_of_ble_eq_true rfl⟩) (sg_preV (ci := 5) (C := RX5) (T := TX5) (N := 10) hA hK hP hS hZ 4 (by decide) rfl rfl) rfl rfl hl.1 rfl (lv_room (Nat.le_of_ble_eq_true rfl)) dX5_product_2 ⟨Nat.le_refl _, Nat.le_refl _⟩) hA hS (fun f_1 L_2 Q_3 H locs hq hP hS => ?_)
  obtain ⟨h_4, h_5, h_6, h_7⟩ := hq
  refine lv_aload_n hx hb dX5_product_5 rfl (lv_at hl 0 rfl) ?_
  refine sg_calli (va_runV (As := []) (rest := []) ⟨hx, hb, hml, hown, hts⟩ (cf_X5_next_b l D ca za h hh f_1 L_2 Q_3 (h_4) (h_5) (h_7) (h_6) H.size) (cwV 0 hts (gw_V (fun _ h => List.mem_cons_of_mem _ h) mw_75 mw_76 mw_77 mw_71 mw_74) rfl rfl rfl (by decide +kernel) ⟨Nat.le_of_ble_eq_true rfl, Nat.le_of_ble_eq_true rfl⟩) (sg_preV (ci := 5) (C := RX5) (T := TX5) (N := 10) hA hK hP hS hZ 4 (by decide) rfl rfl) rfl rfl hl.1 rfl (lv_room (Nat.le_of_ble_eq_true rfl)) dX5_product_6 ⟨Nat.le_refl _, Nat.le_refl _⟩) hA hS (fun r_11 f_8 L_9 Q_10 H locs hq hP hS => ?_)
  obtain ⟨⟨ef9, eL9, eQ9⟩, hq⟩ := hq
  rw [ef9, eL9, eQ9] at hP; clear ef9 eL9 eQ9
  obtain ⟨rfl, hq⟩ := hq
  have q_12 := hq
  refine lv_istore_n (lv' := [(2, .int (-1)), (0, .ref (h 4)), (1, .int 0)]) hx hb dX5_product_9 rfl hl (by decide) rfl (fun ls hl => ?_)
  refine lv_iconst (v := 0) hx hb dX5_product_10 (by decide) ?_
  refine lv_istore_n (lv' := [(3, .int 0), (2, .int (-1)), (0, .ref (h 4)), (1, .int 0)]) hx hb dX5_product_11 rfl hl (by decide) rfl (fun ls hl => ?_)
  refine lv_iload_n hx hb dX5_product_12 rfl (lv_at hl 0 rfl) ?_
  refine lv_bipush (v := 120) hx hb dX5_product_13 (by decide) ?_
  refine lv_icmp_ge (tgt := 67) hx hb dX5_product_15 (by decide) (fun c => absurd c (by decide)) (fun c => ?_)
  refine lv_iload_n hx hb dX5_product_18 rfl (lv_at hl 1 rfl) ?_
  refine lv_bipush (v := 42) hx hb dX5_product_19 (by decide) ?_
  refine lv_icmp_eq (tgt := 36) hx hb dX5_product_21 (by decide) (fun c => absurd c (by decide)) (fun c => ?_)
  refine lv_iload_n hx hb dX5_product_24 rfl (lv_at hl 1 rfl) ?_
  refine lv_bipush (v := 47) hx hb dX5_product_25 (by decide) ?_
  refine lv_icmp_eq (tgt := 36) hx hb dX5_product_27 (by decide) (fun c => absurd c (by decide)) (fun c => ?_)
  refine lv_iload_n hx hb dX5_product_30 rfl (lv_at hl 1 rfl) ?_
  refine lv_bipush (v := 37) hx hb dX5_product_31 (by decide) ?_
  refine lv_icmp_ne (tgt := 67) hx hb dX5_product_33 (by decide) (fun c => ?_) (fun c => absurd c (by decide))
  exact hret _ _ _ _ f_1 L_2 Q_3 dX5_product_67 hP hS ⟨(show _ = _ from h_4), (show _ = _ from h_5), (show _ = _ from h_6), (show _ = _ from h_7)⟩

set_option maxHeartbeats 4000000 in
set_option maxRecDepth 100000 in
theorem cf_X5_sum (l : Launch) (D : va_G) (ca : Nat → ClassId) (za h : Nat → Nat) (hh : sgH 52 h) (f : sg_F) (L : sg_L) (Q : sg_Q) (h1 : f 4 1 = 0) (h6 : f 4 6 = 0) (h8 : f 4 8 = 0) (h7 : f 4 7 = (-1)) (sz : Nat) : Met l yX5_sum gwX5_sum { frames := 3, cells := 0, slots := 0, locals := 65 } (sgP D vwCl (tyX ca) 52 h (eX ca h) zcX za f L Q sz [.ref (h 4), .int 0]) (sgQv D vwCl 52 h (eX ca h) sz (fun f1 L1 Q1 => (f1 4 1 = 0 ∧ f1 4 6 = 0 ∧ f1 4 7 = 0 ∧ f1 4 8 = 0))) 0 0 (sgA 52 h sz) := by
  refine sg_ofWv (cc := cX5_sum) (maxL := 4) RX5 (by decide) rfl rfl (Nat.le_of_ble_eq_true rfl) ?_
  intro p e s m below meth cd Qz ls hx hb hml hown hts hK hZ hP hS hl hret
  have hA := sgY.self (n := 52) (h := h) (sz := s.heap.size)
  have hl : lv_has ls 4 [(0, .ref (h 4)), (1, .int 0)] := hl
  obtain ⟨H, hH⟩ : ∃ z : Heap, z = s.heap := ⟨_, rfl⟩
  obtain ⟨locs, hlo⟩ : ∃ z : List Loc, z = [] := ⟨_, rfl⟩
  have hP : va_P D vwCl (sgw 52 h (eX ca h) f L Q) H := by rw [hH]; exact hP
  have hS : va_S (sgA 52 h s.heap.size) s.heap H locs := by rw [hH, hlo]; exact hS
  suffices hgo : W p l e ({ frames := 3, cells := 0, slots := 0, locals := 65 }) s m ([.ref (h 4), .int 0] : List Value).toArray below meth cd H locs 0 0 Qz (F0 m 0 ls []) by rw [hH, hlo] at hgo; exact hgo
  refine lv_aload_n hx hb dX5_sum_0 rfl (lv_at hl 0 rfl) ?_
  refine lv_iload_n hx hb dX5_sum_1 rfl (lv_at hl 1 rfl) ?_
  refine sg_callv (va_runV (As := [.int 0]) (rest := []) ⟨hx, hb, hml, hown, hts⟩ (cf_X5_product l D ca za h hh f L Q (h1) (h6) (h8) (h7) H.size) (cwV 1 hts (gw_V (fun _ h => List.mem_cons_of_mem _ h) mw_93 mw_94 mw_95 mw_71 mw_92) rfl rfl rfl (by decide +kernel) ⟨Nat.le_of_ble_eq_true rfl, Nat.le_of_ble_eq_true rfl⟩) (sg_preV (ci := 5) (C := RX5) (T := TX5) (N := 10) hA hK hP hS hZ 4 (by decide) rfl rfl) rfl rfl hl.1 rfl (lv_room (Nat.le_of_ble_eq_true rfl)) dX5_sum_2 ⟨Nat.le_refl _, Nat.le_refl _⟩) hA hS (fun f_1 L_2 Q_3 H locs hq hP hS => ?_)
  obtain ⟨h_4, h_5, h_6, h_7⟩ := hq
  refine lv_aload_n hx hb dX5_sum_5 rfl (lv_at hl 0 rfl) ?_
  refine sg_calli (va_runV (As := []) (rest := []) ⟨hx, hb, hml, hown, hts⟩ (cf_X5_next_b l D ca za h hh f_1 L_2 Q_3 (h_4) (h_5) (h_7) (h_6) H.size) (cwV 0 hts (gw_V (fun _ h => List.mem_cons_of_mem _ h) mw_75 mw_76 mw_77 mw_71 mw_74) rfl rfl rfl (by decide +kernel) ⟨Nat.le_of_ble_eq_true rfl, Nat.le_of_ble_eq_true rfl⟩) (sg_preV (ci := 5) (C := RX5) (T := TX5) (N := 10) hA hK hP hS hZ 4 (by decide) rfl rfl) rfl rfl hl.1 rfl (lv_room (Nat.le_of_ble_eq_true rfl)) dX5_sum_6 ⟨Nat.le_refl _, Nat.le_refl _⟩) hA hS (fun r_11 f_8 L_9 Q_10 H locs hq hP hS => ?_)
  obtain ⟨⟨ef9, eL9, eQ9⟩, hq⟩ := hq
  rw [ef9, eL9, eQ9] at hP; clear ef9 eL9 eQ9
  obtain ⟨rfl, hq⟩ := hq
  have q_12 := hq
  refine lv_istore_n (lv' := [(2, .int (-1)), (0, .ref (h 4)), (1, .int 0)]) hx hb dX5_sum_9 rfl hl (by decide) rfl (fun ls hl => ?_)
  refine lv_iconst (v := 0) hx hb dX5_sum_10 (by decide) ?_
  refine lv_istore_n (lv' := [(3, .int 0), (2, .int (-1)), (0, .ref (h 4)), (1, .int 0)]) hx hb dX5_sum_11 rfl hl (by decide) rfl (fun ls hl => ?_)
  refine lv_iload_n hx hb dX5_sum_12 rfl (lv_at hl 0 rfl) ?_
  refine lv_bipush (v := 120) hx hb dX5_sum_13 (by decide) ?_
  refine lv_icmp_ge (tgt := 61) hx hb dX5_sum_15 (by decide) (fun c => absurd c (by decide)) (fun c => ?_)
  refine lv_iload_n hx hb dX5_sum_18 rfl (lv_at hl 1 rfl) ?_
  refine lv_bipush (v := 43) hx hb dX5_sum_19 (by decide) ?_
  refine lv_icmp_eq (tgt := 30) hx hb dX5_sum_21 (by decide) (fun c => absurd c (by decide)) (fun c => ?_)
  refine lv_iload_n hx hb dX5_sum_24 rfl (lv_at hl 1 rfl) ?_
  refine lv_bipush (v := 45) hx hb dX5_sum_25 (by decide) ?_
  refine lv_icmp_ne (tgt := 61) hx hb dX5_sum_27 (by decide) (fun c => ?_) (fun c => absurd c (by decide))
  exact hret _ _ _ _ f_1 L_2 Q_3 dX5_sum_61 hP hS ⟨(show _ = _ from h_4), (show _ = _ from h_5), (show _ = _ from h_6), (show _ = _ from h_7)⟩

set_option maxHeartbeats 4000000 in
set_option maxRecDepth 100000 in
theorem cf_X5_compared (l : Launch) (D : va_G) (ca : Nat → ClassId) (za h : Nat → Nat) (hh : sgH 52 h) (f : sg_F) (L : sg_L) (Q : sg_Q) (h1 : f 4 1 = 0) (h6 : f 4 6 = 0) (h8 : f 4 8 = 0) (h7 : f 4 7 = (-1)) (sz : Nat) : Met l yX5_compared gwX5_compared { frames := 4, cells := 0, slots := 0, locals := 88 } (sgP D vwCl (tyX ca) 52 h (eX ca h) zcX za f L Q sz [.ref (h 4), .int 0]) (sgQv D vwCl 52 h (eX ca h) sz (fun f1 L1 Q1 => (f1 4 1 = 0 ∧ f1 4 6 = 0 ∧ f1 4 7 = 0 ∧ f1 4 8 = 0))) 0 0 (sgA 52 h sz) := by
  refine sg_ofWv (cc := cX5_compared) (maxL := 3) RX5 (by decide) rfl rfl (Nat.le_of_ble_eq_true rfl) ?_
  intro p e s m below meth cd Qz ls hx hb hml hown hts hK hZ hP hS hl hret
  have hA := sgY.self (n := 52) (h := h) (sz := s.heap.size)
  have hl : lv_has ls 3 [(0, .ref (h 4)), (1, .int 0)] := hl
  obtain ⟨H, hH⟩ : ∃ z : Heap, z = s.heap := ⟨_, rfl⟩
  obtain ⟨locs, hlo⟩ : ∃ z : List Loc, z = [] := ⟨_, rfl⟩
  have hP : va_P D vwCl (sgw 52 h (eX ca h) f L Q) H := by rw [hH]; exact hP
  have hS : va_S (sgA 52 h s.heap.size) s.heap H locs := by rw [hH, hlo]; exact hS
  suffices hgo : W p l e ({ frames := 4, cells := 0, slots := 0, locals := 88 }) s m ([.ref (h 4), .int 0] : List Value).toArray below meth cd H locs 0 0 Qz (F0 m 0 ls []) by rw [hH, hlo] at hgo; exact hgo
  refine lv_aload_n hx hb dX5_compared_0 rfl (lv_at hl 0 rfl) ?_
  refine lv_iload_n hx hb dX5_compared_1 rfl (lv_at hl 1 rfl) ?_
  refine sg_callv (va_runV (As := [.int 0]) (rest := []) ⟨hx, hb, hml, hown, hts⟩ (cf_X5_sum l D ca za h hh f L Q (h1) (h6) (h8) (h7) H.size) (cwV 1 hts (gw_V (fun _ h => List.mem_cons_of_mem _ h) mw_97 mw_98 mw_99 mw_71 mw_96) rfl rfl rfl (by decide +kernel) ⟨Nat.le_of_ble_eq_true rfl, Nat.le_of_ble_eq_true rfl⟩) (sg_preV (ci := 5) (C := RX5) (T := TX5) (N := 10) hA hK hP hS hZ 4 (by decide) rfl rfl) rfl rfl hl.1 rfl (lv_room (Nat.le_of_ble_eq_true rfl)) dX5_compared_2 ⟨Nat.le_refl _, Nat.le_refl _⟩) hA hS (fun f_1 L_2 Q_3 H locs hq hP hS => ?_)
  obtain ⟨h_4, h_5, h_6, h_7⟩ := hq
  refine lv_aload_n hx hb dX5_compared_5 rfl (lv_at hl 0 rfl) ?_
  refine sg_calli (va_runV (As := []) (rest := []) ⟨hx, hb, hml, hown, hts⟩ (cf_X5_next_b l D ca za h hh f_1 L_2 Q_3 (h_4) (h_5) (h_7) (h_6) H.size) (cwV 0 hts (gw_V (fun _ h => List.mem_cons_of_mem _ h) mw_75 mw_76 mw_77 mw_71 mw_74) rfl rfl rfl (by decide +kernel) ⟨Nat.le_of_ble_eq_true rfl, Nat.le_of_ble_eq_true rfl⟩) (sg_preV (ci := 5) (C := RX5) (T := TX5) (N := 10) hA hK hP hS hZ 4 (by decide) rfl rfl) rfl rfl hl.1 rfl (lv_room (Nat.le_of_ble_eq_true rfl)) dX5_compared_6 ⟨Nat.le_refl _, Nat.le_refl _⟩) hA hS (fun r_11 f_8 L_9 Q_10 H locs hq hP hS => ?_)
  obtain ⟨⟨ef9, eL9, eQ9⟩, hq⟩ := hq
  rw [ef9, eL9, eQ9] at hP; clear ef9 eL9 eQ9
  obtain ⟨rfl, hq⟩ := hq
  have q_12 := hq
  refine lv_istore_n (lv' := [(2, .int (-1)), (0, .ref (h 4)), (1, .int 0)]) hx hb dX5_compared_9 rfl hl (by decide) rfl (fun ls hl => ?_)
  refine lv_iload_n hx hb dX5_compared_10 rfl (lv_at hl 0 rfl) ?_
  refine lv_bipush (v := 60) hx hb dX5_compared_11 (by decide) ?_
  refine lv_icmp_eq (tgt := 28) hx hb dX5_compared_13 (by decide) (fun c => absurd c (by decide)) (fun c => ?_)
  refine lv_iload_n hx hb dX5_compared_16 rfl (lv_at hl 0 rfl) ?_
  refine lv_bipush (v := 61) hx hb dX5_compared_17 (by decide) ?_
  refine lv_icmp_eq (tgt := 28) hx hb dX5_compared_19 (by decide) (fun c => absurd c (by decide)) (fun c => ?_)
  refine lv_iload_n hx hb dX5_compared_22 rfl (lv_at hl 0 rfl) ?_
  refine lv_bipush (v := 62) hx hb dX5_compared_23 (by decide) ?_
  refine lv_icmp_ne (tgt := 48) hx hb dX5_compared_25 (by decide) (fun c => ?_) (fun c => absurd c (by decide))
  exact hret _ _ _ _ f_1 L_2 Q_3 dX5_compared_48 hP hS ⟨(show _ = _ from h_4), (show _ = _ from h_5), (show _ = _ from h_6), (show _ = _ from h_7)⟩

set_option maxHeartbeats 4000000 in
set_option maxRecDepth 100000 in
theorem cf_X5_both (l : Launch) (D : va_G) (ca : Nat → ClassId) (za h : Nat → Nat) (hh : sgH 52 h) (f : sg_F) (L : sg_L) (Q : sg_Q) (h1 : f 4 1 = 0) (h6 : f 4 6 = 0) (h8 : f 4 8 = 0) (h7 : f 4 7 = (-1)) (sz : Nat) : Met l yX5_both gwX5_both { frames := 5, cells := 0, slots := 0, locals := 110 } (sgP D vwCl (tyX ca) 52 h (eX ca h) zcX za f L Q sz [.ref (h 4), .int 0]) (sgQv D vwCl 52 h (eX ca h) sz (fun f1 L1 Q1 => (f1 4 1 = 0 ∧ f1 4 6 = 0 ∧ f1 4 7 = 0 ∧ f1 4 8 = 0))) 0 0 (sgA 52 h sz) := by
  refine sg_ofWv (cc := cX5_both) (maxL := 3) RX5 (by decide) rfl rfl (Nat.le_of_ble_eq_true rfl) ?_
  intro p e s m below meth cd Qz ls hx hb hml hown hts hK hZ hP hS hl hret
  have hA := sgY.self (n := 52) (h := h) (sz := s.heap.size)
  have hl : lv_has ls 3 [(0, .ref (h 4)), (1, .int 0)] := hl
  obtain ⟨H, hH⟩ : ∃ z : Heap, z = s.heap := ⟨_, rfl⟩
  obtain ⟨locs, hlo⟩ : ∃ z : List Loc, z = [] := ⟨_, rfl⟩
  have hP : va_P D vwCl (sgw 52 h (eX ca h) f L Q) H := by rw [hH]; exact hP
  have hS : va_S (sgA 52 h s.heap.size) s.heap H locs := by rw [hH, hlo]; exact hS
  suffices hgo : W p l e ({ frames := 5, cells := 0, slots := 0, locals := 110 }) s m ([.ref (h 4), .int 0] : List Value).toArray below meth cd H locs 0 0 Qz (F0 m 0 ls []) by rw [hH, hlo] at hgo; exact hgo
  refine lv_aload_n hx hb dX5_both_0 rfl (lv_at hl 0 rfl) ?_
  refine lv_iload_n hx hb dX5_both_1 rfl (lv_at hl 1 rfl) ?_
  refine sg_callv (va_runV (As := [.int 0]) (rest := []) ⟨hx, hb, hml, hown, hts⟩ (cf_X5_compared l D ca za h hh f L Q (h1) (h6) (h8) (h7) H.size) (cwV 1 hts (gw_V (fun _ h => List.mem_cons_of_mem _ h) mw_101 mw_102 mw_103 mw_71 mw_100) rfl rfl rfl (by decide +kernel) ⟨Nat.le_of_ble_eq_true rfl, Nat.le_of_ble_eq_true rfl⟩) (sg_preV (ci := 5) (C := RX5) (T := TX5) (N := 10) hA hK hP hS hZ 4 (by decide) rfl rfl) rfl rfl hl.1 rfl (lv_room (Nat.le_of_ble_eq_true rfl)) dX5_both_2 ⟨Nat.le_refl _, Nat.le_refl _⟩) hA hS (fun f_1 L_2 Q_3 H locs hq hP hS => ?_)
  obtain ⟨h_4, h_5, h_6, h_7⟩ := hq
  refine lv_iconst (v := 0) hx hb dX5_both_5 (by decide) ?_
  refine lv_istore_n (lv' := [(2, .int 0), (0, .ref (h 4)), (1, .int 0)]) hx hb dX5_both_6 rfl hl (by decide) rfl (fun ls hl => ?_)
  refine lv_iload_n hx hb dX5_both_7 rfl (lv_at hl 0 rfl) ?_
  refine lv_bipush (v := 120) hx hb dX5_both_8 (by decide) ?_
  refine lv_icmp_ge (tgt := 49) hx hb dX5_both_10 (by decide) (fun c => absurd c (by decide)) (fun c => ?_)
  refine lv_aload_n hx hb dX5_both_13 rfl (lv_at hl 1 rfl) ?_
  refine sg_calli (va_runV (As := []) (rest := []) ⟨hx, hb, hml, hown, hts⟩ (cf_X5_next_b l D ca za h hh f_1 L_2 Q_3 (h_4) (h_5) (h_7) (h_6) H.size) (cwV 0 hts (gw_V (fun _ h => List.mem_cons_of_mem _ h) mw_75 mw_76 mw_77 mw_71 mw_74) rfl rfl rfl (by decide +kernel) ⟨Nat.le_of_ble_eq_true rfl, Nat.le_of_ble_eq_true rfl⟩) (sg_preV (ci := 5) (C := RX5) (T := TX5) (N := 10) hA hK hP hS hZ 4 (by decide) rfl rfl) rfl rfl hl.1 rfl (lv_room (Nat.le_of_ble_eq_true rfl)) dX5_both_14 ⟨Nat.le_refl _, Nat.le_refl _⟩) hA hS (fun r_11 f_8 L_9 Q_10 H locs hq hP hS => ?_)
  obtain ⟨⟨ef9, eL9, eQ9⟩, hq⟩ := hq
  rw [ef9, eL9, eQ9] at hP; clear ef9 eL9 eQ9
  obtain ⟨rfl, hq⟩ := hq
  have q_12 := hq
  refine lv_bipush (v := 38) hx hb dX5_both_17 (by decide) ?_
  refine lv_icmp_ne (tgt := 49) hx hb dX5_both_19 (by decide) (fun c => ?_) (fun c => absurd c (by decide))
  exact hret _ _ _ _ f_1 L_2 Q_3 dX5_both_49 hP hS ⟨(show _ = _ from h_4), (show _ = _ from h_5), (show _ = _ from h_6), (show _ = _ from h_7)⟩

set_option maxHeartbeats 4000000 in
set_option maxRecDepth 100000 in
theorem cf_X5_either (l : Launch) (D : va_G) (ca : Nat → ClassId) (za h : Nat → Nat) (hh : sgH 52 h) (f : sg_F) (L : sg_L) (Q : sg_Q) (h1 : f 4 1 = 0) (h6 : f 4 6 = 0) (h8 : f 4 8 = 0) (h7 : f 4 7 = (-1)) (sz : Nat) : Met l yX5_either gwX5_either { frames := 6, cells := 0, slots := 0, locals := 132 } (sgP D vwCl (tyX ca) 52 h (eX ca h) zcX za f L Q sz [.ref (h 4), .int 0]) (sgQv D vwCl 52 h (eX ca h) sz (fun f1 L1 Q1 => (f1 4 1 = 0 ∧ f1 4 6 = 0 ∧ f1 4 7 = 0 ∧ f1 4 8 = 0))) 0 0 (sgA 52 h sz) := by
  refine sg_ofWv (cc := cX5_either) (maxL := 3) RX5 (by decide) rfl rfl (Nat.le_of_ble_eq_true rfl) ?_
  intro p e s m below meth cd Qz ls hx hb hml hown hts hK hZ hP hS hl hret
  have hA := sgY.self (n := 52) (h := h) (sz := s.heap.size)
  have hl : lv_has ls 3 [(0, .ref (h 4)), (1, .int 0)] := hl
  obtain ⟨H, hH⟩ : ∃ z : Heap, z = s.heap := ⟨_, rfl⟩
  obtain ⟨locs, hlo⟩ : ∃ z : List Loc, z = [] := ⟨_, rfl⟩
  have hP : va_P D vwCl (sgw 52 h (eX ca h) f L Q) H := by rw [hH]; exact hP
  have hS : va_S (sgA 52 h s.heap.size) s.heap H locs := by rw [hH, hlo]; exact hS
  suffices hgo : W p l e ({ frames := 6, cells := 0, slots := 0, locals := 132 }) s m ([.ref (h 4), .int 0] : List Value).toArray below meth cd H locs 0 0 Qz (F0 m 0 ls []) by rw [hH, hlo] at hgo; exact hgo
  refine lv_aload_n hx hb dX5_either_0 rfl (lv_at hl 0 rfl) ?_
  refine lv_iload_n hx hb dX5_either_1 rfl (lv_at hl 1 rfl) ?_
  refine sg_callv (va_runV (As := [.int 0]) (rest := []) ⟨hx, hb, hml, hown, hts⟩ (cf_X5_both l D ca za h hh f L Q (h1) (h6) (h8) (h7) H.size) (cwV 1 hts (gw_V (fun _ h => List.mem_cons_of_mem _ h) mw_105 mw_106 mw_107 mw_71 mw_104) rfl rfl rfl (by decide +kernel) ⟨Nat.le_of_ble_eq_true rfl, Nat.le_of_ble_eq_true rfl⟩) (sg_preV (ci := 5) (C := RX5) (T := TX5) (N := 10) hA hK hP hS hZ 4 (by decide) rfl rfl) rfl rfl hl.1 rfl (lv_room (Nat.le_of_ble_eq_true rfl)) dX5_either_2 ⟨Nat.le_refl _, Nat.le_refl _⟩) hA hS (fun f_1 L_2 Q_3 H locs hq hP hS => ?_)
  obtain ⟨h_4, h_5, h_6, h_7⟩ := hq
  refine lv_iconst (v := 0) hx hb dX5_either_5 (by decide) ?_
  refine lv_istore_n (lv' := [(2, .int 0), (0, .ref (h 4)), (1, .int 0)]) hx hb dX5_either_6 rfl hl (by decide) rfl (fun ls hl => ?_)
  refine lv_iload_n hx hb dX5_either_7 rfl (lv_at hl 0 rfl) ?_
  refine lv_bipush (v := 120) hx hb dX5_either_8 (by decide) ?_
  refine lv_icmp_ge (tgt := 49) hx hb dX5_either_10 (by decide) (fun c => absurd c (by decide)) (fun c => ?_)
  refine lv_aload_n hx hb dX5_either_13 rfl (lv_at hl 1 rfl) ?_
  refine sg_calli (va_runV (As := []) (rest := []) ⟨hx, hb, hml, hown, hts⟩ (cf_X5_next_b l D ca za h hh f_1 L_2 Q_3 (h_4) (h_5) (h_7) (h_6) H.size) (cwV 0 hts (gw_V (fun _ h => List.mem_cons_of_mem _ h) mw_75 mw_76 mw_77 mw_71 mw_74) rfl rfl rfl (by decide +kernel) ⟨Nat.le_of_ble_eq_true rfl, Nat.le_of_ble_eq_true rfl⟩) (sg_preV (ci := 5) (C := RX5) (T := TX5) (N := 10) hA hK hP hS hZ 4 (by decide) rfl rfl) rfl rfl hl.1 rfl (lv_room (Nat.le_of_ble_eq_true rfl)) dX5_either_14 ⟨Nat.le_refl _, Nat.le_refl _⟩) hA hS (fun r_11 f_8 L_9 Q_10 H locs hq hP hS => ?_)
  obtain ⟨⟨ef9, eL9, eQ9⟩, hq⟩ := hq
  rw [ef9, eL9, eQ9] at hP; clear ef9 eL9 eQ9
  obtain ⟨rfl, hq⟩ := hq
  have q_12 := hq
  refine lv_bipush (v := 124) hx hb dX5_either_17 (by decide) ?_
  refine lv_icmp_ne (tgt := 49) hx hb dX5_either_19 (by decide) (fun c => ?_) (fun c => absurd c (by decide))
  exact hret _ _ _ _ f_1 L_2 Q_3 dX5_either_49 hP hS ⟨(show _ = _ from h_4), (show _ = _ from h_5), (show _ = _ from h_6), (show _ = _ from h_7)⟩

set_option maxHeartbeats 4000000 in
set_option maxRecDepth 100000 in
theorem cf_X5_write (l : Launch) (D : va_G) (ca : Nat → ClassId) (za h : Nat → Nat) (hh : sgH 52 h) (f : sg_F) (L : sg_L) (Q : sg_Q) (h1 : f 4 1 = 0) (h6 : f 4 6 = 0) (h8 : f 4 8 = 0) (h7 : f 4 7 = 0) (sz : Nat) : Met l yX5_write gwX5_write { frames := 0, cells := 0, slots := 0, locals := 0 } (sgP D vwCl (tyX ca) 52 h (eX ca h) zcX za f L Q sz [.ref (h 4), .int 59]) (sgQv D vwCl 52 h (eX ca h) sz (fun f1 L1 Q1 => (f1 4 1 = 0 ∧ f1 4 6 = 0 ∧ f1 4 7 = 0))) 0 0 (sgA 52 h sz) := by
  refine sg_ofWv (cc := cX5_write) (maxL := 2) RX5 (by decide) rfl rfl (Nat.le_of_ble_eq_true rfl) ?_
  intro p e s m below meth cd Qz ls hx hb hml hown hts hK hZ hP hS hl hret
  have hA := sgY.self (n := 52) (h := h) (sz := s.heap.size)
  have hl : lv_has ls 2 [(0, .ref (h 4)), (1, .int 59)] := hl
  obtain ⟨H, hH⟩ : ∃ z : Heap, z = s.heap := ⟨_, rfl⟩
  obtain ⟨locs, hlo⟩ : ∃ z : List Loc, z = [] := ⟨_, rfl⟩
  have hP : va_P D vwCl (sgw 52 h (eX ca h) f L Q) H := by rw [hH]; exact hP
  have hS : va_S (sgA 52 h s.heap.size) s.heap H locs := by rw [hH, hlo]; exact hS
  suffices hgo : W p l e ({ frames := 0, cells := 0, slots := 0, locals := 0 }) s m ([.ref (h 4), .int 59] : List Value).toArray below meth cd H locs 0 0 Qz (F0 m 0 ls []) by rw [hH, hlo] at hgo; exact hgo
  refine lv_aload_n hx hb dX5_write_0 rfl (lv_at hl 0 rfl) ?_
  refine sg_get (ci := 5) (v := .int 0) (C := RX5) (T := TX5) (N := 10) hx hb hts (fun w h => List.mem_cons_of_mem _ (gx_5 w h)) hown hK hP 4 (by decide) rfl rfl 8 (by decide) (hts _ (List.mem_cons_of_mem _ mw_108)) (fun _ h9 => h9) (congrArg (fun z => some (Value.int z)) (show f 4 8 = 0 from h8)) dX5_write_1 ?_
  refine lv_aload_n hx hb dX5_write_4 rfl (lv_at hl 0 rfl) ?_
  refine sg_get (ci := 5) (v := .ref (h 6)) (C := RX5) (T := TX5) (N := 10) hx hb hts (fun w h => List.mem_cons_of_mem _ (gx_5 w h)) hown hK hP 4 (by decide) rfl rfl 3 (by decide) (hts _ (List.mem_cons_of_mem _ mw_109)) (fun _ h9 => h9) rfl dX5_write_5 ?_
  refine sg_alen hx hb hK hP 6 (by decide) 0 rfl rfl (v := 121) rfl dX5_write_8 ?_
  refine lv_icmp_ge (tgt := 32) hx hb dX5_write_9 (by decide) (fun c => absurd c (by decide)) (fun c => ?_)
  refine lv_aload_n hx hb dX5_write_12 rfl (lv_at hl 0 rfl) ?_
  refine sg_get (ci := 5) (v := .ref (h 6)) (C := RX5) (T := TX5) (N := 10) hx hb hts (fun w h => List.mem_cons_of_mem _ (gx_5 w h)) hown hK hP 4 (by decide) rfl rfl 3 (by decide) (hts _ (List.mem_cons_of_mem _ mw_109)) (fun _ h9 => h9) rfl dX5_write_13 ?_
  refine lv_aload_n hx hb dX5_write_16 rfl (lv_at hl 0 rfl) ?_
  refine sg_get (ci := 5) (v := .int 0) (C := RX5) (T := TX5) (N := 10) hx hb hts (fun w h => List.mem_cons_of_mem _ (gx_5 w h)) hown hK hP 4 (by decide) rfl rfl 8 (by decide) (hts _ (List.mem_cons_of_mem _ mw_108)) (fun _ h9 => h9) (congrArg (fun z => some (Value.int z)) (show f 4 8 = 0 from h8)) dX5_write_17 ?_
  refine lv_iload_n hx hb dX5_write_20 rfl (lv_at hl 1 rfl) ?_
  refine sg_iast hx hb hh hA hK hP hS 6 (by decide) 0 (fun _ => rfl) rfl (i := 0) (x := 59) (vp_in_iff.mpr (by decide)) dX5_write_21 (fun f_1 H locs ef_1 hP hS => ?_)
  refine lv_aload_n hx hb dX5_write_22 rfl (lv_at hl 0 rfl) ?_
  refine lv_dup hx hb dX5_write_23 rfl ?_
  refine sg_get (ci := 5) (v := .int 0) (C := RX5) (T := TX5) (N := 10) hx hb hts (fun w h => List.mem_cons_of_mem _ (gx_5 w h)) hown hK hP 4 (by decide) rfl rfl 8 (by decide) (hts _ (List.mem_cons_of_mem _ mw_108)) (fun _ h9 => h9) (congrArg (fun z => some (Value.int z)) (show f_1 4 8 = 0 from (by rw [ef_1]; exact (show _ = _ from h8)))) dX5_write_24 ?_
  refine lv_iconst (v := 1) hx hb dX5_write_27 (by decide) ?_
  refine lv_iadd hx hb dX5_write_28 ?_
  refine W.eq (g2 := F0 m 29 ls [.int 1, .ref (h 4)]) (by rw [show (0 + 1 : Int32) = 1 from by decide]) ?_
  refine sg_put (ci := 5) (x := 1) (ty := .int) (C := RX5) (T := TX5) (N := 10) hx hb hts (fun w h => List.mem_cons_of_mem _ (gx_5 w h)) tyX5 tyX5_ok nmX5 hown hh hA hK hP hS 4 (by decide) rfl rfl 8 (by decide) (hts _ (List.mem_cons_of_mem _ mw_108)) (fun _ h9 => h9) rfl rfl (by decide +kernel) rfl rfl (Nat.le_of_ble_eq_true rfl) dX5_write_29 (fun f_2 H locs ef_2 hP hS => ?_)
  exact hret _ _ _ _ f_2 L Q dX5_write_32 hP hS ⟨(show _ = _ from (by rw [ef_2]; exact (show _ = _ from (by rw [ef_1]; exact (show _ = _ from h1))))), (show _ = _ from (by rw [ef_2]; exact (show _ = _ from (by rw [ef_1]; exact (show _ = _ from h6))))), (show _ = _ from (by rw [ef_2]; exact (show _ = _ from (by rw [ef_1]; exact (show _ = _ from h7)))))⟩

set_option maxHeartbeats 4000000 in
set_option maxRecDepth 100000 in
theorem cf_X5_line (l : Launch) (D : va_G) (ca : Nat → ClassId) (za h : Nat → Nat) (hh : sgH 52 h) (f : sg_F) (L : sg_L) (Q : sg_Q) (h1 : f 4 1 = 0) (h6 : f 4 6 = 0) (h8 : f 4 8 = 0) (h7 : f 4 7 = (-1)) (sz : Nat) : Met l yX5_line gwX5_line { frames := 7, cells := 0, slots := 0, locals := 154 } (sgP D vwCl (tyX ca) 52 h (eX ca h) zcX za f L Q sz [.ref (h 4)]) (sgQv D vwCl 52 h (eX ca h) sz (fun f1 L1 Q1 => (f1 4 1 = 0 ∧ f1 4 6 = 0 ∧ f1 4 7 = 0))) 0 0 (sgA 52 h sz) := by
  refine sg_ofWv (cc := cX5_line) (maxL := 1) RX5 (by decide) rfl rfl (Nat.le_of_ble_eq_true rfl) ?_
  intro p e s m below meth cd Qz ls hx hb hml hown hts hK hZ hP hS hl hret
  have hA := sgY.self (n := 52) (h := h) (sz := s.heap.size)
  have hl : lv_has ls 1 [(0, .ref (h 4))] := hl
  obtain ⟨H, hH⟩ : ∃ z : Heap, z = s.heap := ⟨_, rfl⟩
  obtain ⟨locs, hlo⟩ : ∃ z : List Loc, z = [] := ⟨_, rfl⟩
  have hP : va_P D vwCl (sgw 52 h (eX ca h) f L Q) H := by rw [hH]; exact hP
  have hS : va_S (sgA 52 h s.heap.size) s.heap H locs := by rw [hH, hlo]; exact hS
  suffices hgo : W p l e ({ frames := 7, cells := 0, slots := 0, locals := 154 }) s m ([.ref (h 4)] : List Value).toArray below meth cd H locs 0 0 Qz (F0 m 0 ls []) by rw [hH, hlo] at hgo; exact hgo
  refine lv_aload_n hx hb dX5_line_0 rfl (lv_at hl 0 rfl) ?_
  refine lv_iconst (v := 0) hx hb dX5_line_1 (by decide) ?_
  refine sg_callv (va_runV (As := [.int 0]) (rest := []) ⟨hx, hb, hml, hown, hts⟩ (cf_X5_either l D ca za h hh f L Q (h1) (h6) (h8) (h7) H.size) (cwV 1 hts (gw_V (fun _ h => List.mem_cons_of_mem _ h) mw_111 mw_112 mw_113 mw_71 mw_110) rfl rfl rfl (by decide +kernel) ⟨Nat.le_of_ble_eq_true rfl, Nat.le_of_ble_eq_true rfl⟩) (sg_preV (ci := 5) (C := RX5) (T := TX5) (N := 10) hA hK hP hS hZ 4 (by decide) rfl rfl) rfl rfl hl.1 rfl (lv_room (Nat.le_of_ble_eq_true rfl)) dX5_line_2 ⟨Nat.le_refl _, Nat.le_refl _⟩) hA hS (fun f_1 L_2 Q_3 H locs hq hP hS => ?_)
  obtain ⟨h_4, h_5, h_6, h_7⟩ := hq
  refine lv_aload_n hx hb dX5_line_5 rfl (lv_at hl 0 rfl) ?_
  refine sg_calli (va_runV (As := []) (rest := []) ⟨hx, hb, hml, hown, hts⟩ (cf_X5_next_b l D ca za h hh f_1 L_2 Q_3 (h_4) (h_5) (h_7) (h_6) H.size) (cwV 0 hts (gw_V (fun _ h => List.mem_cons_of_mem _ h) mw_75 mw_76 mw_77 mw_71 mw_74) rfl rfl rfl (by decide +kernel) ⟨Nat.le_of_ble_eq_true rfl, Nat.le_of_ble_eq_true rfl⟩) (sg_preV (ci := 5) (C := RX5) (T := TX5) (N := 10) hA hK hP hS hZ 4 (by decide) rfl rfl) rfl rfl hl.1 rfl (lv_room (Nat.le_of_ble_eq_true rfl)) dX5_line_6 ⟨Nat.le_refl _, Nat.le_refl _⟩) hA hS (fun r_11 f_8 L_9 Q_10 H locs hq hP hS => ?_)
  obtain ⟨⟨ef9, eL9, eQ9⟩, hq⟩ := hq
  rw [ef9, eL9, eQ9] at hP; clear ef9 eL9 eQ9
  obtain ⟨rfl, hq⟩ := hq
  have q_12 := hq
  refine lv_bipush (v := 63) hx hb dX5_line_9 (by decide) ?_
  refine lv_icmp_ne (tgt := 35) hx hb dX5_line_11 (by decide) (fun c => ?_) (fun c => absurd c (by decide))
  refine lv_aload_n hx hb dX5_line_35 rfl (lv_at hl 0 rfl) ?_
  refine lv_bipush (v := 59) hx hb dX5_line_36 (by decide) ?_
  refine sg_callv (va_runV (As := [.int 59]) (rest := []) ⟨hx, hb, hml, hown, hts⟩ (cf_X5_write l D ca za h hh f_1 L_2 Q_3 (h_4) (h_5) (h_7) (h_6) H.size) (cwV 1 hts (gw_V (fun _ h => List.mem_cons_of_mem _ h) mw_115 mw_116 mw_117 mw_71 mw_114) rfl rfl rfl (by decide +kernel) ⟨Nat.le_of_ble_eq_true rfl, Nat.le_of_ble_eq_true rfl⟩) (sg_preV (ci := 5) (C := RX5) (T := TX5) (N := 10) hA hK hP hS hZ 4 (by decide) rfl rfl) rfl rfl hl.1 rfl (lv_room (Nat.le_of_ble_eq_true rfl)) dX5_line_38 ⟨Nat.le_refl _, Nat.le_refl _⟩) hA hS (fun f_13 L_14 Q_15 H locs hq hP hS => ?_)
  obtain ⟨h_16, h_17, h_18⟩ := hq
  exact hret _ _ _ _ f_13 L_14 Q_15 dX5_line_41 hP hS ⟨(show _ = _ from h_16), (show _ = _ from h_17), (show _ = _ from h_18)⟩

set_option maxHeartbeats 4000000 in
set_option maxRecDepth 100000 in
theorem cf_X5_next_c (l : Launch) (D : va_G) (ca : Nat → ClassId) (za h : Nat → Nat) (hh : sgH 52 h) (f : sg_F) (L : sg_L) (Q : sg_Q) (h1 : f 4 1 = 0) (h6 : f 4 6 = 0) (h7 : f 4 7 = 0) (sz : Nat) : Met l yX5_next gwX5_next { frames := 0, cells := 0, slots := 0, locals := 0 } (sgP D vwCl (tyX ca) 52 h (eX ca h) zcX za f L Q sz [.ref (h 4)]) (sgQi D vwCl 52 h (eX ca h) sz (fun r f1 L1 Q1 => (f1 = f ∧ L1 = L ∧ Q1 = Q) ∧ ((r = (-1) ∧ (True))))) 0 0 (sgA 52 h sz) := by
  refine sg_ofWi (cc := cX5_next) (maxL := 1) RX5 (by decide) rfl rfl (Nat.le_of_ble_eq_true rfl) ?_
  intro p e s m below meth cd Qz ls hx hb hml hown hts hK hZ hP hS hl hret
  have hA := sgY.self (n := 52) (h := h) (sz := s.heap.size)
  have hl : lv_has ls 1 [(0, .ref (h 4))] := hl
  obtain ⟨H, hH⟩ : ∃ z : Heap, z = s.heap := ⟨_, rfl⟩
  obtain ⟨locs, hlo⟩ : ∃ z : List Loc, z = [] := ⟨_, rfl⟩
  have hP : va_P D vwCl (sgw 52 h (eX ca h) f L Q) H := by rw [hH]; exact hP
  have hS : va_S (sgA 52 h s.heap.size) s.heap H locs := by rw [hH, hlo]; exact hS
  suffices hgo : W p l e ({ frames := 0, cells := 0, slots := 0, locals := 0 }) s m ([.ref (h 4)] : List Value).toArray below meth cd H locs 0 0 Qz (F0 m 0 ls []) by rw [hH, hlo] at hgo; exact hgo
  refine lv_aload_n hx hb dX5_next_0 rfl (lv_at hl 0 rfl) ?_
  refine sg_get (ci := 5) (v := .int 0) (C := RX5) (T := TX5) (N := 10) hx hb hts (fun w h => List.mem_cons_of_mem _ (gx_5 w h)) hown hK hP 4 (by decide) rfl rfl 7 (by decide) (hts _ (List.mem_cons_of_mem _ mw_72)) (fun _ h9 => h9) (congrArg (fun z => some (Value.int z)) (show f 4 7 = 0 from h7)) dX5_next_1 ?_
  refine lv_if_ge (tgt := 30) hx hb dX5_next_4 (by decide) (fun c => ?_) (fun c => absurd c (by decide))
  refine lv_iconst (v := (-1)) hx hb dX5_next_30 (by decide) ?_
  exact hret _ _ _ _ (-1) f L Q dX5_next_31 hP hS ⟨⟨rfl, rfl, rfl⟩, ⟨rfl, trivial⟩⟩

set_option maxHeartbeats 4000000 in
set_option maxRecDepth 100000 in
theorem cf_X5_lines (l : Launch) (D : va_G) (ca : Nat → ClassId) (za h : Nat → Nat) (hh : sgH 52 h) (f : sg_F) (L : sg_L) (Q : sg_Q) (h1 : f 4 1 = 0) (h6 : f 4 6 = 0) (h8 : f 4 8 = 0) (h7 : f 4 7 = (-1)) (sz : Nat) : Met l yX5_lines gwX5_lines { frames := 8, cells := 0, slots := 0, locals := 174 } (sgP D vwCl (tyX ca) 52 h (eX ca h) zcX za f L Q sz [.ref (h 4)]) (sgQv D vwCl 52 h (eX ca h) sz (fun f1 L1 Q1 => (f1 4 1 = 0 ∧ f1 4 6 = 0 ∧ f1 4 7 = 0))) 0 0 (sgA 52 h sz) := by
  refine sg_ofWv (cc := cX5_lines) (maxL := 2) RX5 (by decide) rfl rfl (Nat.le_of_ble_eq_true rfl) ?_
  intro p e s m below meth cd Qz ls hx hb hml hown hts hK hZ hP hS hl hret
  have hA := sgY.self (n := 52) (h := h) (sz := s.heap.size)
  have hl : lv_has ls 2 [(0, .ref (h 4))] := hl
  obtain ⟨H, hH⟩ : ∃ z : Heap, z = s.heap := ⟨_, rfl⟩
  obtain ⟨locs, hlo⟩ : ∃ z : List Loc, z = [] := ⟨_, rfl⟩
  have hP : va_P D vwCl (sgw 52 h (eX ca h) f L Q) H := by rw [hH]; exact hP
  have hS : va_S (sgA 52 h s.heap.size) s.heap H locs := by rw [hH, hlo]; exact hS
  suffices hgo : W p l e ({ frames := 8, cells := 0, slots := 0, locals := 174 }) s m ([.ref (h 4)] : List Value).toArray below meth cd H locs 0 0 Qz (F0 m 0 ls []) by rw [hH, hlo] at hgo; exact hgo
  refine lv_aload_n hx hb dX5_lines_0 rfl (lv_at hl 0 rfl) ?_
  refine sg_callv (va_runV (As := []) (rest := []) ⟨hx, hb, hml, hown, hts⟩ (cf_X5_line l D ca za h hh f L Q (h1) (h6) (h8) (h7) H.size) (cwV 0 hts (gw_V (fun _ h => List.mem_cons_of_mem _ h) mw_119 mw_120 mw_121 mw_71 mw_118) rfl rfl rfl (by decide +kernel) ⟨Nat.le_of_ble_eq_true rfl, Nat.le_of_ble_eq_true rfl⟩) (sg_preV (ci := 5) (C := RX5) (T := TX5) (N := 10) hA hK hP hS hZ 4 (by decide) rfl rfl) rfl rfl hl.1 rfl (lv_room (Nat.le_of_ble_eq_true rfl)) dX5_lines_1 ⟨Nat.le_refl _, Nat.le_refl _⟩) hA hS (fun f_1 L_2 Q_3 H locs hq hP hS => ?_)
  obtain ⟨h_4, h_5, h_6⟩ := hq
  refine lv_iconst (v := 0) hx hb dX5_lines_4 (by decide) ?_
  refine lv_istore_n (lv' := [(1, .int 0), (0, .ref (h 4))]) hx hb dX5_lines_5 rfl hl (by decide) rfl (fun ls hl => ?_)
  refine lv_iload_n hx hb dX5_lines_6 rfl (lv_at hl 0 rfl) ?_
  refine lv_bipush (v := 120) hx hb dX5_lines_7 (by decide) ?_
  refine lv_icmp_ge (tgt := 41) hx hb dX5_lines_9 (by decide) (fun c => absurd c (by decide)) (fun c => ?_)
  refine lv_aload_n hx hb dX5_lines_12 rfl (lv_at hl 1 rfl) ?_
  refine sg_calli (va_runV (As := []) (rest := []) ⟨hx, hb, hml, hown, hts⟩ (cf_X5_next_c l D ca za h hh f_1 L_2 Q_3 (h_4) (h_5) (h_6) H.size) (cwV 0 hts (gw_V (fun _ h => List.mem_cons_of_mem _ h) mw_75 mw_76 mw_77 mw_71 mw_74) rfl rfl rfl (by decide +kernel) ⟨Nat.le_of_ble_eq_true rfl, Nat.le_of_ble_eq_true rfl⟩) (sg_preV (ci := 5) (C := RX5) (T := TX5) (N := 10) hA hK hP hS hZ 4 (by decide) rfl rfl) rfl rfl hl.1 rfl (lv_room (Nat.le_of_ble_eq_true rfl)) dX5_lines_13 ⟨Nat.le_refl _, Nat.le_refl _⟩) hA hS (fun r_10 f_7 L_8 Q_9 H locs hq hP hS => ?_)
  obtain ⟨⟨ef9, eL9, eQ9⟩, hq⟩ := hq
  rw [ef9, eL9, eQ9] at hP; clear ef9 eL9 eQ9
  obtain ⟨rfl, hq⟩ := hq
  have q_11 := hq
  refine lv_bipush (v := 59) hx hb dX5_lines_16 (by decide) ?_
  refine lv_icmp_ne (tgt := 41) hx hb dX5_lines_18 (by decide) (fun c => ?_) (fun c => absurd c (by decide))
  refine lv_aload_n hx hb dX5_lines_41 rfl (lv_at hl 1 rfl) ?_
  refine sg_get (ci := 5) (v := .int 0) (C := RX5) (T := TX5) (N := 10) hx hb hts (fun w h => List.mem_cons_of_mem _ (gx_5 w h)) hown hK hP 4 (by decide) rfl rfl 6 (by decide) (hts _ (List.mem_cons_of_mem _ mw_73)) (fun _ h9 => h9) (congrArg (fun z => some (Value.int z)) (show f_1 4 6 = 0 from h_5)) dX5_lines_42 ?_
  refine lv_aload_n hx hb dX5_lines_45 rfl (lv_at hl 1 rfl) ?_
  refine sg_get (ci := 5) (v := .int 0) (C := RX5) (T := TX5) (N := 10) hx hb hts (fun w h => List.mem_cons_of_mem _ (gx_5 w h)) hown hK hP 4 (by decide) rfl rfl 1 (by decide) (hts _ (List.mem_cons_of_mem _ mw_64)) (fun _ h9 => h9) (congrArg (fun z => some (Value.int z)) (show f_1 4 1 = 0 from h_4)) dX5_lines_46 ?_
  refine lv_icmp_ge (tgt := 56) hx hb dX5_lines_49 (by decide) (fun c => ?_) (fun c => absurd c (by decide))
  exact hret _ _ _ _ f_1 L_2 Q_3 dX5_lines_56 hP hS ⟨(show _ = _ from h_4), (show _ = _ from h_5), (show _ = _ from h_6)⟩

set_option maxHeartbeats 4000000 in
set_option maxRecDepth 100000 in
theorem cf_X5_isRead (l : Launch) (D : va_G) (ca : Nat → ClassId) (za h : Nat → Nat) (hh : sgH 52 h)  (sz : Nat) : Met l yX5_isRead gwX5_isRead { frames := 9, cells := 0, slots := 0, locals := 195 } (sgP D vwCl (tyX ca) 52 h (eX ca h) zcX za f0X L0 Q0 sz [.ref (h 4)]) (sgQi D vwCl 52 h (eX ca h) sz (fun r f1 L1 Q1 => True ∧ ((r = (-100) ∧ (True))))) 0 0 (sgA 52 h sz) := by
  refine sg_ofWi (cc := cX5_isRead) (maxL := 1) RX5 (by decide) rfl rfl (Nat.le_of_ble_eq_true rfl) ?_
  intro p e s m below meth cd Qz ls hx hb hml hown hts hK hZ hP hS hl hret
  have hA := sgY.self (n := 52) (h := h) (sz := s.heap.size)
  have hl : lv_has ls 1 [(0, .ref (h 4))] := hl
  obtain ⟨H, hH⟩ : ∃ z : Heap, z = s.heap := ⟨_, rfl⟩
  obtain ⟨locs, hlo⟩ : ∃ z : List Loc, z = [] := ⟨_, rfl⟩
  have hP : va_P D vwCl (sgw 52 h (eX ca h) f0X L0 Q0) H := by rw [hH]; exact hP
  have hS : va_S (sgA 52 h s.heap.size) s.heap H locs := by rw [hH, hlo]; exact hS
  suffices hgo : W p l e ({ frames := 9, cells := 0, slots := 0, locals := 195 }) s m ([.ref (h 4)] : List Value).toArray below meth cd H locs 0 0 Qz (F0 m 0 ls []) by rw [hH, hlo] at hgo; exact hgo
  refine lv_aload_n hx hb dX5_isRead_0 rfl (lv_at hl 0 rfl) ?_
  refine lv_iconst (v := 0) hx hb dX5_isRead_1 (by decide) ?_
  refine sg_put (ci := 5) (x := 0) (ty := .int) (C := RX5) (T := TX5) (N := 10) hx hb hts (fun w h => List.mem_cons_of_mem _ (gx_5 w h)) tyX5 tyX5_ok nmX5 hown hh hA hK hP hS 4 (by decide) rfl rfl 6 (by decide) (hts _ (List.mem_cons_of_mem _ mw_73)) (fun _ h9 => h9) rfl rfl (by decide +kernel) rfl rfl (Nat.le_of_ble_eq_true rfl) dX5_isRead_2 (fun f_1 H locs ef_1 hP hS => ?_)
  refine lv_aload_n hx hb dX5_isRead_5 rfl (lv_at hl 0 rfl) ?_
  refine lv_iconst (v := (-1)) hx hb dX5_isRead_6 (by decide) ?_
  refine sg_put (ci := 5) (x := (-1)) (ty := .int) (C := RX5) (T := TX5) (N := 10) hx hb hts (fun w h => List.mem_cons_of_mem _ (gx_5 w h)) tyX5 tyX5_ok nmX5 hown hh hA hK hP hS 4 (by decide) rfl rfl 7 (by decide) (hts _ (List.mem_cons_of_mem _ mw_72)) (fun _ h9 => h9) rfl rfl (by decide +kernel) rfl rfl (Nat.le_of_ble_eq_true rfl) dX5_isRead_7 (fun f_2 H locs ef_2 hP hS => ?_)
  refine lv_aload_n hx hb dX5_isRead_10 rfl (lv_at hl 0 rfl) ?_
  refine lv_iconst (v := 0) hx hb dX5_isRead_11 (by decide) ?_
  refine sg_put (ci := 5) (x := 0) (ty := .int) (C := RX5) (T := TX5) (N := 10) hx hb hts (fun w h => List.mem_cons_of_mem _ (gx_5 w h)) tyX5 tyX5_ok nmX5 hown hh hA hK hP hS 4 (by decide) rfl rfl 8 (by decide) (hts _ (List.mem_cons_of_mem _ mw_108)) (fun _ h9 => h9) rfl rfl (by decide +kernel) rfl rfl (Nat.le_of_ble_eq_true rfl) dX5_isRead_12 (fun f_3 H locs ef_3 hP hS => ?_)
  refine lv_aload_n hx hb dX5_isRead_15 rfl (lv_at hl 0 rfl) ?_
  refine sg_callv (va_runV (As := []) (rest := []) ⟨hx, hb, hml, hown, hts⟩ (cf_X5_lines l D ca za h hh f_3 L0 Q0 ((by rw [ef_3]; exact (show _ = _ from (by rw [ef_2]; exact (show _ = _ from (by rw [ef_1]; exact rfl)))))) ((by rw [ef_3]; exact (show _ = _ from (by rw [ef_2]; exact (show _ = _ from (by rw [ef_1]; rfl)))))) ((by rw [ef_3]; rfl)) ((by rw [ef_3]; exact (show _ = _ from (by rw [ef_2]; rfl)))) H.size) (cwV 0 hts (gw_V (fun _ h => List.mem_cons_of_mem _ h) mw_123 mw_124 mw_125 mw_71 mw_122) rfl rfl rfl (by decide +kernel) ⟨Nat.le_of_ble_eq_true rfl, Nat.le_of_ble_eq_true rfl⟩) (sg_preV (ci := 5) (C := RX5) (T := TX5) (N := 10) hA hK hP hS hZ 4 (by decide) rfl rfl) rfl rfl hl.1 rfl (lv_room (Nat.le_of_ble_eq_true rfl)) dX5_isRead_16 ⟨Nat.le_refl _, Nat.le_refl _⟩) hA hS (fun f_4 L_5 Q_6 H locs hq hP hS => ?_)
  obtain ⟨h_7, h_8, h_9⟩ := hq
  refine lv_aload_n hx hb dX5_isRead_19 rfl (lv_at hl 0 rfl) ?_
  refine lv_iconst (v := 0) hx hb dX5_isRead_20 (by decide) ?_
  refine sg_put (ci := 5) (x := 0) (ty := .int) (C := RX5) (T := TX5) (N := 10) hx hb hts (fun w h => List.mem_cons_of_mem _ (gx_5 w h)) tyX5 tyX5_ok nmX5 hown hh hA hK hP hS 4 (by decide) rfl rfl 1 (by decide) (hts _ (List.mem_cons_of_mem _ mw_64)) (fun _ h9 => h9) rfl rfl (by decide +kernel) rfl rfl (Nat.le_of_ble_eq_true rfl) dX5_isRead_21 (fun f_10 H locs ef_10 hP hS => ?_)
  refine lv_aload_n hx hb dX5_isRead_24 rfl (lv_at hl 0 rfl) ?_
  refine sg_get (ci := 5) (v := .int 0) (C := RX5) (T := TX5) (N := 10) hx hb hts (fun w h => List.mem_cons_of_mem _ (gx_5 w h)) hown hK hP 4 (by decide) rfl rfl 7 (by decide) (hts _ (List.mem_cons_of_mem _ mw_72)) (fun _ h9 => h9) (congrArg (fun z => some (Value.int z)) (show f_10 4 7 = 0 from (by rw [ef_10]; exact (show _ = _ from h_9)))) dX5_isRead_25 ?_
  refine lv_if_lt (tgt := 39) hx hb dX5_isRead_28 (by decide) (fun c => absurd c (by decide)) (fun c => ?_)
  refine lv_bipush (v := (-100)) hx hb dX5_isRead_31 (by decide) ?_
  refine lv_aload_n hx hb dX5_isRead_33 rfl (lv_at hl 0 rfl) ?_
  refine sg_get (ci := 5) (v := .int 0) (C := RX5) (T := TX5) (N := 10) hx hb hts (fun w h => List.mem_cons_of_mem _ (gx_5 w h)) hown hK hP 4 (by decide) rfl rfl 7 (by decide) (hts _ (List.mem_cons_of_mem _ mw_72)) (fun _ h9 => h9) (congrArg (fun z => some (Value.int z)) (show f_10 4 7 = 0 from (by rw [ef_10]; exact (show _ = _ from h_9)))) dX5_isRead_34 ?_
  refine lv_isub hx hb dX5_isRead_37 ?_
  refine W.eq (g2 := F0 m 38 ls [.int (-100)]) (by rw [show ((-100) - 0 : Int32) = (-100) from by decide]) ?_
  exact hret _ _ _ _ (-100) f_10 L_5 Q_6 dX5_isRead_38 hP hS ⟨trivial, ⟨rfl, trivial⟩⟩

set_option maxHeartbeats 4000000 in
set_option maxRecDepth 100000 in
theorem cf_X11_law (l : Launch) (D : va_G) (ca : Nat → ClassId) (za h : Nat → Nat) (hh : sgH 52 h)  (sz : Nat) : Met l yX11_law gwX11_law { frames := 10, cells := 0, slots := 0, locals := 215 } (sgP D vwCl (tyX ca) 52 h (eX ca h) zcX za f0X L0 Q0 sz [.ref (h 0)]) (sgQi D vwCl 52 h (eX ca h) sz (fun r f1 L1 Q1 => True ∧ ((r = (-100) ∧ (True))))) 0 0 (sgA 52 h sz) := by
  refine sg_ofWi (cc := cX11_law) (maxL := 2) RX11 (by decide) rfl rfl (Nat.le_of_ble_eq_true rfl) ?_
  intro p e s m below meth cd Qz ls hx hb hml hown hts hK hZ hP hS hl hret
  have hA := sgY.self (n := 52) (h := h) (sz := s.heap.size)
  have hl : lv_has ls 2 [(0, .ref (h 0))] := hl
  obtain ⟨H, hH⟩ : ∃ z : Heap, z = s.heap := ⟨_, rfl⟩
  obtain ⟨locs, hlo⟩ : ∃ z : List Loc, z = [] := ⟨_, rfl⟩
  have hP : va_P D vwCl (sgw 52 h (eX ca h) f0X L0 Q0) H := by rw [hH]; exact hP
  have hS : va_S (sgA 52 h s.heap.size) s.heap H locs := by rw [hH, hlo]; exact hS
  suffices hgo : W p l e ({ frames := 10, cells := 0, slots := 0, locals := 215 }) s m ([.ref (h 0)] : List Value).toArray below meth cd H locs 0 0 Qz (F0 m 0 ls []) by rw [hH, hlo] at hgo; exact hgo
  refine lv_aload_n hx hb dX11_law_0 rfl (lv_at hl 0 rfl) ?_
  refine sg_get (ci := 11) (v := .ref (h 1)) (C := RX11) (T := TX11) (N := 10) hx hb hts (fun w h => List.mem_cons_of_mem _ (gx_11 w h)) hown hK hP 0 (by decide) rfl rfl 0 (by decide) (hts _ (List.mem_cons_of_mem _ mw_10)) (fun _ h9 => h9) rfl dX11_law_1 ?_
  refine sg_get (ci := 0) (v := .ref (h 4)) (C := RX0) (T := TX0) (N := 5) hx hb hts (fun w h => List.mem_cons_of_mem _ (gx_0 w h)) hown hK hP 1 (by decide) rfl rfl 2 (by decide) (hts _ (List.mem_cons_of_mem _ mw_66)) (fun _ h9 => h9) rfl dX11_law_4 ?_
  refine sg_calli (va_runV (As := []) (rest := []) ⟨hx, hb, hml, hown, hts⟩ (cf_X5_isRead l D ca za h hh H.size) (cwV 0 hts (gw_V (fun _ h => List.mem_cons_of_mem _ h) mw_127 mw_128 mw_129 mw_71 mw_126) rfl rfl rfl (by decide +kernel) ⟨Nat.le_of_ble_eq_true rfl, Nat.le_of_ble_eq_true rfl⟩) (sg_preV (ci := 5) (C := RX5) (T := TX5) (N := 10) hA hK hP hS hZ 4 (by decide) rfl rfl) rfl rfl hl.1 rfl (lv_room (Nat.le_of_ble_eq_true rfl)) dX11_law_7 ⟨Nat.le_refl _, Nat.le_refl _⟩) hA hS (fun r_4 f_1 L_2 Q_3 H locs hq hP hS => ?_)
  obtain ⟨-, hq⟩ := hq
  obtain ⟨rfl, hq⟩ := hq
  have q_5 := hq
  refine lv_istore_n (lv' := [(1, .int (-100)), (0, .ref (h 0))]) hx hb dX11_law_10 rfl hl (by decide) rfl (fun ls hl => ?_)
  refine lv_iload_n hx hb dX11_law_11 rfl (lv_at hl 0 rfl) ?_
  refine lv_iconst (v := 1) hx hb dX11_law_12 (by decide) ?_
  refine lv_icmp_ne (tgt := 23) hx hb dX11_law_13 (by decide) (fun c => ?_) (fun c => absurd c (by decide))
  refine lv_iload_n hx hb dX11_law_23 rfl (lv_at hl 0 rfl) ?_
  exact hret _ _ _ _ (-100) f_1 L_2 Q_3 dX11_law_24 hP hS ⟨trivial, ⟨rfl, trivial⟩⟩

set_option maxHeartbeats 4000000 in
set_option maxRecDepth 100000 in
theorem cf_X2_turns (l : Launch) (D : va_G) (ca : Nat → ClassId) (za h : Nat → Nat) (hh : sgH 52 h) (x0 : Int32) (x1 : Int32) (b0 : 0 ≤ x0.toInt ∧ x0.toInt ≤ 2) (b1 : 0 ≤ x1.toInt ∧ x1.toInt ≤ 60) (sz : Nat) : Met l yX2_turns gwX2_turns { frames := 1, cells := 0, slots := 0, locals := 21 } (sgP D vwCl (tyX ca) 52 h (eX ca h) zcX za f0X L0 Q0 sz [.ref (h 28), .int x0, .int x1]) (sgQi D vwCl 52 h (eX ca h) sz (fun r f1 L1 Q1 => True ∧ (((30 ≤ x1.toInt ∧ r.toInt = x1.toInt - 30) ∨ (x1.toInt < 30 ∧ r.toInt = 30 - x1.toInt))))) 0 0 (sgA 52 h sz) := by
  refine sg_ofWi (cc := cX2_turns) (maxL := 4) RX2 (by decide) rfl rfl (Nat.le_of_ble_eq_true rfl) ?_
  intro p e s m below meth cd Qz ls hx hb hml hown hts hK hZ hP hS hl hret
  have hA := sgY.self (n := 52) (h := h) (sz := s.heap.size)
  have hl : lv_has ls 4 [(0, .ref (h 28)), (1, .int x0), (2, .int x1)] := hl
  obtain ⟨H, hH⟩ : ∃ z : Heap, z = s.heap := ⟨_, rfl⟩
  obtain ⟨locs, hlo⟩ : ∃ z : List Loc, z = [] := ⟨_, rfl⟩
  have hP : va_P D vwCl (sgw 52 h (eX ca h) f0X L0 Q0) H := by rw [hH]; exact hP
  have hS : va_S (sgA 52 h s.heap.size) s.heap H locs := by rw [hH, hlo]; exact hS
  suffices hgo : W p l e ({ frames := 1, cells := 0, slots := 0, locals := 21 }) s m ([.ref (h 28), .int x0, .int x1] : List Value).toArray below meth cd H locs 0 0 Qz (F0 m 0 ls []) by rw [hH, hlo] at hgo; exact hgo
  refine lv_iload_n hx hb dX2_turns_0 rfl (lv_at hl 2 rfl) ?_
  refine lv_aload_n hx hb dX2_turns_1 rfl (lv_at hl 0 rfl) ?_
  refine sg_get (ci := 2) (v := .ref (h 1)) (C := RX2) (T := TX2) (N := 6) hx hb hts (fun w h => List.mem_cons_of_mem _ (gx_2 w h)) hown hK hP 28 (by decide) rfl rfl 0 (by decide) (hts _ (List.mem_cons_of_mem _ mw_130)) (fun _ h9 => h9) rfl dX2_turns_2 ?_
  refine sg_get (ci := 0) (v := .ref (h 3)) (C := RX0) (T := TX0) (N := 5) hx hb hts (fun w h => List.mem_cons_of_mem _ (gx_0 w h)) hown hK hP 1 (by decide) rfl rfl 1 (by decide) (hts _ (List.mem_cons_of_mem _ mw_131)) (fun _ h9 => h9) rfl dX2_turns_5 ?_
  refine lv_iload_n hx hb dX2_turns_8 rfl (lv_at hl 1 rfl) ?_
  refine sg_iald hx hb hK hP 3 (by decide) 0 rfl rfl (i := x0) (vp_in_iff.mpr ⟨by omega, by omega⟩) dX2_turns_9 ?_
  refine lv_topi (fun v_1 ev_1 => ?_)
  have q_2 : v_1.toInt = 30 := by rw [ev_1, f0X_st (by omega) (by omega)]; decide
  refine lv_isub hx hb dX2_turns_10 ?_
  refine lv_topi (fun v_3 ev_3 => ?_)
  have q_4 : v_3.toInt = x1.toInt - v_1.toInt := by rw [ev_3]; exact (bn_subI (by omega) (by omega)).trans (by omega)
  refine va_mabs hx hb (hml.trans hl.1.symm) hown (hts _ (List.mem_cons_of_mem _ mw_132)) (hts _ (List.mem_cons_of_mem _ mw_133)) (hts _ (List.mem_cons_of_mem _ mw_134)) (hts _ (List.mem_cons_of_mem _ mw_135)) (Nat.le_of_ble_eq_true rfl) (Nat.le_of_ble_eq_true rfl) (Nat.le_refl _) (Nat.le_refl _) dX2_turns_11 ?_
  refine lv_topi (fun v_5 ev_5 => ?_)
  have q_6 : (0 ≤ v_3.toInt ∧ v_5.toInt = v_3.toInt) ∨ (v_3.toInt < 0 ∧ v_5.toInt = -v_3.toInt) := by rw [ev_5]; exact bn_absI (by omega)
  refine lv_istore_n (lv' := [(3, .int v_5), (0, .ref (h 28)), (1, .int x0), (2, .int x1)]) hx hb dX2_turns_14 rfl hl (by decide) rfl (fun ls hl => ?_)
  refine lv_aload_n hx hb dX2_turns_15 rfl (lv_at hl 1 rfl) ?_
  refine sg_get (ci := 2) (v := .ref (h 1)) (C := RX2) (T := TX2) (N := 6) hx hb hts (fun w h => List.mem_cons_of_mem _ (gx_2 w h)) hown hK hP 28 (by decide) rfl rfl 0 (by decide) (hts _ (List.mem_cons_of_mem _ mw_130)) (fun _ h9 => h9) rfl dX2_turns_16 ?_
  refine sg_get (ci := 0) (v := .ref (h 3)) (C := RX0) (T := TX0) (N := 5) hx hb hts (fun w h => List.mem_cons_of_mem _ (gx_0 w h)) hown hK hP 1 (by decide) rfl rfl 1 (by decide) (hts _ (List.mem_cons_of_mem _ mw_131)) (fun _ h9 => h9) rfl dX2_turns_19 ?_
  refine lv_iload_n hx hb dX2_turns_22 rfl (lv_at hl 2 rfl) ?_
  refine lv_iload_n hx hb dX2_turns_23 rfl (lv_at hl 3 rfl) ?_
  refine sg_iast hx hb hh hA hK hP hS 3 (by decide) 0 (fun _ => rfl) rfl (i := x0) (x := x1) (vp_in_iff.mpr ⟨by omega, by omega⟩) dX2_turns_24 (fun f_7 H locs ef_7 hP hS => ?_)
  refine lv_aload_n hx hb dX2_turns_25 rfl (lv_at hl 1 rfl) ?_
  refine sg_get (ci := 2) (v := .ref (h 29)) (C := RX2) (T := TX2) (N := 6) hx hb hts (fun w h => List.mem_cons_of_mem _ (gx_2 w h)) hown hK hP 28 (by decide) rfl rfl 2 (by decide) (hts _ (List.mem_cons_of_mem _ mw_136)) (fun _ h9 => h9) rfl dX2_turns_26 ?_
  refine lv_iconst (v := 1) hx hb dX2_turns_29 (by decide) ?_
  refine lv_dup2_11 hx hb dX2_turns_30 rfl rfl ?_
  refine sg_iald hx hb hK hP 29 (by decide) 0 rfl rfl (i := 1) (vp_in_iff.mpr (by decide)) dX2_turns_31 ?_
  refine W.eq (g2 := F0 m 32 ls [.int 0, .int 1, .ref (h 29)]) (by rw [show f_7 29 (Int32.toNatClampNeg 1) = 0 from (by rw [ef_7]; exact rfl)]) ?_
  refine lv_iload_n hx hb dX2_turns_32 rfl (lv_at hl 0 rfl) ?_
  refine lv_iadd hx hb dX2_turns_33 ?_
  refine lv_topi (fun v_8 ev_8 => ?_)
  have q_9 : v_8.toInt = 0 + v_5.toInt := by rw [ev_8]; have k0 : (0 : Int32).toInt = 0 := (by decide); exact (bn_addI (by omega) (by omega)).trans (by omega)
  refine sg_iast hx hb hh hA hK hP hS 29 (by decide) 0 (fun _ => rfl) rfl (i := 1) (x := v_8) (vp_in_iff.mpr (by decide)) dX2_turns_34 (fun f_10 H locs ef_10 hP hS => ?_)
  refine lv_iload_n hx hb dX2_turns_35 rfl (lv_at hl 0 rfl) ?_
  exact hret _ _ _ _ (v_5) f_10 L0 Q0 dX2_turns_36 hP hS ⟨trivial, (by omega)⟩

set_option maxHeartbeats 4000000 in
set_option maxRecDepth 100000 in
theorem cf_X11_set (l : Launch) (D : va_G) (ca : Nat → ClassId) (za h : Nat → Nat) (hh : sgH 52 h) (x0 : Int32) (x1 : Int32) (sz : Nat) : Met l yX11_set gwX11_set { frames := 2, cells := 0, slots := 0, locals := 44 } (sgP D vwCl (tyX ca) 52 h (eX ca h) zcX za f0X L0 Q0 sz [.ref (h 0), .int x0, .int x1]) (sgQi D vwCl 52 h (eX ca h) sz (fun r f1 L1 Q1 => True ∧ (((0 ≤ x0.toInt ∧ x0.toInt ≤ 2) ∧ (0 ≤ x1.toInt ∧ x1.toInt ≤ 60) ∧ ((30 ≤ x1.toInt ∧ r.toInt = x1.toInt - 30) ∨ (x1.toInt < 30 ∧ r.toInt = 30 - x1.toInt))) ∨ (r = (-1) ∧ (¬ ((0 ≤ x0.toInt ∧ x0.toInt ≤ 2) ∧ (0 ≤ x1.toInt ∧ x1.toInt ≤ 60))))))) 0 0 (sgA 52 h sz) := by
  refine sg_ofWi (cc := cX11_set) (maxL := 3) RX11 (by decide) rfl rfl (Nat.le_of_ble_eq_true rfl) ?_
  intro p e s m below meth cd Qz ls hx hb hml hown hts hK hZ hP hS hl hret
  have hA := sgY.self (n := 52) (h := h) (sz := s.heap.size)
  have hl : lv_has ls 3 [(0, .ref (h 0)), (1, .int x0), (2, .int x1)] := hl
  obtain ⟨H, hH⟩ : ∃ z : Heap, z = s.heap := ⟨_, rfl⟩
  obtain ⟨locs, hlo⟩ : ∃ z : List Loc, z = [] := ⟨_, rfl⟩
  have hP : va_P D vwCl (sgw 52 h (eX ca h) f0X L0 Q0) H := by rw [hH]; exact hP
  have hS : va_S (sgA 52 h s.heap.size) s.heap H locs := by rw [hH, hlo]; exact hS
  suffices hgo : W p l e ({ frames := 2, cells := 0, slots := 0, locals := 44 }) s m ([.ref (h 0), .int x0, .int x1] : List Value).toArray below meth cd H locs 0 0 Qz (F0 m 0 ls []) by rw [hH, hlo] at hgo; exact hgo
  refine lv_iload_n hx hb dX11_set_0 rfl (lv_at hl 1 rfl) ?_
  refine sg_calli (va_runS (As := [.int x0]) (rest := []) ⟨hx, hb, hml, hown, hts⟩ (cf_X11_isPart l D ca za h hh f0X L0 Q0 x0 H.size) (va_cwS 1 hts (gw_S (fun _ h => List.mem_cons_of_mem _ h) mw_20 mw_21 mw_9 mw_19) rfl rfl rfl (by decide +kernel) ⟨Nat.le_of_ble_eq_true rfl, Nat.le_of_ble_eq_true rfl⟩) (sg_preS hA hK hP hS hZ) rfl rfl hl.1 rfl (lv_room (Nat.le_of_ble_eq_true rfl)) dX11_set_1 ⟨Nat.le_refl _, Nat.le_refl _⟩) hA hS (fun r_4 f_1 L_2 Q_3 H locs hq hP hS => ?_)
  obtain ⟨⟨ef9, eL9, eQ9⟩, hq⟩ := hq
  rw [ef9, eL9, eQ9] at hP; clear ef9 eL9 eQ9
  rcases hq with ⟨rfl, hq⟩ | ⟨rfl, hq⟩
  · skip
    have q_5 := hq
    refine lv_if_eq (tgt := 26) hx hb dX11_set_4 (by decide) (fun c => absurd c (by decide)) (fun c => ?_)
    refine lv_iload_n hx hb dX11_set_7 rfl (lv_at hl 2 rfl) ?_
    refine sg_calli (va_runS (As := [.int x1]) (rest := []) ⟨hx, hb, hml, hown, hts⟩ (cf_X11_isSetting l D ca za h hh f0X L0 Q0 x1 H.size) (va_cwS 1 hts (gw_S (fun _ h => List.mem_cons_of_mem _ h) mw_23 mw_24 mw_9 mw_22) rfl rfl rfl (by decide +kernel) ⟨Nat.le_of_ble_eq_true rfl, Nat.le_of_ble_eq_true rfl⟩) (sg_preS hA hK hP hS hZ) rfl rfl hl.1 rfl (lv_room (Nat.le_of_ble_eq_true rfl)) dX11_set_8 ⟨Nat.le_refl _, Nat.le_refl _⟩) hA hS (fun r_9 f_6 L_7 Q_8 H locs hq hP hS => ?_)
    obtain ⟨⟨ef9, eL9, eQ9⟩, hq⟩ := hq
    rw [ef9, eL9, eQ9] at hP; clear ef9 eL9 eQ9
    rcases hq with ⟨rfl, hq⟩ | ⟨rfl, hq⟩
    · skip
      have q_10 := hq
      refine lv_if_eq (tgt := 26) hx hb dX11_set_11 (by decide) (fun c => absurd c (by decide)) (fun c => ?_)
      refine lv_aload_n hx hb dX11_set_14 rfl (lv_at hl 0 rfl) ?_
      refine sg_get (ci := 11) (v := .ref (h 28)) (C := RX11) (T := TX11) (N := 10) hx hb hts (fun w h => List.mem_cons_of_mem _ (gx_11 w h)) hown hK hP 0 (by decide) rfl rfl 6 (by decide) (hts _ (List.mem_cons_of_mem _ mw_137)) (fun _ h9 => h9) rfl dX11_set_15 ?_
      refine lv_iload_n hx hb dX11_set_18 rfl (lv_at hl 1 rfl) ?_
      refine lv_iload_n hx hb dX11_set_19 rfl (lv_at hl 2 rfl) ?_
      refine sg_calli (va_runV (As := [.int x0, .int x1]) (rest := []) ⟨hx, hb, hml, hown, hts⟩ (cf_X2_turns l D ca za h hh x0 x1 (by first | omega | decide) (by first | omega | decide) H.size) (cwV 2 hts (gw_V (fun _ h => List.mem_cons_of_mem _ h) mw_139 mw_140 mw_141 mw_142 mw_138) rfl rfl rfl (by decide +kernel) ⟨Nat.le_of_ble_eq_true rfl, Nat.le_of_ble_eq_true rfl⟩) (sg_preV (ci := 2) (C := RX2) (T := TX2) (N := 6) hA hK hP hS hZ 28 (by decide) rfl rfl) rfl rfl hl.1 rfl (lv_room (Nat.le_of_ble_eq_true rfl)) dX11_set_20 ⟨Nat.le_refl _, Nat.le_refl _⟩) hA hS (fun r_14 f_11 L_12 Q_13 H locs hq hP hS => ?_)
      obtain ⟨-, hq⟩ := hq
      skip
      have q_15 := hq
      refine lv_goto (tgt := 27) hx hb dX11_set_23 (by decide) ?_
      exact hret _ _ _ _ (r_14) f_11 L_12 Q_13 dX11_set_27 hP hS ⟨trivial, (by first | exact Or.inl (by omega) | exact Or.inr (⟨Int32.toInt_inj.mp (by have k9 : ((-1) : Int32).toInt = (-1) := (by decide); omega), by omega⟩))⟩
    · skip
      have q_16 := hq
      refine lv_if_eq (tgt := 26) hx hb dX11_set_11 (by decide) (fun c => ?_) (fun c => absurd c (by decide))
      refine lv_iconst (v := (-1)) hx hb dX11_set_26 (by decide) ?_
      exact hret _ _ _ _ (-1) f0X L0 Q0 dX11_set_27 hP hS ⟨trivial, (by first | exact Or.inl (by have k9 : ((-1) : Int32).toInt = (-1) := (by decide); omega) | exact Or.inr (⟨rfl, by omega⟩))⟩
  · skip
    have q_17 := hq
    refine lv_if_eq (tgt := 26) hx hb dX11_set_4 (by decide) (fun c => ?_) (fun c => absurd c (by decide))
    refine lv_iconst (v := (-1)) hx hb dX11_set_26 (by decide) ?_
    exact hret _ _ _ _ (-1) f0X L0 Q0 dX11_set_27 hP hS ⟨trivial, (by first | exact Or.inl (by have k9 : ((-1) : Int32).toInt = (-1) := (by decide); omega) | exact Or.inr (⟨rfl, by omega⟩))⟩

set_option maxHeartbeats 4000000 in
set_option maxRecDepth 100000 in
theorem cf_X0_slipped_0 (l : Launch) (D : va_G) (ca : Nat → ClassId) (za h : Nat → Nat) (hh : sgH 52 h) (f : sg_F) (L : sg_L) (Q : sg_Q) (hs : f 2 64 = 0) (sz : Nat) : Met l yX0_slipped gwX0_slipped { frames := 1, cells := 0, slots := 0, locals := 21 } (sgP D vwCl (tyX ca) 52 h (eX ca h) zcX za f L Q sz [.ref (h 1), .int 0, .int 30]) (sgQi D vwCl 52 h (eX ca h) sz (fun r f1 L1 Q1 => (f1 = f ∧ L1 = L ∧ Q1 = Q) ∧ ((r = 30 ∧ (True))))) 0 0 (sgA 52 h sz) := by
  refine sg_ofWi (cc := cX0_slipped) (maxL := 3) RX0 (by decide) rfl rfl (Nat.le_of_ble_eq_true rfl) ?_
  intro p e s m below meth cd Qz ls hx hb hml hown hts hK hZ hP hS hl hret
  have hA := sgY.self (n := 52) (h := h) (sz := s.heap.size)
  have hl : lv_has ls 3 [(0, .ref (h 1)), (1, .int 0), (2, .int 30)] := hl
  obtain ⟨H, hH⟩ : ∃ z : Heap, z = s.heap := ⟨_, rfl⟩
  obtain ⟨locs, hlo⟩ : ∃ z : List Loc, z = [] := ⟨_, rfl⟩
  have hP : va_P D vwCl (sgw 52 h (eX ca h) f L Q) H := by rw [hH]; exact hP
  have hS : va_S (sgA 52 h s.heap.size) s.heap H locs := by rw [hH, hlo]; exact hS
  suffices hgo : W p l e ({ frames := 1, cells := 0, slots := 0, locals := 21 }) s m ([.ref (h 1), .int 0, .int 30] : List Value).toArray below meth cd H locs 0 0 Qz (F0 m 0 ls []) by rw [hH, hlo] at hgo; exact hgo
  refine lv_iconst (v := 0) hx hb dX0_slipped_0 (by decide) ?_
  refine lv_iload_n hx hb dX0_slipped_1 rfl (lv_at hl 2 rfl) ?_
  refine lv_aload_n hx hb dX0_slipped_2 rfl (lv_at hl 0 rfl) ?_
  refine sg_get (ci := 0) (v := .ref (h 2)) (C := RX0) (T := TX0) (N := 5) hx hb hts (fun w h => List.mem_cons_of_mem _ (gx_0 w h)) hown hK hP 1 (by decide) rfl rfl 0 (by decide) (hts _ (List.mem_cons_of_mem _ mw_31)) (fun _ h9 => h9) rfl dX0_slipped_3 ?_
  refine lv_bipush (v := 64) hx hb dX0_slipped_6 (by decide) ?_
  refine lv_iload_n hx hb dX0_slipped_8 rfl (lv_at hl 1 rfl) ?_
  refine lv_iadd hx hb dX0_slipped_9 ?_
  refine W.eq (g2 := F0 m 10 ls [.int 64, .ref (h 2), .int 30, .int 0]) (by rw [show (64 + 0 : Int32) = 64 from by decide]) ?_
  refine sg_iald hx hb hK hP 2 (by decide) 0 rfl rfl (i := 64) (vp_in_iff.mpr (by decide)) dX0_slipped_10 ?_
  refine W.eq (g2 := F0 m 11 ls [.int 0, .int 30, .int 0]) (by rw [show f 2 (Int32.toNatClampNeg 64) = 0 from hs]) ?_
  refine lv_isub hx hb dX0_slipped_11 ?_
  refine W.eq (g2 := F0 m 12 ls [.int 30, .int 0]) (by rw [show (30 - 0 : Int32) = 30 from by decide]) ?_
  refine va_mmax hx hb (hml.trans hl.1.symm) hown (hts _ (List.mem_cons_of_mem _ mw_143)) (hts _ (List.mem_cons_of_mem _ mw_144)) (hts _ (List.mem_cons_of_mem _ mw_134)) (hts _ (List.mem_cons_of_mem _ mw_145)) (Nat.le_of_ble_eq_true rfl) (Nat.le_of_ble_eq_true rfl) (Nat.le_refl _) (Nat.le_refl _) dX0_slipped_12 ?_
  refine W.eq (g2 := F0 m 15 ls [.int 30]) (by rfl) ?_
  exact hret _ _ _ _ (30) f L Q dX0_slipped_15 hP hS ⟨⟨rfl, rfl, rfl⟩, ⟨rfl, trivial⟩⟩

set_option maxHeartbeats 4000000 in
set_option maxRecDepth 100000 in
theorem cf_X0_slipped_1 (l : Launch) (D : va_G) (ca : Nat → ClassId) (za h : Nat → Nat) (hh : sgH 52 h) (f : sg_F) (L : sg_L) (Q : sg_Q) (hs : f 2 65 = 0) (sz : Nat) : Met l yX0_slipped gwX0_slipped { frames := 1, cells := 0, slots := 0, locals := 21 } (sgP D vwCl (tyX ca) 52 h (eX ca h) zcX za f L Q sz [.ref (h 1), .int 1, .int 30]) (sgQi D vwCl 52 h (eX ca h) sz (fun r f1 L1 Q1 => (f1 = f ∧ L1 = L ∧ Q1 = Q) ∧ ((r = 30 ∧ (True))))) 0 0 (sgA 52 h sz) := by
  refine sg_ofWi (cc := cX0_slipped) (maxL := 3) RX0 (by decide) rfl rfl (Nat.le_of_ble_eq_true rfl) ?_
  intro p e s m below meth cd Qz ls hx hb hml hown hts hK hZ hP hS hl hret
  have hA := sgY.self (n := 52) (h := h) (sz := s.heap.size)
  have hl : lv_has ls 3 [(0, .ref (h 1)), (1, .int 1), (2, .int 30)] := hl
  obtain ⟨H, hH⟩ : ∃ z : Heap, z = s.heap := ⟨_, rfl⟩
  obtain ⟨locs, hlo⟩ : ∃ z : List Loc, z = [] := ⟨_, rfl⟩
  have hP : va_P D vwCl (sgw 52 h (eX ca h) f L Q) H := by rw [hH]; exact hP
  have hS : va_S (sgA 52 h s.heap.size) s.heap H locs := by rw [hH, hlo]; exact hS
  suffices hgo : W p l e ({ frames := 1, cells := 0, slots := 0, locals := 21 }) s m ([.ref (h 1), .int 1, .int 30] : List Value).toArray below meth cd H locs 0 0 Qz (F0 m 0 ls []) by rw [hH, hlo] at hgo; exact hgo
  refine lv_iconst (v := 0) hx hb dX0_slipped_0 (by decide) ?_
  refine lv_iload_n hx hb dX0_slipped_1 rfl (lv_at hl 2 rfl) ?_
  refine lv_aload_n hx hb dX0_slipped_2 rfl (lv_at hl 0 rfl) ?_
  refine sg_get (ci := 0) (v := .ref (h 2)) (C := RX0) (T := TX0) (N := 5) hx hb hts (fun w h => List.mem_cons_of_mem _ (gx_0 w h)) hown hK hP 1 (by decide) rfl rfl 0 (by decide) (hts _ (List.mem_cons_of_mem _ mw_31)) (fun _ h9 => h9) rfl dX0_slipped_3 ?_
  refine lv_bipush (v := 64) hx hb dX0_slipped_6 (by decide) ?_
  refine lv_iload_n hx hb dX0_slipped_8 rfl (lv_at hl 1 rfl) ?_
  refine lv_iadd hx hb dX0_slipped_9 ?_
  refine W.eq (g2 := F0 m 10 ls [.int 65, .ref (h 2), .int 30, .int 0]) (by rw [show (64 + 1 : Int32) = 65 from by decide]) ?_
  refine sg_iald hx hb hK hP 2 (by decide) 0 rfl rfl (i := 65) (vp_in_iff.mpr (by decide)) dX0_slipped_10 ?_
  refine W.eq (g2 := F0 m 11 ls [.int 0, .int 30, .int 0]) (by rw [show f 2 (Int32.toNatClampNeg 65) = 0 from hs]) ?_
  refine lv_isub hx hb dX0_slipped_11 ?_
  refine W.eq (g2 := F0 m 12 ls [.int 30, .int 0]) (by rw [show (30 - 0 : Int32) = 30 from by decide]) ?_
  refine va_mmax hx hb (hml.trans hl.1.symm) hown (hts _ (List.mem_cons_of_mem _ mw_143)) (hts _ (List.mem_cons_of_mem _ mw_144)) (hts _ (List.mem_cons_of_mem _ mw_134)) (hts _ (List.mem_cons_of_mem _ mw_145)) (Nat.le_of_ble_eq_true rfl) (Nat.le_of_ble_eq_true rfl) (Nat.le_refl _) (Nat.le_refl _) dX0_slipped_12 ?_
  refine W.eq (g2 := F0 m 15 ls [.int 30]) (by rfl) ?_
  exact hret _ _ _ _ (30) f L Q dX0_slipped_15 hP hS ⟨⟨rfl, rfl, rfl⟩, ⟨rfl, trivial⟩⟩

set_option maxHeartbeats 4000000 in
set_option maxRecDepth 100000 in
theorem cf_X0_slipped_2 (l : Launch) (D : va_G) (ca : Nat → ClassId) (za h : Nat → Nat) (hh : sgH 52 h) (f : sg_F) (L : sg_L) (Q : sg_Q) (hs : f 2 66 = 0) (sz : Nat) : Met l yX0_slipped gwX0_slipped { frames := 1, cells := 0, slots := 0, locals := 21 } (sgP D vwCl (tyX ca) 52 h (eX ca h) zcX za f L Q sz [.ref (h 1), .int 2, .int 30]) (sgQi D vwCl 52 h (eX ca h) sz (fun r f1 L1 Q1 => (f1 = f ∧ L1 = L ∧ Q1 = Q) ∧ ((r = 30 ∧ (True))))) 0 0 (sgA 52 h sz) := by
  refine sg_ofWi (cc := cX0_slipped) (maxL := 3) RX0 (by decide) rfl rfl (Nat.le_of_ble_eq_true rfl) ?_
  intro p e s m below meth cd Qz ls hx hb hml hown hts hK hZ hP hS hl hret
  have hA := sgY.self (n := 52) (h := h) (sz := s.heap.size)
  have hl : lv_has ls 3 [(0, .ref (h 1)), (1, .int 2), (2, .int 30)] := hl
  obtain ⟨H, hH⟩ : ∃ z : Heap, z = s.heap := ⟨_, rfl⟩
  obtain ⟨locs, hlo⟩ : ∃ z : List Loc, z = [] := ⟨_, rfl⟩
  have hP : va_P D vwCl (sgw 52 h (eX ca h) f L Q) H := by rw [hH]; exact hP
  have hS : va_S (sgA 52 h s.heap.size) s.heap H locs := by rw [hH, hlo]; exact hS
  suffices hgo : W p l e ({ frames := 1, cells := 0, slots := 0, locals := 21 }) s m ([.ref (h 1), .int 2, .int 30] : List Value).toArray below meth cd H locs 0 0 Qz (F0 m 0 ls []) by rw [hH, hlo] at hgo; exact hgo
  refine lv_iconst (v := 0) hx hb dX0_slipped_0 (by decide) ?_
  refine lv_iload_n hx hb dX0_slipped_1 rfl (lv_at hl 2 rfl) ?_
  refine lv_aload_n hx hb dX0_slipped_2 rfl (lv_at hl 0 rfl) ?_
  refine sg_get (ci := 0) (v := .ref (h 2)) (C := RX0) (T := TX0) (N := 5) hx hb hts (fun w h => List.mem_cons_of_mem _ (gx_0 w h)) hown hK hP 1 (by decide) rfl rfl 0 (by decide) (hts _ (List.mem_cons_of_mem _ mw_31)) (fun _ h9 => h9) rfl dX0_slipped_3 ?_
  refine lv_bipush (v := 64) hx hb dX0_slipped_6 (by decide) ?_
  refine lv_iload_n hx hb dX0_slipped_8 rfl (lv_at hl 1 rfl) ?_
  refine lv_iadd hx hb dX0_slipped_9 ?_
  refine W.eq (g2 := F0 m 10 ls [.int 66, .ref (h 2), .int 30, .int 0]) (by rw [show (64 + 2 : Int32) = 66 from by decide]) ?_
  refine sg_iald hx hb hK hP 2 (by decide) 0 rfl rfl (i := 66) (vp_in_iff.mpr (by decide)) dX0_slipped_10 ?_
  refine W.eq (g2 := F0 m 11 ls [.int 0, .int 30, .int 0]) (by rw [show f 2 (Int32.toNatClampNeg 66) = 0 from hs]) ?_
  refine lv_isub hx hb dX0_slipped_11 ?_
  refine W.eq (g2 := F0 m 12 ls [.int 30, .int 0]) (by rw [show (30 - 0 : Int32) = 30 from by decide]) ?_
  refine va_mmax hx hb (hml.trans hl.1.symm) hown (hts _ (List.mem_cons_of_mem _ mw_143)) (hts _ (List.mem_cons_of_mem _ mw_144)) (hts _ (List.mem_cons_of_mem _ mw_134)) (hts _ (List.mem_cons_of_mem _ mw_145)) (Nat.le_of_ble_eq_true rfl) (Nat.le_of_ble_eq_true rfl) (Nat.le_refl _) (Nat.le_refl _) dX0_slipped_12 ?_
  refine W.eq (g2 := F0 m 15 ls [.int 30]) (by rfl) ?_
  exact hret _ _ _ _ (30) f L Q dX0_slipped_15 hP hS ⟨⟨rfl, rfl, rfl⟩, ⟨rfl, trivial⟩⟩

set_option maxHeartbeats 4000000 in
set_option maxRecDepth 100000 in
theorem cf_X2_allSlip (l : Launch) (D : va_G) (ca : Nat → ClassId) (za h : Nat → Nat) (hh : sgH 52 h)  (sz : Nat) : Met l yX2_allSlip gwX2_allSlip { frames := 2, cells := 0, slots := 0, locals := 43 } (sgP D vwCl (tyX ca) 52 h (eX ca h) zcX za f0X L0 Q0 sz [.ref (h 28)]) (sgQi D vwCl 52 h (eX ca h) sz (fun r f1 L1 Q1 => True ∧ ((r = 0 ∧ (True))))) 0 0 (sgA 52 h sz) := by
  refine sg_ofWi (cc := cX2_allSlip) (maxL := 4) RX2 (by decide) rfl rfl (Nat.le_of_ble_eq_true rfl) ?_
  intro p e s m below meth cd Qz ls hx hb hml hown hts hK hZ hP hS hl hret
  have hA := sgY.self (n := 52) (h := h) (sz := s.heap.size)
  have hl : lv_has ls 4 [(0, .ref (h 28))] := hl
  obtain ⟨H, hH⟩ : ∃ z : Heap, z = s.heap := ⟨_, rfl⟩
  obtain ⟨locs, hlo⟩ : ∃ z : List Loc, z = [] := ⟨_, rfl⟩
  have hP : va_P D vwCl (sgw 52 h (eX ca h) f0X L0 Q0) H := by rw [hH]; exact hP
  have hS : va_S (sgA 52 h s.heap.size) s.heap H locs := by rw [hH, hlo]; exact hS
  suffices hgo : W p l e ({ frames := 2, cells := 0, slots := 0, locals := 43 }) s m ([.ref (h 28)] : List Value).toArray below meth cd H locs 0 0 Qz (F0 m 0 ls []) by rw [hH, hlo] at hgo; exact hgo
  refine lv_iconst (v := 0) hx hb dX2_allSlip_0 (by decide) ?_
  refine lv_istore_n (lv' := [(1, .int 0), (0, .ref (h 28))]) hx hb dX2_allSlip_1 rfl hl (by decide) rfl (fun ls hl => ?_)
  refine lv_iconst (v := 0) hx hb dX2_allSlip_2 (by decide) ?_
  refine lv_istore_n (lv' := [(2, .int 0), (1, .int 0), (0, .ref (h 28))]) hx hb dX2_allSlip_3 rfl hl (by decide) rfl (fun ls hl => ?_)
  refine lv_iload_n hx hb dX2_allSlip_4 rfl (lv_at hl 0 rfl) ?_
  refine lv_iconst (v := 3) hx hb dX2_allSlip_5 (by decide) ?_
  refine lv_icmp_ge (tgt := 59) hx hb dX2_allSlip_6 (by decide) (fun c => absurd c (by decide)) (fun c => ?_)
  refine lv_aload_n hx hb dX2_allSlip_9 rfl (lv_at hl 2 rfl) ?_
  refine sg_get (ci := 2) (v := .ref (h 1)) (C := RX2) (T := TX2) (N := 6) hx hb hts (fun w h => List.mem_cons_of_mem _ (gx_2 w h)) hown hK hP 28 (by decide) rfl rfl 0 (by decide) (hts _ (List.mem_cons_of_mem _ mw_130)) (fun _ h9 => h9) rfl dX2_allSlip_10 ?_
  refine lv_iload_n hx hb dX2_allSlip_13 rfl (lv_at hl 0 rfl) ?_
  refine lv_aload_n hx hb dX2_allSlip_14 rfl (lv_at hl 2 rfl) ?_
  refine sg_get (ci := 2) (v := .ref (h 1)) (C := RX2) (T := TX2) (N := 6) hx hb hts (fun w h => List.mem_cons_of_mem _ (gx_2 w h)) hown hK hP 28 (by decide) rfl rfl 0 (by decide) (hts _ (List.mem_cons_of_mem _ mw_130)) (fun _ h9 => h9) rfl dX2_allSlip_15 ?_
  refine sg_get (ci := 0) (v := .ref (h 3)) (C := RX0) (T := TX0) (N := 5) hx hb hts (fun w h => List.mem_cons_of_mem _ (gx_0 w h)) hown hK hP 1 (by decide) rfl rfl 1 (by decide) (hts _ (List.mem_cons_of_mem _ mw_131)) (fun _ h9 => h9) rfl dX2_allSlip_18 ?_
  refine lv_iload_n hx hb dX2_allSlip_21 rfl (lv_at hl 0 rfl) ?_
  refine sg_iald hx hb hK hP 3 (by decide) 0 rfl rfl (i := 0) (vp_in_iff.mpr (by decide)) dX2_allSlip_22 ?_
  refine W.eq (g2 := F0 m 23 ls [.int 30, .int 0, .ref (h 1)]) (by rw [show f0X 3 (Int32.toNatClampNeg 0) = 30 from rfl]) ?_
  refine sg_calli (va_runV (As := [.int 0, .int 30]) (rest := []) ⟨hx, hb, hml, hown, hts⟩ (cf_X0_slipped_0 l D ca za h hh f0X L0 Q0 rfl H.size) (cwV 2 hts (gw_V (fun _ h => List.mem_cons_of_mem _ h) mw_147 mw_148 mw_149 mw_15 mw_146) rfl rfl rfl (by decide +kernel) ⟨Nat.le_of_ble_eq_true rfl, Nat.le_of_ble_eq_true rfl⟩) (sg_preV (ci := 0) (C := RX0) (T := TX0) (N := 5) hA hK hP hS hZ 1 (by decide) rfl rfl) rfl rfl hl.1 rfl (lv_room (Nat.le_of_ble_eq_true rfl)) dX2_allSlip_23 ⟨Nat.le_refl _, Nat.le_refl _⟩) hA hS (fun r_4 f_1 L_2 Q_3 H locs hq hP hS => ?_)
  obtain ⟨⟨ef9, eL9, eQ9⟩, hq⟩ := hq
  rw [ef9, eL9, eQ9] at hP; clear ef9 eL9 eQ9
  have k_5 : (0 : Int32).toInt = 0 := by decide
  have k_6 : (30 : Int32).toInt = 30 := by decide
  obtain ⟨rfl, hq⟩ := hq
  have q_7 := hq
  refine lv_istore_n (lv' := [(3, .int 30), (2, .int 0), (1, .int 0), (0, .ref (h 28))]) hx hb dX2_allSlip_26 rfl hl (by decide) rfl (fun ls hl => ?_)
  refine lv_iload_n hx hb dX2_allSlip_27 rfl (lv_at hl 0 rfl) ?_
  refine lv_aload_n hx hb dX2_allSlip_28 rfl (lv_at hl 3 rfl) ?_
  refine sg_get (ci := 2) (v := .ref (h 1)) (C := RX2) (T := TX2) (N := 6) hx hb hts (fun w h => List.mem_cons_of_mem _ (gx_2 w h)) hown hK hP 28 (by decide) rfl rfl 0 (by decide) (hts _ (List.mem_cons_of_mem _ mw_130)) (fun _ h9 => h9) rfl dX2_allSlip_29 ?_
  refine sg_get (ci := 0) (v := .ref (h 3)) (C := RX0) (T := TX0) (N := 5) hx hb hts (fun w h => List.mem_cons_of_mem _ (gx_0 w h)) hown hK hP 1 (by decide) rfl rfl 1 (by decide) (hts _ (List.mem_cons_of_mem _ mw_131)) (fun _ h9 => h9) rfl dX2_allSlip_32 ?_
  refine lv_iload_n hx hb dX2_allSlip_35 rfl (lv_at hl 1 rfl) ?_
  refine sg_iald hx hb hK hP 3 (by decide) 0 rfl rfl (i := 0) (vp_in_iff.mpr (by decide)) dX2_allSlip_36 ?_
  refine W.eq (g2 := F0 m 37 ls [.int 30, .int 30]) (by rw [show f0X 3 (Int32.toNatClampNeg 0) = 30 from rfl]) ?_
  refine lv_icmp_eq (tgt := 43) hx hb dX2_allSlip_37 (by decide) (fun c => ?_) (fun c => absurd c (by decide))
  refine lv_aload_n hx hb dX2_allSlip_43 rfl (lv_at hl 3 rfl) ?_
  refine sg_get (ci := 2) (v := .ref (h 1)) (C := RX2) (T := TX2) (N := 6) hx hb hts (fun w h => List.mem_cons_of_mem _ (gx_2 w h)) hown hK hP 28 (by decide) rfl rfl 0 (by decide) (hts _ (List.mem_cons_of_mem _ mw_130)) (fun _ h9 => h9) rfl dX2_allSlip_44 ?_
  refine sg_get (ci := 0) (v := .ref (h 3)) (C := RX0) (T := TX0) (N := 5) hx hb hts (fun w h => List.mem_cons_of_mem _ (gx_0 w h)) hown hK hP 1 (by decide) rfl rfl 1 (by decide) (hts _ (List.mem_cons_of_mem _ mw_131)) (fun _ h9 => h9) rfl dX2_allSlip_47 ?_
  refine lv_iload_n hx hb dX2_allSlip_50 rfl (lv_at hl 1 rfl) ?_
  refine lv_iload_n hx hb dX2_allSlip_51 rfl (lv_at hl 0 rfl) ?_
  refine sg_iast hx hb hh hA hK hP hS 3 (by decide) 0 (fun _ => rfl) rfl (i := 0) (x := 30) (vp_in_iff.mpr (by decide)) dX2_allSlip_52 (fun f_8 H locs ef_8 hP hS => ?_)
  refine lv_iinc (v := 1) (lv' := [(2, .int 1), (3, .int 30), (1, .int 0), (0, .ref (h 28))]) hx hb dX2_allSlip_53 hl (k := 1) rfl (by decide) (by decide) rfl (fun ls hl => ?_)
  refine lv_goto (tgt := 4) hx hb dX2_allSlip_56 (by decide) ?_
  refine lv_iload_n hx hb dX2_allSlip_4 rfl (lv_at hl 0 rfl) ?_
  refine lv_iconst (v := 3) hx hb dX2_allSlip_5 (by decide) ?_
  refine lv_icmp_ge (tgt := 59) hx hb dX2_allSlip_6 (by decide) (fun c => absurd c (by decide)) (fun c => ?_)
  refine lv_aload_n hx hb dX2_allSlip_9 rfl (lv_at hl 3 rfl) ?_
  refine sg_get (ci := 2) (v := .ref (h 1)) (C := RX2) (T := TX2) (N := 6) hx hb hts (fun w h => List.mem_cons_of_mem _ (gx_2 w h)) hown hK hP 28 (by decide) rfl rfl 0 (by decide) (hts _ (List.mem_cons_of_mem _ mw_130)) (fun _ h9 => h9) rfl dX2_allSlip_10 ?_
  refine lv_iload_n hx hb dX2_allSlip_13 rfl (lv_at hl 0 rfl) ?_
  refine lv_aload_n hx hb dX2_allSlip_14 rfl (lv_at hl 3 rfl) ?_
  refine sg_get (ci := 2) (v := .ref (h 1)) (C := RX2) (T := TX2) (N := 6) hx hb hts (fun w h => List.mem_cons_of_mem _ (gx_2 w h)) hown hK hP 28 (by decide) rfl rfl 0 (by decide) (hts _ (List.mem_cons_of_mem _ mw_130)) (fun _ h9 => h9) rfl dX2_allSlip_15 ?_
  refine sg_get (ci := 0) (v := .ref (h 3)) (C := RX0) (T := TX0) (N := 5) hx hb hts (fun w h => List.mem_cons_of_mem _ (gx_0 w h)) hown hK hP 1 (by decide) rfl rfl 1 (by decide) (hts _ (List.mem_cons_of_mem _ mw_131)) (fun _ h9 => h9) rfl dX2_allSlip_18 ?_
  refine lv_iload_n hx hb dX2_allSlip_21 rfl (lv_at hl 0 rfl) ?_
  refine sg_iald hx hb hK hP 3 (by decide) 0 rfl rfl (i := 1) (vp_in_iff.mpr (by decide)) dX2_allSlip_22 ?_
  refine W.eq (g2 := F0 m 23 ls [.int 30, .int 1, .ref (h 1)]) (by rw [show f_8 3 (Int32.toNatClampNeg 1) = 30 from (by rw [ef_8]; exact rfl)]) ?_
  refine sg_calli (va_runV (As := [.int 1, .int 30]) (rest := []) ⟨hx, hb, hml, hown, hts⟩ (cf_X0_slipped_1 l D ca za h hh f_8 L0 Q0 ((by rw [ef_8]; exact rfl)) H.size) (cwV 2 hts (gw_V (fun _ h => List.mem_cons_of_mem _ h) mw_147 mw_148 mw_149 mw_15 mw_146) rfl rfl rfl (by decide +kernel) ⟨Nat.le_of_ble_eq_true rfl, Nat.le_of_ble_eq_true rfl⟩) (sg_preV (ci := 0) (C := RX0) (T := TX0) (N := 5) hA hK hP hS hZ 1 (by decide) rfl rfl) rfl rfl hl.1 rfl (lv_room (Nat.le_of_ble_eq_true rfl)) dX2_allSlip_23 ⟨Nat.le_refl _, Nat.le_refl _⟩) hA hS (fun r_12 f_9 L_10 Q_11 H locs hq hP hS => ?_)
  obtain ⟨⟨ef9, eL9, eQ9⟩, hq⟩ := hq
  rw [ef9, eL9, eQ9] at hP; clear ef9 eL9 eQ9
  have k_13 : (1 : Int32).toInt = 1 := by decide
  have k_14 : (30 : Int32).toInt = 30 := by decide
  obtain ⟨rfl, hq⟩ := hq
  have q_15 := hq
  refine lv_istore_n (lv' := [(3, .int 30), (2, .int 1), (1, .int 0), (0, .ref (h 28))]) hx hb dX2_allSlip_26 rfl hl (by decide) rfl (fun ls hl => ?_)
  refine lv_iload_n hx hb dX2_allSlip_27 rfl (lv_at hl 0 rfl) ?_
  refine lv_aload_n hx hb dX2_allSlip_28 rfl (lv_at hl 3 rfl) ?_
  refine sg_get (ci := 2) (v := .ref (h 1)) (C := RX2) (T := TX2) (N := 6) hx hb hts (fun w h => List.mem_cons_of_mem _ (gx_2 w h)) hown hK hP 28 (by decide) rfl rfl 0 (by decide) (hts _ (List.mem_cons_of_mem _ mw_130)) (fun _ h9 => h9) rfl dX2_allSlip_29 ?_
  refine sg_get (ci := 0) (v := .ref (h 3)) (C := RX0) (T := TX0) (N := 5) hx hb hts (fun w h => List.mem_cons_of_mem _ (gx_0 w h)) hown hK hP 1 (by decide) rfl rfl 1 (by decide) (hts _ (List.mem_cons_of_mem _ mw_131)) (fun _ h9 => h9) rfl dX2_allSlip_32 ?_
  refine lv_iload_n hx hb dX2_allSlip_35 rfl (lv_at hl 1 rfl) ?_
  refine sg_iald hx hb hK hP 3 (by decide) 0 rfl rfl (i := 1) (vp_in_iff.mpr (by decide)) dX2_allSlip_36 ?_
  refine W.eq (g2 := F0 m 37 ls [.int 30, .int 30]) (by rw [show f_8 3 (Int32.toNatClampNeg 1) = 30 from (by rw [ef_8]; exact rfl)]) ?_
  refine lv_icmp_eq (tgt := 43) hx hb dX2_allSlip_37 (by decide) (fun c => ?_) (fun c => absurd c (by decide))
  refine lv_aload_n hx hb dX2_allSlip_43 rfl (lv_at hl 3 rfl) ?_
  refine sg_get (ci := 2) (v := .ref (h 1)) (C := RX2) (T := TX2) (N := 6) hx hb hts (fun w h => List.mem_cons_of_mem _ (gx_2 w h)) hown hK hP 28 (by decide) rfl rfl 0 (by decide) (hts _ (List.mem_cons_of_mem _ mw_130)) (fun _ h9 => h9) rfl dX2_allSlip_44 ?_
  refine sg_get (ci := 0) (v := .ref (h 3)) (C := RX0) (T := TX0) (N := 5) hx hb hts (fun w h => List.mem_cons_of_mem _ (gx_0 w h)) hown hK hP 1 (by decide) rfl rfl 1 (by decide) (hts _ (List.mem_cons_of_mem _ mw_131)) (fun _ h9 => h9) rfl dX2_allSlip_47 ?_
  refine lv_iload_n hx hb dX2_allSlip_50 rfl (lv_at hl 1 rfl) ?_
  refine lv_iload_n hx hb dX2_allSlip_51 rfl (lv_at hl 0 rfl) ?_
  refine sg_iast hx hb hh hA hK hP hS 3 (by decide) 0 (fun _ => rfl) rfl (i := 1) (x := 30) (vp_in_iff.mpr (by decide)) dX2_allSlip_52 (fun f_16 H locs ef_16 hP hS => ?_)
  refine lv_iinc (v := 2) (lv' := [(2, .int 2), (3, .int 30), (1, .int 0), (0, .ref (h 28))]) hx hb dX2_allSlip_53 hl (k := 1) rfl (by decide) (by decide) rfl (fun ls hl => ?_)
  refine lv_goto (tgt := 4) hx hb dX2_allSlip_56 (by decide) ?_
  refine lv_iload_n hx hb dX2_allSlip_4 rfl (lv_at hl 0 rfl) ?_
  refine lv_iconst (v := 3) hx hb dX2_allSlip_5 (by decide) ?_
  refine lv_icmp_ge (tgt := 59) hx hb dX2_allSlip_6 (by decide) (fun c => absurd c (by decide)) (fun c => ?_)
  refine lv_aload_n hx hb dX2_allSlip_9 rfl (lv_at hl 3 rfl) ?_
  refine sg_get (ci := 2) (v := .ref (h 1)) (C := RX2) (T := TX2) (N := 6) hx hb hts (fun w h => List.mem_cons_of_mem _ (gx_2 w h)) hown hK hP 28 (by decide) rfl rfl 0 (by decide) (hts _ (List.mem_cons_of_mem _ mw_130)) (fun _ h9 => h9) rfl dX2_allSlip_10 ?_
  refine lv_iload_n hx hb dX2_allSlip_13 rfl (lv_at hl 0 rfl) ?_
  refine lv_aload_n hx hb dX2_allSlip_14 rfl (lv_at hl 3 rfl) ?_
  refine sg_get (ci := 2) (v := .ref (h 1)) (C := RX2) (T := TX2) (N := 6) hx hb hts (fun w h => List.mem_cons_of_mem _ (gx_2 w h)) hown hK hP 28 (by decide) rfl rfl 0 (by decide) (hts _ (List.mem_cons_of_mem _ mw_130)) (fun _ h9 => h9) rfl dX2_allSlip_15 ?_
  refine sg_get (ci := 0) (v := .ref (h 3)) (C := RX0) (T := TX0) (N := 5) hx hb hts (fun w h => List.mem_cons_of_mem _ (gx_0 w h)) hown hK hP 1 (by decide) rfl rfl 1 (by decide) (hts _ (List.mem_cons_of_mem _ mw_131)) (fun _ h9 => h9) rfl dX2_allSlip_18 ?_
  refine lv_iload_n hx hb dX2_allSlip_21 rfl (lv_at hl 0 rfl) ?_
  refine sg_iald hx hb hK hP 3 (by decide) 0 rfl rfl (i := 2) (vp_in_iff.mpr (by decide)) dX2_allSlip_22 ?_
  refine W.eq (g2 := F0 m 23 ls [.int 30, .int 2, .ref (h 1)]) (by rw [show f_16 3 (Int32.toNatClampNeg 2) = 30 from (by rw [ef_16]; exact (show _ = _ from (by rw [ef_8]; exact rfl)))]) ?_
  refine sg_calli (va_runV (As := [.int 2, .int 30]) (rest := []) ⟨hx, hb, hml, hown, hts⟩ (cf_X0_slipped_2 l D ca za h hh f_16 L0 Q0 ((by rw [ef_16]; exact (show _ = _ from (by rw [ef_8]; exact rfl)))) H.size) (cwV 2 hts (gw_V (fun _ h => List.mem_cons_of_mem _ h) mw_147 mw_148 mw_149 mw_15 mw_146) rfl rfl rfl (by decide +kernel) ⟨Nat.le_of_ble_eq_true rfl, Nat.le_of_ble_eq_true rfl⟩) (sg_preV (ci := 0) (C := RX0) (T := TX0) (N := 5) hA hK hP hS hZ 1 (by decide) rfl rfl) rfl rfl hl.1 rfl (lv_room (Nat.le_of_ble_eq_true rfl)) dX2_allSlip_23 ⟨Nat.le_refl _, Nat.le_refl _⟩) hA hS (fun r_20 f_17 L_18 Q_19 H locs hq hP hS => ?_)
  obtain ⟨⟨ef9, eL9, eQ9⟩, hq⟩ := hq
  rw [ef9, eL9, eQ9] at hP; clear ef9 eL9 eQ9
  have k_21 : (2 : Int32).toInt = 2 := by decide
  have k_22 : (30 : Int32).toInt = 30 := by decide
  obtain ⟨rfl, hq⟩ := hq
  have q_23 := hq
  refine lv_istore_n (lv' := [(3, .int 30), (2, .int 2), (1, .int 0), (0, .ref (h 28))]) hx hb dX2_allSlip_26 rfl hl (by decide) rfl (fun ls hl => ?_)
  refine lv_iload_n hx hb dX2_allSlip_27 rfl (lv_at hl 0 rfl) ?_
  refine lv_aload_n hx hb dX2_allSlip_28 rfl (lv_at hl 3 rfl) ?_
  refine sg_get (ci := 2) (v := .ref (h 1)) (C := RX2) (T := TX2) (N := 6) hx hb hts (fun w h => List.mem_cons_of_mem _ (gx_2 w h)) hown hK hP 28 (by decide) rfl rfl 0 (by decide) (hts _ (List.mem_cons_of_mem _ mw_130)) (fun _ h9 => h9) rfl dX2_allSlip_29 ?_
  refine sg_get (ci := 0) (v := .ref (h 3)) (C := RX0) (T := TX0) (N := 5) hx hb hts (fun w h => List.mem_cons_of_mem _ (gx_0 w h)) hown hK hP 1 (by decide) rfl rfl 1 (by decide) (hts _ (List.mem_cons_of_mem _ mw_131)) (fun _ h9 => h9) rfl dX2_allSlip_32 ?_
  refine lv_iload_n hx hb dX2_allSlip_35 rfl (lv_at hl 1 rfl) ?_
  refine sg_iald hx hb hK hP 3 (by decide) 0 rfl rfl (i := 2) (vp_in_iff.mpr (by decide)) dX2_allSlip_36 ?_
  refine W.eq (g2 := F0 m 37 ls [.int 30, .int 30]) (by rw [show f_16 3 (Int32.toNatClampNeg 2) = 30 from (by rw [ef_16]; exact (show _ = _ from (by rw [ef_8]; exact rfl)))]) ?_
  refine lv_icmp_eq (tgt := 43) hx hb dX2_allSlip_37 (by decide) (fun c => ?_) (fun c => absurd c (by decide))
  refine lv_aload_n hx hb dX2_allSlip_43 rfl (lv_at hl 3 rfl) ?_
  refine sg_get (ci := 2) (v := .ref (h 1)) (C := RX2) (T := TX2) (N := 6) hx hb hts (fun w h => List.mem_cons_of_mem _ (gx_2 w h)) hown hK hP 28 (by decide) rfl rfl 0 (by decide) (hts _ (List.mem_cons_of_mem _ mw_130)) (fun _ h9 => h9) rfl dX2_allSlip_44 ?_
  refine sg_get (ci := 0) (v := .ref (h 3)) (C := RX0) (T := TX0) (N := 5) hx hb hts (fun w h => List.mem_cons_of_mem _ (gx_0 w h)) hown hK hP 1 (by decide) rfl rfl 1 (by decide) (hts _ (List.mem_cons_of_mem _ mw_131)) (fun _ h9 => h9) rfl dX2_allSlip_47 ?_
  refine lv_iload_n hx hb dX2_allSlip_50 rfl (lv_at hl 1 rfl) ?_
  refine lv_iload_n hx hb dX2_allSlip_51 rfl (lv_at hl 0 rfl) ?_
  refine sg_iast hx hb hh hA hK hP hS 3 (by decide) 0 (fun _ => rfl) rfl (i := 2) (x := 30) (vp_in_iff.mpr (by decide)) dX2_allSlip_52 (fun f_24 H locs ef_24 hP hS => ?_)
  refine lv_iinc (v := 3) (lv' := [(2, .int 3), (3, .int 30), (1, .int 0), (0, .ref (h 28))]) hx hb dX2_allSlip_53 hl (k := 1) rfl (by decide) (by decide) rfl (fun ls hl => ?_)
  refine lv_goto (tgt := 4) hx hb dX2_allSlip_56 (by decide) ?_
  refine lv_iload_n hx hb dX2_allSlip_4 rfl (lv_at hl 0 rfl) ?_
  refine lv_iconst (v := 3) hx hb dX2_allSlip_5 (by decide) ?_
  refine lv_icmp_ge (tgt := 59) hx hb dX2_allSlip_6 (by decide) (fun c => ?_) (fun c => absurd c (by decide))
  refine lv_iload_n hx hb dX2_allSlip_59 rfl (lv_at hl 2 rfl) ?_
  exact hret _ _ _ _ (0) f_24 L0 Q0 dX2_allSlip_60 hP hS ⟨trivial, ⟨rfl, trivial⟩⟩

set_option maxHeartbeats 4000000 in
set_option maxRecDepth 100000 in
theorem cf_X11_night (l : Launch) (D : va_G) (ca : Nat → ClassId) (za h : Nat → Nat) (hh : sgH 52 h)  (sz : Nat) : Met l yX11_night gwX11_night { frames := 3, cells := 0, slots := 0, locals := 66 } (sgP D vwCl (tyX ca) 52 h (eX ca h) zcX za f0X L0 Q0 sz [.ref (h 0)]) (sgQi D vwCl 52 h (eX ca h) sz (fun r f1 L1 Q1 => True ∧ ((r = 0 ∧ (True))))) 0 0 (sgA 52 h sz) := by
  refine sg_ofWi (cc := cX11_night) (maxL := 1) RX11 (by decide) rfl rfl (Nat.le_of_ble_eq_true rfl) ?_
  intro p e s m below meth cd Qz ls hx hb hml hown hts hK hZ hP hS hl hret
  have hA := sgY.self (n := 52) (h := h) (sz := s.heap.size)
  have hl : lv_has ls 1 [(0, .ref (h 0))] := hl
  obtain ⟨H, hH⟩ : ∃ z : Heap, z = s.heap := ⟨_, rfl⟩
  obtain ⟨locs, hlo⟩ : ∃ z : List Loc, z = [] := ⟨_, rfl⟩
  have hP : va_P D vwCl (sgw 52 h (eX ca h) f0X L0 Q0) H := by rw [hH]; exact hP
  have hS : va_S (sgA 52 h s.heap.size) s.heap H locs := by rw [hH, hlo]; exact hS
  suffices hgo : W p l e ({ frames := 3, cells := 0, slots := 0, locals := 66 }) s m ([.ref (h 0)] : List Value).toArray below meth cd H locs 0 0 Qz (F0 m 0 ls []) by rw [hH, hlo] at hgo; exact hgo
  refine lv_aload_n hx hb dX11_night_0 rfl (lv_at hl 0 rfl) ?_
  refine sg_get (ci := 11) (v := .ref (h 28)) (C := RX11) (T := TX11) (N := 10) hx hb hts (fun w h => List.mem_cons_of_mem _ (gx_11 w h)) hown hK hP 0 (by decide) rfl rfl 6 (by decide) (hts _ (List.mem_cons_of_mem _ mw_137)) (fun _ h9 => h9) rfl dX11_night_1 ?_
  refine sg_calli (va_runV (As := []) (rest := []) ⟨hx, hb, hml, hown, hts⟩ (cf_X2_allSlip l D ca za h hh H.size) (cwV 0 hts (gw_V (fun _ h => List.mem_cons_of_mem _ h) mw_151 mw_152 mw_153 mw_142 mw_150) rfl rfl rfl (by decide +kernel) ⟨Nat.le_of_ble_eq_true rfl, Nat.le_of_ble_eq_true rfl⟩) (sg_preV (ci := 2) (C := RX2) (T := TX2) (N := 6) hA hK hP hS hZ 28 (by decide) rfl rfl) rfl rfl hl.1 rfl (lv_room (Nat.le_of_ble_eq_true rfl)) dX11_night_4 ⟨Nat.le_refl _, Nat.le_refl _⟩) hA hS (fun r_4 f_1 L_2 Q_3 H locs hq hP hS => ?_)
  obtain ⟨-, hq⟩ := hq
  obtain ⟨rfl, hq⟩ := hq
  have q_5 := hq
  exact hret _ _ _ _ (0) f_1 L_2 Q_3 dX11_night_7 hP hS ⟨trivial, ⟨rfl, trivial⟩⟩

set_option maxHeartbeats 4000000 in
set_option maxRecDepth 100000 in
theorem cf_X11_led (l : Launch) (D : va_G) (ca : Nat → ClassId) (za h : Nat → Nat) (hh : sgH 52 h) (x0 : Int32) (sz : Nat) : Met l yX11_led gwX11_led { frames := 0, cells := 0, slots := 0, locals := 0 } (sgP D vwCl (tyX ca) 52 h (eX ca h) zcX za f0X L0 Q0 sz [.ref (h 0), .int x0]) (sgQi D vwCl 52 h (eX ca h) sz (fun r f1 L1 Q1 => True ∧ ((0 ≤ x0.toInt ∧ x0.toInt ≤ 3 ∧ r.toInt = 0) ∨ (x0.toInt = 4 ∧ r.toInt = -2) ∨ ((x0.toInt < 0 ∨ 4 < x0.toInt) ∧ r.toInt = -1)))) 0 0 (sgA 52 h sz) := by
  refine sg_ofWi (cc := cX11_led) (maxL := 2) RX11 (by decide) rfl rfl (Nat.le_of_ble_eq_true rfl) ?_
  intro p e s m below meth cd Qz ls hx hb hml hown hts hK hZ hP hS hl hret
  have hA := sgY.self (n := 52) (h := h) (sz := s.heap.size)
  have hl : lv_has ls 2 [(0, .ref (h 0)), (1, .int x0)] := hl
  obtain ⟨H, hH⟩ : ∃ z : Heap, z = s.heap := ⟨_, rfl⟩
  obtain ⟨locs, hlo⟩ : ∃ z : List Loc, z = [] := ⟨_, rfl⟩
  have hP : va_P D vwCl (sgw 52 h (eX ca h) f0X L0 Q0) H := by rw [hH]; exact hP
  have hS : va_S (sgA 52 h s.heap.size) s.heap H locs := by rw [hH, hlo]; exact hS
  suffices hgo : W p l e ({ frames := 0, cells := 0, slots := 0, locals := 0 }) s m ([.ref (h 0), .int x0] : List Value).toArray below meth cd H locs 0 0 Qz (F0 m 0 ls []) by rw [hH, hlo] at hgo; exact hgo
  refine lv_iload_n hx hb dX11_led_0 rfl (lv_at hl 1 rfl) ?_
  refine lv_if_lt (tgt := 9) hx hb dX11_led_1 (by decide) (fun c => ?_) (fun c => ?_)
  · skip
    have c_1 : x0.toInt < 0 := (by have z := bn_lt c; have k1 : (0 : Int32).toInt = 0 := (by decide); omega)
    refine lv_iconst (v := (-1)) hx hb dX11_led_9 (by decide) ?_
    refine lv_goto (tgt := 22) hx hb dX11_led_10 (by decide) ?_
    exact hret _ _ _ _ (-1) f0X L0 Q0 dX11_led_22 hP hS ⟨trivial, (by first | exact Or.inl (by have k9 : ((-1) : Int32).toInt = (-1) := (by decide); omega) | exact Or.inr (Or.inl (by have k9 : ((-1) : Int32).toInt = (-1) := (by decide); omega)) | exact Or.inr (Or.inr ((by have k9 : ((-1) : Int32).toInt = (-1) := (by decide); omega))))⟩
  · skip
    have c_2 : 0 ≤ x0.toInt := (by have z := bn_nlt c; have k1 : (0 : Int32).toInt = 0 := (by decide); omega)
    refine lv_iload_n hx hb dX11_led_4 rfl (lv_at hl 1 rfl) ?_
    refine lv_iconst (v := 5) hx hb dX11_led_5 (by decide) ?_
    refine lv_icmp_lt (tgt := 13) hx hb dX11_led_6 (by decide) (fun c => ?_) (fun c => ?_)
    · skip
      have c_3 : x0.toInt < 5 := (by have z := bn_lt c; have k1 : (5 : Int32).toInt = 5 := (by decide); omega)
      refine lv_aload_n hx hb dX11_led_13 rfl (lv_at hl 0 rfl) ?_
      refine sg_get (ci := 11) (v := .ref (h 28)) (C := RX11) (T := TX11) (N := 10) hx hb hts (fun w h => List.mem_cons_of_mem _ (gx_11 w h)) hown hK hP 0 (by decide) rfl rfl 6 (by decide) (hts _ (List.mem_cons_of_mem _ mw_137)) (fun _ h9 => h9) rfl dX11_led_14 ?_
      refine sg_get (ci := 2) (v := .ref (h 29)) (C := RX2) (T := TX2) (N := 6) hx hb hts (fun w h => List.mem_cons_of_mem _ (gx_2 w h)) hown hK hP 28 (by decide) rfl rfl 2 (by decide) (hts _ (List.mem_cons_of_mem _ mw_154)) (fun _ h9 => h9) rfl dX11_led_17 ?_
      refine lv_iload_n hx hb dX11_led_20 rfl (lv_at hl 1 rfl) ?_
      refine sg_iald hx hb hK hP 29 (by decide) 0 rfl rfl (i := x0) (vp_in_iff.mpr ⟨by omega, by omega⟩) dX11_led_21 ?_
      refine lv_topi (fun v_5 ev_5 => ?_)
      have q_6 : (x0.toInt ≤ 3 ∧ v_5.toInt = 0) ∨ (x0.toInt = 4 ∧ v_5.toInt = -2) := by rw [ev_5]; exact f0X_led (by omega) (by omega)
      rcases (show (x0.toInt ≤ 3 ∧ v_5.toInt = 0) ∨ (x0.toInt = 4 ∧ v_5.toInt = -2) from by omega) with z | z <;> exact hret _ _ _ _ (v_5) f0X L0 Q0 dX11_led_22 hP hS ⟨trivial, (by first | exact Or.inl (by omega) | exact Or.inr (Or.inl (by omega)) | exact Or.inr (Or.inr ((by omega))))⟩
    · skip
      have c_4 : 5 ≤ x0.toInt := (by have z := bn_nlt c; have k1 : (5 : Int32).toInt = 5 := (by decide); omega)
      refine lv_iconst (v := (-1)) hx hb dX11_led_9 (by decide) ?_
      refine lv_goto (tgt := 22) hx hb dX11_led_10 (by decide) ?_
      exact hret _ _ _ _ (-1) f0X L0 Q0 dX11_led_22 hP hS ⟨trivial, (by first | exact Or.inl (by have k9 : ((-1) : Int32).toInt = (-1) := (by decide); omega) | exact Or.inr (Or.inl (by have k9 : ((-1) : Int32).toInt = (-1) := (by decide); omega)) | exact Or.inr (Or.inr ((by have k9 : ((-1) : Int32).toInt = (-1) := (by decide); omega))))⟩

set_option maxHeartbeats 4000000 in
set_option maxRecDepth 100000 in
theorem cf_X2_keepImage (l : Launch) (D : va_G) (ca : Nat → ClassId) (za h : Nat → Nat) (hh : sgH 52 h)  (sz : Nat) : Met l yX2_keepImage gwX2_keepImage { frames := 1, cells := 0, slots := 0, locals := 64 } (sgP D vwCl (tyX ca) 52 h (eX ca h) zcX za f0X L0 Q0 sz [.ref (h 28)]) (sgQi D vwCl 52 h (eX ca h) sz (fun r f1 L1 Q1 => True ∧ ((r = 0 ∧ (True))))) 0 0 (sgA 52 h sz) := by
  refine sg_ofWi (cc := cX2_keepImage) (maxL := 1) RX2 (by decide) rfl rfl (Nat.le_of_ble_eq_true rfl) ?_
  intro p e s m below meth cd Qz ls hx hb hml hown hts hK hZ hP hS hl hret
  have hA := sgY.self (n := 52) (h := h) (sz := s.heap.size)
  have hl : lv_has ls 1 [(0, .ref (h 28))] := hl
  obtain ⟨H, hH⟩ : ∃ z : Heap, z = s.heap := ⟨_, rfl⟩
  obtain ⟨locs, hlo⟩ : ∃ z : List Loc, z = [] := ⟨_, rfl⟩
  have hP : va_P D vwCl (sgw 52 h (eX ca h) f0X L0 Q0) H := by rw [hH]; exact hP
  have hS : va_S (sgA 52 h s.heap.size) s.heap H locs := by rw [hH, hlo]; exact hS
  suffices hgo : W p l e ({ frames := 1, cells := 0, slots := 0, locals := 64 }) s m ([.ref (h 28)] : List Value).toArray below meth cd H locs 0 0 Qz (F0 m 0 ls []) by rw [hH, hlo] at hgo; exact hgo
  refine lv_aload_n hx hb dX2_keepImage_0 rfl (lv_at hl 0 rfl) ?_
  refine sg_get (ci := 2) (v := .ref (h 29)) (C := RX2) (T := TX2) (N := 6) hx hb hts (fun w h => List.mem_cons_of_mem _ (gx_2 w h)) hown hK hP 28 (by decide) rfl rfl 2 (by decide) (hts _ (List.mem_cons_of_mem _ mw_136)) (fun _ h9 => h9) rfl dX2_keepImage_1 ?_
  refine lv_iconst (v := 0) hx hb dX2_keepImage_4 (by decide) ?_
  refine lv_aload_n hx hb dX2_keepImage_5 rfl (lv_at hl 0 rfl) ?_
  refine sg_get (ci := 2) (v := .ref (h 30)) (C := RX2) (T := TX2) (N := 6) hx hb hts (fun w h => List.mem_cons_of_mem _ (gx_2 w h)) hown hK hP 28 (by decide) rfl rfl 3 (by decide) (hts _ (List.mem_cons_of_mem _ mw_155)) (fun _ h9 => h9) rfl dX2_keepImage_6 ?_
  refine lv_iconst (v := 0) hx hb dX2_keepImage_9 (by decide) ?_
  refine lv_iconst (v := 5) hx hb dX2_keepImage_10 (by decide) ?_
  refine sg_copyi hx hb (hml.trans hl.1.symm) hown (hts _ (List.mem_cons_of_mem _ mw_156)) (hts _ (List.mem_cons_of_mem _ mw_157)) (hts _ (List.mem_cons_of_mem _ mw_158)) (hts _ (List.mem_cons_of_mem _ mw_159)) hh hA hK hP hS 29 30 (by decide) (by decide) 0 0 rfl (fun _ => rfl) rfl rfl (sp := 0) (dp := 0) (nn := 5) (by decide) (by decide) (by decide) (by decide) (by decide) (Nat.le_of_ble_eq_true rfl) (Nat.le_of_ble_eq_true rfl) dX2_keepImage_11 (fun f_1 H locs ef_1 hP hS => ?_)
  refine lv_aload_n hx hb dX2_keepImage_14 rfl (lv_at hl 0 rfl) ?_
  refine sg_get (ci := 2) (v := .ref (h 1)) (C := RX2) (T := TX2) (N := 6) hx hb hts (fun w h => List.mem_cons_of_mem _ (gx_2 w h)) hown hK hP 28 (by decide) rfl rfl 0 (by decide) (hts _ (List.mem_cons_of_mem _ mw_130)) (fun _ h9 => h9) rfl dX2_keepImage_15 ?_
  refine sg_get (ci := 0) (v := .ref (h 3)) (C := RX0) (T := TX0) (N := 5) hx hb hts (fun w h => List.mem_cons_of_mem _ (gx_0 w h)) hown hK hP 1 (by decide) rfl rfl 1 (by decide) (hts _ (List.mem_cons_of_mem _ mw_131)) (fun _ h9 => h9) rfl dX2_keepImage_18 ?_
  refine lv_iconst (v := 0) hx hb dX2_keepImage_21 (by decide) ?_
  refine lv_aload_n hx hb dX2_keepImage_22 rfl (lv_at hl 0 rfl) ?_
  refine sg_get (ci := 2) (v := .ref (h 31)) (C := RX2) (T := TX2) (N := 6) hx hb hts (fun w h => List.mem_cons_of_mem _ (gx_2 w h)) hown hK hP 28 (by decide) rfl rfl 4 (by decide) (hts _ (List.mem_cons_of_mem _ mw_160)) (fun _ h9 => h9) rfl dX2_keepImage_23 ?_
  refine lv_iconst (v := 0) hx hb dX2_keepImage_26 (by decide) ?_
  refine lv_iconst (v := 3) hx hb dX2_keepImage_27 (by decide) ?_
  refine sg_copyi hx hb (hml.trans hl.1.symm) hown (hts _ (List.mem_cons_of_mem _ mw_156)) (hts _ (List.mem_cons_of_mem _ mw_157)) (hts _ (List.mem_cons_of_mem _ mw_158)) (hts _ (List.mem_cons_of_mem _ mw_159)) hh hA hK hP hS 3 31 (by decide) (by decide) 0 0 rfl (fun _ => rfl) rfl rfl (sp := 0) (dp := 0) (nn := 3) (by decide) (by decide) (by decide) (by decide) (by decide) (Nat.le_of_ble_eq_true rfl) (Nat.le_of_ble_eq_true rfl) dX2_keepImage_28 (fun f_2 H locs ef_2 hP hS => ?_)
  refine lv_aload_n hx hb dX2_keepImage_31 rfl (lv_at hl 0 rfl) ?_
  refine lv_iconst (v := 1) hx hb dX2_keepImage_32 (by decide) ?_
  refine sg_put (ci := 2) (x := 1) (ty := .boolean) (C := RX2) (T := TX2) (N := 6) hx hb hts (fun w h => List.mem_cons_of_mem _ (gx_2 w h)) tyX2 tyX2_ok nmX2 hown hh hA hK hP hS 28 (by decide) rfl rfl 5 (by decide) (hts _ (List.mem_cons_of_mem _ mw_161)) (fun _ h9 => h9) rfl rfl (by decide +kernel) (by decide) (by decide) (Nat.le_of_ble_eq_true rfl) dX2_keepImage_33 (fun f_3 H locs ef_3 hP hS => ?_)
  refine lv_aload_n hx hb dX2_keepImage_36 rfl (lv_at hl 0 rfl) ?_
  refine sg_get (ci := 2) (v := .ref (h 29)) (C := RX2) (T := TX2) (N := 6) hx hb hts (fun w h => List.mem_cons_of_mem _ (gx_2 w h)) hown hK hP 28 (by decide) rfl rfl 2 (by decide) (hts _ (List.mem_cons_of_mem _ mw_136)) (fun _ h9 => h9) rfl dX2_keepImage_37 ?_
  refine lv_iconst (v := 0) hx hb dX2_keepImage_40 (by decide) ?_
  refine sg_iald hx hb hK hP 29 (by decide) 0 rfl rfl (i := 0) (vp_in_iff.mpr (by decide)) dX2_keepImage_41 ?_
  refine W.eq (g2 := F0 m 42 ls [.int 0]) (by rw [show f_3 29 (Int32.toNatClampNeg 0) = 0 from (by rw [ef_3]; exact (show _ = _ from (by rw [ef_2]; exact (show _ = _ from (by rw [ef_1]; exact rfl)))))]) ?_
  exact hret _ _ _ _ (0) f_3 L0 Q0 dX2_keepImage_42 hP hS ⟨trivial, ⟨rfl, trivial⟩⟩

set_option maxHeartbeats 4000000 in
set_option maxRecDepth 100000 in
theorem cf_X11_image (l : Launch) (D : va_G) (ca : Nat → ClassId) (za h : Nat → Nat) (hh : sgH 52 h)  (sz : Nat) : Met l yX11_image gwX11_image { frames := 2, cells := 0, slots := 0, locals := 84 } (sgP D vwCl (tyX ca) 52 h (eX ca h) zcX za f0X L0 Q0 sz [.ref (h 0)]) (sgQi D vwCl 52 h (eX ca h) sz (fun r f1 L1 Q1 => True ∧ ((r = 0 ∧ (True))))) 0 0 (sgA 52 h sz) := by
  refine sg_ofWi (cc := cX11_image) (maxL := 1) RX11 (by decide) rfl rfl (Nat.le_of_ble_eq_true rfl) ?_
  intro p e s m below meth cd Qz ls hx hb hml hown hts hK hZ hP hS hl hret
  have hA := sgY.self (n := 52) (h := h) (sz := s.heap.size)
  have hl : lv_has ls 1 [(0, .ref (h 0))] := hl
  obtain ⟨H, hH⟩ : ∃ z : Heap, z = s.heap := ⟨_, rfl⟩
  obtain ⟨locs, hlo⟩ : ∃ z : List Loc, z = [] := ⟨_, rfl⟩
  have hP : va_P D vwCl (sgw 52 h (eX ca h) f0X L0 Q0) H := by rw [hH]; exact hP
  have hS : va_S (sgA 52 h s.heap.size) s.heap H locs := by rw [hH, hlo]; exact hS
  suffices hgo : W p l e ({ frames := 2, cells := 0, slots := 0, locals := 84 }) s m ([.ref (h 0)] : List Value).toArray below meth cd H locs 0 0 Qz (F0 m 0 ls []) by rw [hH, hlo] at hgo; exact hgo
  refine lv_aload_n hx hb dX11_image_0 rfl (lv_at hl 0 rfl) ?_
  refine sg_get (ci := 11) (v := .ref (h 28)) (C := RX11) (T := TX11) (N := 10) hx hb hts (fun w h => List.mem_cons_of_mem _ (gx_11 w h)) hown hK hP 0 (by decide) rfl rfl 6 (by decide) (hts _ (List.mem_cons_of_mem _ mw_137)) (fun _ h9 => h9) rfl dX11_image_1 ?_
  refine sg_calli (va_runV (As := []) (rest := []) ⟨hx, hb, hml, hown, hts⟩ (cf_X2_keepImage l D ca za h hh H.size) (cwV 0 hts (gw_V (fun _ h => List.mem_cons_of_mem _ h) mw_163 mw_164 mw_165 mw_142 mw_162) rfl rfl rfl (by decide +kernel) ⟨Nat.le_of_ble_eq_true rfl, Nat.le_of_ble_eq_true rfl⟩) (sg_preV (ci := 2) (C := RX2) (T := TX2) (N := 6) hA hK hP hS hZ 28 (by decide) rfl rfl) rfl rfl hl.1 rfl (lv_room (Nat.le_of_ble_eq_true rfl)) dX11_image_4 ⟨Nat.le_refl _, Nat.le_refl _⟩) hA hS (fun r_4 f_1 L_2 Q_3 H locs hq hP hS => ?_)
  obtain ⟨-, hq⟩ := hq
  obtain ⟨rfl, hq⟩ := hq
  have q_5 := hq
  exact hret _ _ _ _ (0) f_1 L_2 Q_3 dX11_image_7 hP hS ⟨trivial, ⟨rfl, trivial⟩⟩

set_option maxHeartbeats 4000000 in
set_option maxRecDepth 100000 in
theorem cf_X2_layBack (l : Launch) (D : va_G) (ca : Nat → ClassId) (za h : Nat → Nat) (hh : sgH 52 h)  (sz : Nat) : Met l yX2_layBack gwX2_layBack { frames := 0, cells := 0, slots := 0, locals := 0 } (sgP D vwCl (tyX ca) 52 h (eX ca h) zcX za f0X L0 Q0 sz [.ref (h 28)]) (sgQi D vwCl 52 h (eX ca h) sz (fun r f1 L1 Q1 => True ∧ ((r = (-5) ∧ (True))))) 0 0 (sgA 52 h sz) := by
  refine sg_ofWi (cc := cX2_layBack) (maxL := 1) RX2 (by decide) rfl rfl (Nat.le_of_ble_eq_true rfl) ?_
  intro p e s m below meth cd Qz ls hx hb hml hown hts hK hZ hP hS hl hret
  have hA := sgY.self (n := 52) (h := h) (sz := s.heap.size)
  have hl : lv_has ls 1 [(0, .ref (h 28))] := hl
  obtain ⟨H, hH⟩ : ∃ z : Heap, z = s.heap := ⟨_, rfl⟩
  obtain ⟨locs, hlo⟩ : ∃ z : List Loc, z = [] := ⟨_, rfl⟩
  have hP : va_P D vwCl (sgw 52 h (eX ca h) f0X L0 Q0) H := by rw [hH]; exact hP
  have hS : va_S (sgA 52 h s.heap.size) s.heap H locs := by rw [hH, hlo]; exact hS
  suffices hgo : W p l e ({ frames := 0, cells := 0, slots := 0, locals := 0 }) s m ([.ref (h 28)] : List Value).toArray below meth cd H locs 0 0 Qz (F0 m 0 ls []) by rw [hH, hlo] at hgo; exact hgo
  refine lv_aload_n hx hb dX2_layBack_0 rfl (lv_at hl 0 rfl) ?_
  refine sg_get (ci := 2) (v := .int 0) (C := RX2) (T := TX2) (N := 6) hx hb hts (fun w h => List.mem_cons_of_mem _ (gx_2 w h)) hown hK hP 28 (by decide) rfl rfl 5 (by decide) (hts _ (List.mem_cons_of_mem _ mw_161)) (fun _ h9 => h9) rfl dX2_layBack_1 ?_
  refine lv_if_ne (tgt := 10) hx hb dX2_layBack_4 (by decide) (fun c => absurd c (by decide)) (fun c => ?_)
  refine lv_bipush (v := (-5)) hx hb dX2_layBack_7 (by decide) ?_
  exact hret _ _ _ _ (-5) f0X L0 Q0 dX2_layBack_9 hP hS ⟨trivial, ⟨rfl, trivial⟩⟩

set_option maxHeartbeats 4000000 in
set_option maxRecDepth 100000 in
theorem cf_X11_back (l : Launch) (D : va_G) (ca : Nat → ClassId) (za h : Nat → Nat) (hh : sgH 52 h)  (sz : Nat) : Met l yX11_back gwX11_back { frames := 1, cells := 0, slots := 0, locals := 20 } (sgP D vwCl (tyX ca) 52 h (eX ca h) zcX za f0X L0 Q0 sz [.ref (h 0)]) (sgQi D vwCl 52 h (eX ca h) sz (fun r f1 L1 Q1 => True ∧ ((r = (-5) ∧ (True))))) 0 0 (sgA 52 h sz) := by
  refine sg_ofWi (cc := cX11_back) (maxL := 1) RX11 (by decide) rfl rfl (Nat.le_of_ble_eq_true rfl) ?_
  intro p e s m below meth cd Qz ls hx hb hml hown hts hK hZ hP hS hl hret
  have hA := sgY.self (n := 52) (h := h) (sz := s.heap.size)
  have hl : lv_has ls 1 [(0, .ref (h 0))] := hl
  obtain ⟨H, hH⟩ : ∃ z : Heap, z = s.heap := ⟨_, rfl⟩
  obtain ⟨locs, hlo⟩ : ∃ z : List Loc, z = [] := ⟨_, rfl⟩
  have hP : va_P D vwCl (sgw 52 h (eX ca h) f0X L0 Q0) H := by rw [hH]; exact hP
  have hS : va_S (sgA 52 h s.heap.size) s.heap H locs := by rw [hH, hlo]; exact hS
  suffices hgo : W p l e ({ frames := 1, cells := 0, slots := 0, locals := 20 }) s m ([.ref (h 0)] : List Value).toArray below meth cd H locs 0 0 Qz (F0 m 0 ls []) by rw [hH, hlo] at hgo; exact hgo
  refine lv_aload_n hx hb dX11_back_0 rfl (lv_at hl 0 rfl) ?_
  refine sg_get (ci := 11) (v := .ref (h 28)) (C := RX11) (T := TX11) (N := 10) hx hb hts (fun w h => List.mem_cons_of_mem _ (gx_11 w h)) hown hK hP 0 (by decide) rfl rfl 6 (by decide) (hts _ (List.mem_cons_of_mem _ mw_137)) (fun _ h9 => h9) rfl dX11_back_1 ?_
  refine sg_calli (va_runV (As := []) (rest := []) ⟨hx, hb, hml, hown, hts⟩ (cf_X2_layBack l D ca za h hh H.size) (cwV 0 hts (gw_V (fun _ h => List.mem_cons_of_mem _ h) mw_167 mw_168 mw_169 mw_142 mw_166) rfl rfl rfl (by decide +kernel) ⟨Nat.le_of_ble_eq_true rfl, Nat.le_of_ble_eq_true rfl⟩) (sg_preV (ci := 2) (C := RX2) (T := TX2) (N := 6) hA hK hP hS hZ 28 (by decide) rfl rfl) rfl rfl hl.1 rfl (lv_room (Nat.le_of_ble_eq_true rfl)) dX11_back_4 ⟨Nat.le_refl _, Nat.le_refl _⟩) hA hS (fun r_4 f_1 L_2 Q_3 H locs hq hP hS => ?_)
  obtain ⟨-, hq⟩ := hq
  obtain ⟨rfl, hq⟩ := hq
  have q_5 := hq
  exact hret _ _ _ _ (-5) f_1 L_2 Q_3 dX11_back_7 hP hS ⟨trivial, ⟨rfl, trivial⟩⟩

set_option maxHeartbeats 4000000 in
set_option maxRecDepth 100000 in
theorem cf_X11_undo (l : Launch) (D : va_G) (ca : Nat → ClassId) (za h : Nat → Nat) (hh : sgH 52 h)  (sz : Nat) : Met l yX11_undo gwX11_undo { frames := 0, cells := 0, slots := 0, locals := 0 } (sgP D vwCl (tyX ca) 52 h (eX ca h) zcX za f0X L0 Q0 sz [.ref (h 0)]) (sgQi D vwCl 52 h (eX ca h) sz (fun r f1 L1 Q1 => True ∧ ((r = (-5) ∧ (True))))) 0 0 (sgA 52 h sz) := by
  refine sg_ofWi (cc := cX11_undo) (maxL := 1) RX11 (by decide) rfl rfl (Nat.le_of_ble_eq_true rfl) ?_
  intro p e s m below meth cd Qz ls hx hb hml hown hts hK hZ hP hS hl hret
  have hA := sgY.self (n := 52) (h := h) (sz := s.heap.size)
  have hl : lv_has ls 1 [(0, .ref (h 0))] := hl
  obtain ⟨H, hH⟩ : ∃ z : Heap, z = s.heap := ⟨_, rfl⟩
  obtain ⟨locs, hlo⟩ : ∃ z : List Loc, z = [] := ⟨_, rfl⟩
  have hP : va_P D vwCl (sgw 52 h (eX ca h) f0X L0 Q0) H := by rw [hH]; exact hP
  have hS : va_S (sgA 52 h s.heap.size) s.heap H locs := by rw [hH, hlo]; exact hS
  suffices hgo : W p l e ({ frames := 0, cells := 0, slots := 0, locals := 0 }) s m ([.ref (h 0)] : List Value).toArray below meth cd H locs 0 0 Qz (F0 m 0 ls []) by rw [hH, hlo] at hgo; exact hgo
  refine lv_aload_n hx hb dX11_undo_0 rfl (lv_at hl 0 rfl) ?_
  refine sg_get (ci := 11) (v := .ref (h 32)) (C := RX11) (T := TX11) (N := 10) hx hb hts (fun w h => List.mem_cons_of_mem _ (gx_11 w h)) hown hK hP 0 (by decide) rfl rfl 7 (by decide) (hts _ (List.mem_cons_of_mem _ mw_53)) (fun _ h9 => h9) rfl dX11_undo_1 ?_
  refine sg_get (ci := 1) (v := .int 0) (C := RX1) (T := TX1) (N := 5) hx hb hts (fun w h => List.mem_cons_of_mem _ (gx_1 w h)) hown hK hP 32 (by decide) rfl rfl 3 (by decide) (hts _ (List.mem_cons_of_mem _ mw_170)) (fun _ h9 => h9) rfl dX11_undo_4 ?_
  refine lv_if_ne (tgt := 13) hx hb dX11_undo_7 (by decide) (fun c => absurd c (by decide)) (fun c => ?_)
  refine lv_bipush (v := (-5)) hx hb dX11_undo_10 (by decide) ?_
  exact hret _ _ _ _ (-5) f0X L0 Q0 dX11_undo_12 hP hS ⟨trivial, ⟨rfl, trivial⟩⟩

set_option maxHeartbeats 4000000 in
set_option maxRecDepth 100000 in
theorem cf_X11_redo (l : Launch) (D : va_G) (ca : Nat → ClassId) (za h : Nat → Nat) (hh : sgH 52 h)  (sz : Nat) : Met l yX11_redo gwX11_redo { frames := 0, cells := 0, slots := 0, locals := 0 } (sgP D vwCl (tyX ca) 52 h (eX ca h) zcX za f0X L0 Q0 sz [.ref (h 0)]) (sgQi D vwCl 52 h (eX ca h) sz (fun r f1 L1 Q1 => True ∧ ((r = (-5) ∧ (True))))) 0 0 (sgA 52 h sz) := by
  refine sg_ofWi (cc := cX11_redo) (maxL := 1) RX11 (by decide) rfl rfl (Nat.le_of_ble_eq_true rfl) ?_
  intro p e s m below meth cd Qz ls hx hb hml hown hts hK hZ hP hS hl hret
  have hA := sgY.self (n := 52) (h := h) (sz := s.heap.size)
  have hl : lv_has ls 1 [(0, .ref (h 0))] := hl
  obtain ⟨H, hH⟩ : ∃ z : Heap, z = s.heap := ⟨_, rfl⟩
  obtain ⟨locs, hlo⟩ : ∃ z : List Loc, z = [] := ⟨_, rfl⟩
  have hP : va_P D vwCl (sgw 52 h (eX ca h) f0X L0 Q0) H := by rw [hH]; exact hP
  have hS : va_S (sgA 52 h s.heap.size) s.heap H locs := by rw [hH, hlo]; exact hS
  suffices hgo : W p l e ({ frames := 0, cells := 0, slots := 0, locals := 0 }) s m ([.ref (h 0)] : List Value).toArray below meth cd H locs 0 0 Qz (F0 m 0 ls []) by rw [hH, hlo] at hgo; exact hgo
  refine lv_aload_n hx hb dX11_redo_0 rfl (lv_at hl 0 rfl) ?_
  refine sg_get (ci := 11) (v := .ref (h 32)) (C := RX11) (T := TX11) (N := 10) hx hb hts (fun w h => List.mem_cons_of_mem _ (gx_11 w h)) hown hK hP 0 (by decide) rfl rfl 7 (by decide) (hts _ (List.mem_cons_of_mem _ mw_53)) (fun _ h9 => h9) rfl dX11_redo_1 ?_
  refine sg_get (ci := 1) (v := .int 0) (C := RX1) (T := TX1) (N := 5) hx hb hts (fun w h => List.mem_cons_of_mem _ (gx_1 w h)) hown hK hP 32 (by decide) rfl rfl 3 (by decide) (hts _ (List.mem_cons_of_mem _ mw_170)) (fun _ h9 => h9) rfl dX11_redo_4 ?_
  refine lv_aload_n hx hb dX11_redo_7 rfl (lv_at hl 0 rfl) ?_
  refine sg_get (ci := 11) (v := .ref (h 32)) (C := RX11) (T := TX11) (N := 10) hx hb hts (fun w h => List.mem_cons_of_mem _ (gx_11 w h)) hown hK hP 0 (by decide) rfl rfl 7 (by decide) (hts _ (List.mem_cons_of_mem _ mw_53)) (fun _ h9 => h9) rfl dX11_redo_8 ?_
  refine sg_get (ci := 1) (v := .int 0) (C := RX1) (T := TX1) (N := 5) hx hb hts (fun w h => List.mem_cons_of_mem _ (gx_1 w h)) hown hK hP 32 (by decide) rfl rfl 4 (by decide) (hts _ (List.mem_cons_of_mem _ mw_171)) (fun _ h9 => h9) rfl dX11_redo_11 ?_
  refine lv_icmp_lt (tgt := 20) hx hb dX11_redo_14 (by decide) (fun c => absurd c (by decide)) (fun c => ?_)
  refine lv_bipush (v := (-5)) hx hb dX11_redo_17 (by decide) ?_
  exact hret _ _ _ _ (-5) f0X L0 Q0 dX11_redo_19 hP hS ⟨trivial, ⟨rfl, trivial⟩⟩

set_option maxHeartbeats 4000000 in
set_option maxRecDepth 100000 in
theorem cf_X3_comes (l : Launch) (D : va_G) (ca : Nat → ClassId) (za h : Nat → Nat) (hh : sgH 52 h) (x0 : Int32) (sz : Nat) : Met l yX3_comes gwX3_comes { frames := 0, cells := 0, slots := 0, locals := 0 } (sgP D vwCl (tyX ca) 52 h (eX ca h) zcX za f0X L0 Q0 sz [.ref (h 36), .int x0]) (sgQi D vwCl 52 h (eX ca h) sz (fun r f1 L1 Q1 => True ∧ ((r = 0 ∧ (True))))) 0 0 (sgA 52 h sz) := by
  refine sg_ofWi (cc := cX3_comes) (maxL := 2) RX3 (by decide) rfl rfl (Nat.le_of_ble_eq_true rfl) ?_
  intro p e s m below meth cd Qz ls hx hb hml hown hts hK hZ hP hS hl hret
  have hA := sgY.self (n := 52) (h := h) (sz := s.heap.size)
  have hl : lv_has ls 2 [(0, .ref (h 36)), (1, .int x0)] := hl
  obtain ⟨H, hH⟩ : ∃ z : Heap, z = s.heap := ⟨_, rfl⟩
  obtain ⟨locs, hlo⟩ : ∃ z : List Loc, z = [] := ⟨_, rfl⟩
  have hP : va_P D vwCl (sgw 52 h (eX ca h) f0X L0 Q0) H := by rw [hH]; exact hP
  have hS : va_S (sgA 52 h s.heap.size) s.heap H locs := by rw [hH, hlo]; exact hS
  suffices hgo : W p l e ({ frames := 0, cells := 0, slots := 0, locals := 0 }) s m ([.ref (h 36), .int x0] : List Value).toArray below meth cd H locs 0 0 Qz (F0 m 0 ls []) by rw [hH, hlo] at hgo; exact hgo
  refine lv_aload_n hx hb dX3_comes_0 rfl (lv_at hl 0 rfl) ?_
  refine sg_get (ci := 3) (v := .int 0) (C := RX3) (T := TX3) (N := 6) hx hb hts (fun w h => List.mem_cons_of_mem _ (gx_3 w h)) hown hK hP 36 (by decide) rfl rfl 2 (by decide) (hts _ (List.mem_cons_of_mem _ mw_172)) (fun _ h9 => h9) rfl dX3_comes_1 ?_
  refine lv_bipush (v := 50) hx hb dX3_comes_4 (by decide) ?_
  refine lv_icmp_lt (tgt := 12) hx hb dX3_comes_6 (by decide) (fun c => ?_) (fun c => absurd c (by decide))
  refine lv_aload_n hx hb dX3_comes_12 rfl (lv_at hl 0 rfl) ?_
  refine sg_get (ci := 3) (v := .ref (h 37)) (C := RX3) (T := TX3) (N := 6) hx hb hts (fun w h => List.mem_cons_of_mem _ (gx_3 w h)) hown hK hP 36 (by decide) rfl rfl 0 (by decide) (hts _ (List.mem_cons_of_mem _ mw_173)) (fun _ h9 => h9) rfl dX3_comes_13 ?_
  refine lv_aload_n hx hb dX3_comes_16 rfl (lv_at hl 0 rfl) ?_
  refine sg_get (ci := 3) (v := .int 0) (C := RX3) (T := TX3) (N := 6) hx hb hts (fun w h => List.mem_cons_of_mem _ (gx_3 w h)) hown hK hP 36 (by decide) rfl rfl 2 (by decide) (hts _ (List.mem_cons_of_mem _ mw_172)) (fun _ h9 => h9) rfl dX3_comes_17 ?_
  refine lv_iload_n hx hb dX3_comes_20 rfl (lv_at hl 1 rfl) ?_
  refine sg_iast hx hb hh hA hK hP hS 37 (by decide) 0 (fun _ => rfl) rfl (i := 0) (x := x0) (vp_in_iff.mpr (by decide)) dX3_comes_21 (fun f_1 H locs ef_1 hP hS => ?_)
  refine lv_aload_n hx hb dX3_comes_22 rfl (lv_at hl 0 rfl) ?_
  refine lv_dup hx hb dX3_comes_23 rfl ?_
  refine sg_get (ci := 3) (v := .int 0) (C := RX3) (T := TX3) (N := 6) hx hb hts (fun w h => List.mem_cons_of_mem _ (gx_3 w h)) hown hK hP 36 (by decide) rfl rfl 2 (by decide) (hts _ (List.mem_cons_of_mem _ mw_172)) (fun _ h9 => h9) (congrArg (fun z => some (Value.int z)) (show f_1 36 2 = 0 from (by rw [ef_1]; exact rfl))) dX3_comes_24 ?_
  refine lv_iconst (v := 1) hx hb dX3_comes_27 (by decide) ?_
  refine lv_iadd hx hb dX3_comes_28 ?_
  refine W.eq (g2 := F0 m 29 ls [.int 1, .ref (h 36)]) (by rw [show (0 + 1 : Int32) = 1 from by decide]) ?_
  refine sg_put (ci := 3) (x := 1) (ty := .int) (C := RX3) (T := TX3) (N := 6) hx hb hts (fun w h => List.mem_cons_of_mem _ (gx_3 w h)) tyX3 tyX3_ok nmX3 hown hh hA hK hP hS 36 (by decide) rfl rfl 2 (by decide) (hts _ (List.mem_cons_of_mem _ mw_172)) (fun _ h9 => h9) rfl rfl (by decide +kernel) rfl rfl (Nat.le_of_ble_eq_true rfl) dX3_comes_29 (fun f_2 H locs ef_2 hP hS => ?_)
  refine lv_aload_n hx hb dX3_comes_32 rfl (lv_at hl 0 rfl) ?_
  refine sg_get (ci := 3) (v := .int 1) (C := RX3) (T := TX3) (N := 6) hx hb hts (fun w h => List.mem_cons_of_mem _ (gx_3 w h)) hown hK hP 36 (by decide) rfl rfl 2 (by decide) (hts _ (List.mem_cons_of_mem _ mw_172)) (fun _ h9 => h9) (congrArg (fun z => some (Value.int z)) (show f_2 36 2 = 1 from (by rw [ef_2]; rfl))) dX3_comes_33 ?_
  refine lv_iconst (v := 1) hx hb dX3_comes_36 (by decide) ?_
  refine lv_isub hx hb dX3_comes_37 ?_
  refine W.eq (g2 := F0 m 38 ls [.int 0]) (by rw [show (1 - 1 : Int32) = 0 from by decide]) ?_
  exact hret _ _ _ _ (0) f_2 L0 Q0 dX3_comes_38 hP hS ⟨trivial, ⟨rfl, trivial⟩⟩

set_option maxHeartbeats 4000000 in
set_option maxRecDepth 100000 in
theorem cf_X11_body (l : Launch) (D : va_G) (ca : Nat → ClassId) (za h : Nat → Nat) (hh : sgH 52 h) (x0 : Int32) (sz : Nat) : Met l yX11_body gwX11_body { frames := 1, cells := 0, slots := 0, locals := 21 } (sgP D vwCl (tyX ca) 52 h (eX ca h) zcX za f0X L0 Q0 sz [.ref (h 0), .int x0]) (sgQi D vwCl 52 h (eX ca h) sz (fun r f1 L1 Q1 => True ∧ ((r = 0 ∧ ((0 ≤ x0.toInt ∧ x0.toInt ≤ 7))) ∨ (r = (-1) ∧ (¬ ((0 ≤ x0.toInt ∧ x0.toInt ≤ 7))))))) 0 0 (sgA 52 h sz) := by
  refine sg_ofWi (cc := cX11_body) (maxL := 2) RX11 (by decide) rfl rfl (Nat.le_of_ble_eq_true rfl) ?_
  intro p e s m below meth cd Qz ls hx hb hml hown hts hK hZ hP hS hl hret
  have hA := sgY.self (n := 52) (h := h) (sz := s.heap.size)
  have hl : lv_has ls 2 [(0, .ref (h 0)), (1, .int x0)] := hl
  obtain ⟨H, hH⟩ : ∃ z : Heap, z = s.heap := ⟨_, rfl⟩
  obtain ⟨locs, hlo⟩ : ∃ z : List Loc, z = [] := ⟨_, rfl⟩
  have hP : va_P D vwCl (sgw 52 h (eX ca h) f0X L0 Q0) H := by rw [hH]; exact hP
  have hS : va_S (sgA 52 h s.heap.size) s.heap H locs := by rw [hH, hlo]; exact hS
  suffices hgo : W p l e ({ frames := 1, cells := 0, slots := 0, locals := 21 }) s m ([.ref (h 0), .int x0] : List Value).toArray below meth cd H locs 0 0 Qz (F0 m 0 ls []) by rw [hH, hlo] at hgo; exact hgo
  refine lv_iload_n hx hb dX11_body_0 rfl (lv_at hl 1 rfl) ?_
  refine sg_calli (va_runS (As := [.int x0]) (rest := []) ⟨hx, hb, hml, hown, hts⟩ (cf_X11_isKind l D ca za h hh f0X L0 Q0 x0 H.size) (va_cwS 1 hts (gw_S (fun _ h => List.mem_cons_of_mem _ h) mw_175 mw_176 mw_9 mw_174) rfl rfl rfl (by decide +kernel) ⟨Nat.le_of_ble_eq_true rfl, Nat.le_of_ble_eq_true rfl⟩) (sg_preS hA hK hP hS hZ) rfl rfl hl.1 rfl (lv_room (Nat.le_of_ble_eq_true rfl)) dX11_body_1 ⟨Nat.le_refl _, Nat.le_refl _⟩) hA hS (fun r_4 f_1 L_2 Q_3 H locs hq hP hS => ?_)
  obtain ⟨⟨ef9, eL9, eQ9⟩, hq⟩ := hq
  rw [ef9, eL9, eQ9] at hP; clear ef9 eL9 eQ9
  rcases hq with ⟨rfl, hq⟩ | ⟨rfl, hq⟩
  · skip
    have q_5 := hq
    refine lv_if_eq (tgt := 18) hx hb dX11_body_4 (by decide) (fun c => absurd c (by decide)) (fun c => ?_)
    refine lv_aload_n hx hb dX11_body_7 rfl (lv_at hl 0 rfl) ?_
    refine sg_get (ci := 11) (v := .ref (h 36)) (C := RX11) (T := TX11) (N := 10) hx hb hts (fun w h => List.mem_cons_of_mem _ (gx_11 w h)) hown hK hP 0 (by decide) rfl rfl 8 (by decide) (hts _ (List.mem_cons_of_mem _ mw_177)) (fun _ h9 => h9) rfl dX11_body_8 ?_
    refine lv_iload_n hx hb dX11_body_11 rfl (lv_at hl 1 rfl) ?_
    refine sg_calli (va_runV (As := [.int x0]) (rest := []) ⟨hx, hb, hml, hown, hts⟩ (cf_X3_comes l D ca za h hh x0 H.size) (cwV 1 hts (gw_V (fun _ h => List.mem_cons_of_mem _ h) mw_179 mw_180 mw_181 mw_182 mw_178) rfl rfl rfl (by decide +kernel) ⟨Nat.le_of_ble_eq_true rfl, Nat.le_of_ble_eq_true rfl⟩) (sg_preV (ci := 3) (C := RX3) (T := TX3) (N := 6) hA hK hP hS hZ 36 (by decide) rfl rfl) rfl rfl hl.1 rfl (lv_room (Nat.le_of_ble_eq_true rfl)) dX11_body_12 ⟨Nat.le_refl _, Nat.le_refl _⟩) hA hS (fun r_9 f_6 L_7 Q_8 H locs hq hP hS => ?_)
    obtain ⟨-, hq⟩ := hq
    obtain ⟨rfl, hq⟩ := hq
    have q_10 := hq
    refine lv_goto (tgt := 19) hx hb dX11_body_15 (by decide) ?_
    exact hret _ _ _ _ (0) f_6 L_7 Q_8 dX11_body_19 hP hS ⟨trivial, Or.inl ⟨rfl, by omega⟩⟩
  · skip
    have q_11 := hq
    refine lv_if_eq (tgt := 18) hx hb dX11_body_4 (by decide) (fun c => ?_) (fun c => absurd c (by decide))
    refine lv_iconst (v := (-1)) hx hb dX11_body_18 (by decide) ?_
    exact hret _ _ _ _ (-1) f0X L0 Q0 dX11_body_19 hP hS ⟨trivial, Or.inr (⟨rfl, by omega⟩)⟩

set_option maxHeartbeats 4000000 in
set_option maxRecDepth 100000 in
theorem cf_X3_acts (l : Launch) (D : va_G) (ca : Nat → ClassId) (za h : Nat → Nat) (hh : sgH 52 h) (x0 : Int32) (x1 : Int32) (x2 : Int32) (sz : Nat) : Met l yX3_acts gwX3_acts { frames := 0, cells := 0, slots := 0, locals := 0 } (sgP D vwCl (tyX ca) 52 h (eX ca h) zcX za f0X L0 Q0 sz [.ref (h 36), .int x0, .int x1, .int x2]) (sgQi D vwCl 52 h (eX ca h) sz (fun r f1 L1 Q1 => True ∧ ((r = 0 ∧ (True))))) 0 0 (sgA 52 h sz) := by
  refine sg_ofWi (cc := cX3_acts) (maxL := 4) RX3 (by decide) rfl rfl (Nat.le_of_ble_eq_true rfl) ?_
  intro p e s m below meth cd Qz ls hx hb hml hown hts hK hZ hP hS hl hret
  have hA := sgY.self (n := 52) (h := h) (sz := s.heap.size)
  have hl : lv_has ls 4 [(0, .ref (h 36)), (1, .int x0), (2, .int x1), (3, .int x2)] := hl
  obtain ⟨H, hH⟩ : ∃ z : Heap, z = s.heap := ⟨_, rfl⟩
  obtain ⟨locs, hlo⟩ : ∃ z : List Loc, z = [] := ⟨_, rfl⟩
  have hP : va_P D vwCl (sgw 52 h (eX ca h) f0X L0 Q0) H := by rw [hH]; exact hP
  have hS : va_S (sgA 52 h s.heap.size) s.heap H locs := by rw [hH, hlo]; exact hS
  suffices hgo : W p l e ({ frames := 0, cells := 0, slots := 0, locals := 0 }) s m ([.ref (h 36), .int x0, .int x1, .int x2] : List Value).toArray below meth cd H locs 0 0 Qz (F0 m 0 ls []) by rw [hH, hlo] at hgo; exact hgo
  refine lv_aload_n hx hb dX3_acts_0 rfl (lv_at hl 0 rfl) ?_
  refine lv_iconst (v := 0) hx hb dX3_acts_1 (by decide) ?_
  refine sg_put (ci := 3) (x := 0) (ty := .int) (C := RX3) (T := TX3) (N := 6) hx hb hts (fun w h => List.mem_cons_of_mem _ (gx_3 w h)) tyX3 tyX3_ok nmX3 hown hh hA hK hP hS 36 (by decide) rfl rfl 3 (by decide) (hts _ (List.mem_cons_of_mem _ mw_183)) (fun _ h9 => h9) rfl rfl (by decide +kernel) rfl rfl (Nat.le_of_ble_eq_true rfl) dX3_acts_2 (fun f_1 H locs ef_1 hP hS => ?_)
  refine lv_iload_n hx hb dX3_acts_5 rfl (lv_at hl 1 rfl) ?_
  refine lv_if_lt (tgt := 26) hx hb dX3_acts_6 (by decide) (fun c => ?_) (fun c => ?_)
  · skip
    have c_2 : x0.toInt < 0 := (by have z := bn_lt c; have k1 : (0 : Int32).toInt = 0 := (by decide); omega)
    refine lv_iconst (v := 0) hx hb dX3_acts_26 (by decide) ?_
    exact hret _ _ _ _ (0) f_1 L0 Q0 dX3_acts_27 hP hS ⟨trivial, ⟨rfl, trivial⟩⟩
  · skip
    have c_3 : 0 ≤ x0.toInt := (by have z := bn_nlt c; have k1 : (0 : Int32).toInt = 0 := (by decide); omega)
    refine lv_iload_n hx hb dX3_acts_9 rfl (lv_at hl 1 rfl) ?_
    refine lv_aload_n hx hb dX3_acts_10 rfl (lv_at hl 0 rfl) ?_
    refine sg_get (ci := 3) (v := .int 0) (C := RX3) (T := TX3) (N := 6) hx hb hts (fun w h => List.mem_cons_of_mem _ (gx_3 w h)) hown hK hP 36 (by decide) rfl rfl 2 (by decide) (hts _ (List.mem_cons_of_mem _ mw_172)) (fun _ h9 => h9) (congrArg (fun z => some (Value.int z)) (show f_1 36 2 = 0 from (by rw [ef_1]; exact rfl))) dX3_acts_11 ?_
    refine lv_icmp_ge (tgt := 26) hx hb dX3_acts_14 (by decide) (fun c => ?_) (fun c => ?_)
    · skip
      have c_4 : 0 ≤ x0.toInt := (by have z := bn_le c; have k1 : (0 : Int32).toInt = 0 := (by decide); omega)
      refine lv_iconst (v := 0) hx hb dX3_acts_26 (by decide) ?_
      exact hret _ _ _ _ (0) f_1 L0 Q0 dX3_acts_27 hP hS ⟨trivial, ⟨rfl, trivial⟩⟩
    · skip
      exfalso; have c_5 : x0.toInt < 0 := (by have z := bn_nle c; have k1 : (0 : Int32).toInt = 0 := (by decide); omega); omega

set_option maxHeartbeats 4000000 in
set_option maxRecDepth 100000 in
theorem cf_X11_act (l : Launch) (D : va_G) (ca : Nat → ClassId) (za h : Nat → Nat) (hh : sgH 52 h) (x0 : Int32) (x1 : Int32) (x2 : Int32) (sz : Nat) : Met l yX11_act gwX11_act { frames := 1, cells := 0, slots := 0, locals := 23 } (sgP D vwCl (tyX ca) 52 h (eX ca h) zcX za f0X L0 Q0 sz [.ref (h 0), .int x0, .int x1, .int x2]) (sgQi D vwCl 52 h (eX ca h) sz (fun r f1 L1 Q1 => True ∧ ((r = 0 ∧ (True))))) 0 0 (sgA 52 h sz) := by
  refine sg_ofWi (cc := cX11_act) (maxL := 4) RX11 (by decide) rfl rfl (Nat.le_of_ble_eq_true rfl) ?_
  intro p e s m below meth cd Qz ls hx hb hml hown hts hK hZ hP hS hl hret
  have hA := sgY.self (n := 52) (h := h) (sz := s.heap.size)
  have hl : lv_has ls 4 [(0, .ref (h 0)), (1, .int x0), (2, .int x1), (3, .int x2)] := hl
  obtain ⟨H, hH⟩ : ∃ z : Heap, z = s.heap := ⟨_, rfl⟩
  obtain ⟨locs, hlo⟩ : ∃ z : List Loc, z = [] := ⟨_, rfl⟩
  have hP : va_P D vwCl (sgw 52 h (eX ca h) f0X L0 Q0) H := by rw [hH]; exact hP
  have hS : va_S (sgA 52 h s.heap.size) s.heap H locs := by rw [hH, hlo]; exact hS
  suffices hgo : W p l e ({ frames := 1, cells := 0, slots := 0, locals := 23 }) s m ([.ref (h 0), .int x0, .int x1, .int x2] : List Value).toArray below meth cd H locs 0 0 Qz (F0 m 0 ls []) by rw [hH, hlo] at hgo; exact hgo
  refine lv_aload_n hx hb dX11_act_0 rfl (lv_at hl 0 rfl) ?_
  refine sg_get (ci := 11) (v := .ref (h 36)) (C := RX11) (T := TX11) (N := 10) hx hb hts (fun w h => List.mem_cons_of_mem _ (gx_11 w h)) hown hK hP 0 (by decide) rfl rfl 8 (by decide) (hts _ (List.mem_cons_of_mem _ mw_177)) (fun _ h9 => h9) rfl dX11_act_1 ?_
  refine lv_iload_n hx hb dX11_act_4 rfl (lv_at hl 1 rfl) ?_
  refine lv_iload_n hx hb dX11_act_5 rfl (lv_at hl 2 rfl) ?_
  refine lv_iload_n hx hb dX11_act_6 rfl (lv_at hl 3 rfl) ?_
  refine sg_calli (va_runV (As := [.int x0, .int x1, .int x2]) (rest := []) ⟨hx, hb, hml, hown, hts⟩ (cf_X3_acts l D ca za h hh x0 x1 x2 H.size) (cwV 3 hts (gw_V (fun _ h => List.mem_cons_of_mem _ h) mw_185 mw_186 mw_187 mw_182 mw_184) rfl rfl rfl (by decide +kernel) ⟨Nat.le_of_ble_eq_true rfl, Nat.le_of_ble_eq_true rfl⟩) (sg_preV (ci := 3) (C := RX3) (T := TX3) (N := 6) hA hK hP hS hZ 36 (by decide) rfl rfl) rfl rfl hl.1 rfl (lv_room (Nat.le_of_ble_eq_true rfl)) dX11_act_7 ⟨Nat.le_refl _, Nat.le_refl _⟩) hA hS (fun r_4 f_1 L_2 Q_3 H locs hq hP hS => ?_)
  obtain ⟨-, hq⟩ := hq
  obtain ⟨rfl, hq⟩ := hq
  have q_5 := hq
  exact hret _ _ _ _ (0) f_1 L_2 Q_3 dX11_act_10 hP hS ⟨trivial, ⟨rfl, trivial⟩⟩

set_option maxHeartbeats 4000000 in
set_option maxRecDepth 100000 in
theorem cf_X11_trace (l : Launch) (D : va_G) (ca : Nat → ClassId) (za h : Nat → Nat) (hh : sgH 52 h) (x0 : Int32) (sz : Nat) : Met l yX11_trace gwX11_trace { frames := 1, cells := 0, slots := 0, locals := 21 } (sgP D vwCl (tyX ca) 52 h (eX ca h) zcX za f0X L0 Q0 sz [.ref (h 0), .int x0]) (sgQi D vwCl 52 h (eX ca h) sz (fun r f1 L1 Q1 => True ∧ ((r = (-1) ∧ (True))))) 0 0 (sgA 52 h sz) := by
  refine sg_ofWi (cc := cX11_trace) (maxL := 2) RX11 (by decide) rfl rfl (Nat.le_of_ble_eq_true rfl) ?_
  intro p e s m below meth cd Qz ls hx hb hml hown hts hK hZ hP hS hl hret
  have hA := sgY.self (n := 52) (h := h) (sz := s.heap.size)
  have hl : lv_has ls 2 [(0, .ref (h 0)), (1, .int x0)] := hl
  obtain ⟨H, hH⟩ : ∃ z : Heap, z = s.heap := ⟨_, rfl⟩
  obtain ⟨locs, hlo⟩ : ∃ z : List Loc, z = [] := ⟨_, rfl⟩
  have hP : va_P D vwCl (sgw 52 h (eX ca h) f0X L0 Q0) H := by rw [hH]; exact hP
  have hS : va_S (sgA 52 h s.heap.size) s.heap H locs := by rw [hH, hlo]; exact hS
  suffices hgo : W p l e ({ frames := 1, cells := 0, slots := 0, locals := 21 }) s m ([.ref (h 0), .int x0] : List Value).toArray below meth cd H locs 0 0 Qz (F0 m 0 ls []) by rw [hH, hlo] at hgo; exact hgo
  refine lv_iload_n hx hb dX11_trace_0 rfl (lv_at hl 1 rfl) ?_
  refine lv_if_lt (tgt := 20) hx hb dX11_trace_1 (by decide) (fun c => ?_) (fun c => ?_)
  · skip
    have c_1 : x0.toInt < 0 := (by have z := bn_lt c; have k1 : (0 : Int32).toInt = 0 := (by decide); omega)
    refine lv_iconst (v := (-1)) hx hb dX11_trace_20 (by decide) ?_
    refine lv_goto (tgt := 33) hx hb dX11_trace_21 (by decide) ?_
    exact hret _ _ _ _ (-1) f0X L0 Q0 dX11_trace_33 hP hS ⟨trivial, ⟨rfl, trivial⟩⟩
  · skip
    have c_2 : 0 ≤ x0.toInt := (by have z := bn_nlt c; have k1 : (0 : Int32).toInt = 0 := (by decide); omega)
    refine lv_iload_n hx hb dX11_trace_4 rfl (lv_at hl 1 rfl) ?_
    refine lv_aload_n hx hb dX11_trace_5 rfl (lv_at hl 0 rfl) ?_
    refine sg_get (ci := 11) (v := .ref (h 36)) (C := RX11) (T := TX11) (N := 10) hx hb hts (fun w h => List.mem_cons_of_mem _ (gx_11 w h)) hown hK hP 0 (by decide) rfl rfl 8 (by decide) (hts _ (List.mem_cons_of_mem _ mw_177)) (fun _ h9 => h9) rfl dX11_trace_6 ?_
    refine sg_get (ci := 3) (v := .int 0) (C := RX3) (T := TX3) (N := 6) hx hb hts (fun w h => List.mem_cons_of_mem _ (gx_3 w h)) hown hK hP 36 (by decide) rfl rfl 3 (by decide) (hts _ (List.mem_cons_of_mem _ mw_188)) (fun _ h9 => h9) rfl dX11_trace_9 ?_
    refine lv_bipush (v := 24) hx hb dX11_trace_12 (by decide) ?_
    refine va_mmin hx hb (hml.trans hl.1.symm) hown (hts _ (List.mem_cons_of_mem _ mw_189)) (hts _ (List.mem_cons_of_mem _ mw_190)) (hts _ (List.mem_cons_of_mem _ mw_134)) (hts _ (List.mem_cons_of_mem _ mw_191)) (Nat.le_of_ble_eq_true rfl) (Nat.le_of_ble_eq_true rfl) (Nat.le_refl _) (Nat.le_refl _) dX11_trace_14 ?_
    refine W.eq (g2 := F0 m 17 ls [.int 0, .int x0]) (by rfl) ?_
    refine lv_icmp_lt (tgt := 24) hx hb dX11_trace_17 (by decide) (fun c => ?_) (fun c => ?_)
    · skip
      exfalso; have c_3 : x0.toInt < 0 := (by have z := bn_lt c; have k1 : (0 : Int32).toInt = 0 := (by decide); omega); omega
    · skip
      have c_4 : 0 ≤ x0.toInt := (by have z := bn_nlt c; have k1 : (0 : Int32).toInt = 0 := (by decide); omega)
      refine lv_iconst (v := (-1)) hx hb dX11_trace_20 (by decide) ?_
      refine lv_goto (tgt := 33) hx hb dX11_trace_21 (by decide) ?_
      exact hret _ _ _ _ (-1) f0X L0 Q0 dX11_trace_33 hP hS ⟨trivial, ⟨rfl, trivial⟩⟩

set_option maxHeartbeats 4000000 in
set_option maxRecDepth 100000 in
theorem cf_X7_takesDesk (l : Launch) (D : va_G) (ca : Nat → ClassId) (za h : Nat → Nat) (hh : sgH 52 h) (x0 : Int32) (t : Nat) (ht_t : t < 6) (sz : Nat) : Met l yX7_takesDesk gwX7_takesDesk { frames := 0, cells := 0, slots := 0, locals := 0 } (sgP D vwCl (tyX ca) 52 h (eX ca h) zcX za f0X L0 Q0 sz [.ref (h (40 + 2 * t)), .int x0]) (sgQv D vwCl 52 h (eX ca h) sz (fun f1 L1 Q1 => True)) 0 0 (sgA 52 h sz) := by
  refine sg_ofWv (cc := cX7_takesDesk) (maxL := 2) RX7 (by decide) rfl rfl (Nat.le_of_ble_eq_true rfl) ?_
  intro p e s m below meth cd Qz ls hx hb hml hown hts hK hZ hP hS hl hret
  have hA := sgY.self (n := 52) (h := h) (sz := s.heap.size)
  have hl : lv_has ls 2 [(0, .ref (h (40 + 2 * t))), (1, .int x0)] := hl
  obtain ⟨H, hH⟩ : ∃ z : Heap, z = s.heap := ⟨_, rfl⟩
  obtain ⟨locs, hlo⟩ : ∃ z : List Loc, z = [] := ⟨_, rfl⟩
  have hP : va_P D vwCl (sgw 52 h (eX ca h) f0X L0 Q0) H := by rw [hH]; exact hP
  have hS : va_S (sgA 52 h s.heap.size) s.heap H locs := by rw [hH, hlo]; exact hS
  suffices hgo : W p l e ({ frames := 0, cells := 0, slots := 0, locals := 0 }) s m ([.ref (h (40 + 2 * t)), .int x0] : List Value).toArray below meth cd H locs 0 0 Qz (F0 m 0 ls []) by rw [hH, hlo] at hgo; exact hgo
  refine lv_aload_n hx hb dX7_takesDesk_0 rfl (lv_at hl 0 rfl) ?_
  refine lv_iload_n hx hb dX7_takesDesk_1 rfl (lv_at hl 1 rfl) ?_
  refine lv_if_ge (tgt := 9) hx hb dX7_takesDesk_2 (by decide) (fun c => ?_) (fun c => ?_)
  · skip
    have c_1 : 0 ≤ x0.toInt := (by have z := bn_le c; have k1 : (0 : Int32).toInt = 0 := (by decide); omega)
    refine lv_bipush (v := (-2)) hx hb dX7_takesDesk_9 (by decide) ?_
    refine sg_put (ci := 7) (x := (-2)) (ty := .int) (C := RX7) (T := TX7) (N := 4) hx hb hts (fun w h => List.mem_cons_of_mem _ (gx_7 w h)) tyX7 tyX7_ok nmX7 hown hh hA hK hP hS (40 + 2 * t) (by have := ht_t; omega) (eX_sh ca h ht_t _ _ _) rfl 1 (by decide) (hts _ (List.mem_cons_of_mem _ mw_192)) (fun _ h9 => h9) rfl (eX_sh ca h ht_t _ _ _) (by decide +kernel) rfl rfl (Nat.le_of_ble_eq_true rfl) dX7_takesDesk_11 (fun f_3 H locs ef_3 hP hS => ?_)
    refine lv_aload_n hx hb dX7_takesDesk_14 rfl (lv_at hl 0 rfl) ?_
    refine lv_iload_n hx hb dX7_takesDesk_15 rfl (lv_at hl 1 rfl) ?_
    refine sg_put (ci := 7) (x := x0) (ty := .int) (C := RX7) (T := TX7) (N := 4) hx hb hts (fun w h => List.mem_cons_of_mem _ (gx_7 w h)) tyX7 tyX7_ok nmX7 hown hh hA hK hP hS (40 + 2 * t) (by have := ht_t; omega) (eX_sh ca h ht_t _ _ _) rfl 3 (by decide) (hts _ (List.mem_cons_of_mem _ mw_193)) (fun _ h9 => h9) rfl (eX_sh ca h ht_t _ _ _) (by decide +kernel) rfl rfl (Nat.le_of_ble_eq_true rfl) dX7_takesDesk_16 (fun f_4 H locs ef_4 hP hS => ?_)
    exact hret _ _ _ _ f_4 L0 Q0 dX7_takesDesk_19 hP hS trivial
  · skip
    have c_2 : x0.toInt < 0 := (by have z := bn_nle c; have k1 : (0 : Int32).toInt = 0 := (by decide); omega)
    refine lv_iconst (v := (-1)) hx hb dX7_takesDesk_5 (by decide) ?_
    refine lv_goto (tgt := 11) hx hb dX7_takesDesk_6 (by decide) ?_
    refine sg_put (ci := 7) (x := (-1)) (ty := .int) (C := RX7) (T := TX7) (N := 4) hx hb hts (fun w h => List.mem_cons_of_mem _ (gx_7 w h)) tyX7 tyX7_ok nmX7 hown hh hA hK hP hS (40 + 2 * t) (by have := ht_t; omega) (eX_sh ca h ht_t _ _ _) rfl 1 (by decide) (hts _ (List.mem_cons_of_mem _ mw_192)) (fun _ h9 => h9) rfl (eX_sh ca h ht_t _ _ _) (by decide +kernel) rfl rfl (Nat.le_of_ble_eq_true rfl) dX7_takesDesk_11 (fun f_5 H locs ef_5 hP hS => ?_)
    refine lv_aload_n hx hb dX7_takesDesk_14 rfl (lv_at hl 0 rfl) ?_
    refine lv_iload_n hx hb dX7_takesDesk_15 rfl (lv_at hl 1 rfl) ?_
    refine sg_put (ci := 7) (x := x0) (ty := .int) (C := RX7) (T := TX7) (N := 4) hx hb hts (fun w h => List.mem_cons_of_mem _ (gx_7 w h)) tyX7 tyX7_ok nmX7 hown hh hA hK hP hS (40 + 2 * t) (by have := ht_t; omega) (eX_sh ca h ht_t _ _ _) rfl 3 (by decide) (hts _ (List.mem_cons_of_mem _ mw_193)) (fun _ h9 => h9) rfl (eX_sh ca h ht_t _ _ _) (by decide +kernel) rfl rfl (Nat.le_of_ble_eq_true rfl) dX7_takesDesk_16 (fun f_6 H locs ef_6 hP hS => ?_)
    exact hret _ _ _ _ f_6 L0 Q0 dX7_takesDesk_19 hP hS trivial

set_option maxHeartbeats 4000000 in
set_option maxRecDepth 100000 in
theorem cf_X11_keep (l : Launch) (D : va_G) (ca : Nat → ClassId) (za h : Nat → Nat) (hh : sgH 52 h) (x0 : Int32) (x1 : Int32) (sz : Nat) : Met l yX11_keep gwX11_keep { frames := 1, cells := 0, slots := 0, locals := 21 } (sgP D vwCl (tyX ca) 52 h (eX ca h) zcX za f0X L0 Q0 sz [.ref (h 0), .int x0, .int x1]) (sgQi D vwCl 52 h (eX ca h) sz (fun r f1 L1 Q1 => True ∧ ((r = 1 ∧ ((0 ≤ x0.toInt ∧ x0.toInt ≤ 5) ∧ x1.toInt = -1)) ∨ (r = (-1) ∧ (¬ ((0 ≤ x0.toInt ∧ x0.toInt ≤ 5) ∧ x1.toInt = -1)))))) 0 0 (sgA 52 h sz) := by
  refine sg_ofWi (cc := cX11_keep) (maxL := 3) RX11 (by decide) rfl rfl (Nat.le_of_ble_eq_true rfl) ?_
  intro p e s m below meth cd Qz ls hx hb hml hown hts hK hZ hP hS hl hret
  have hA := sgY.self (n := 52) (h := h) (sz := s.heap.size)
  have hl : lv_has ls 3 [(0, .ref (h 0)), (1, .int x0), (2, .int x1)] := hl
  obtain ⟨H, hH⟩ : ∃ z : Heap, z = s.heap := ⟨_, rfl⟩
  obtain ⟨locs, hlo⟩ : ∃ z : List Loc, z = [] := ⟨_, rfl⟩
  have hP : va_P D vwCl (sgw 52 h (eX ca h) f0X L0 Q0) H := by rw [hH]; exact hP
  have hS : va_S (sgA 52 h s.heap.size) s.heap H locs := by rw [hH, hlo]; exact hS
  suffices hgo : W p l e ({ frames := 1, cells := 0, slots := 0, locals := 21 }) s m ([.ref (h 0), .int x0, .int x1] : List Value).toArray below meth cd H locs 0 0 Qz (F0 m 0 ls []) by rw [hH, hlo] at hgo; exact hgo
  refine lv_iload_n hx hb dX11_keep_0 rfl (lv_at hl 1 rfl) ?_
  refine sg_calli (va_runS (As := [.int x0]) (rest := []) ⟨hx, hb, hml, hown, hts⟩ (cf_X11_isShelf l D ca za h hh f0X L0 Q0 x0 H.size) (va_cwS 1 hts (gw_S (fun _ h => List.mem_cons_of_mem _ h) mw_17 mw_18 mw_9 mw_16) rfl rfl rfl (by decide +kernel) ⟨Nat.le_of_ble_eq_true rfl, Nat.le_of_ble_eq_true rfl⟩) (sg_preS hA hK hP hS hZ) rfl rfl hl.1 rfl (lv_room (Nat.le_of_ble_eq_true rfl)) dX11_keep_1 ⟨Nat.le_refl _, Nat.le_refl _⟩) hA hS (fun r_4 f_1 L_2 Q_3 H locs hq hP hS => ?_)
  obtain ⟨⟨ef9, eL9, eQ9⟩, hq⟩ := hq
  rw [ef9, eL9, eQ9] at hP; clear ef9 eL9 eQ9
  rcases hq with ⟨rfl, hq⟩ | ⟨rfl, hq⟩
  · skip
    have q_5 := hq
    refine lv_if_eq (tgt := 23) hx hb dX11_keep_4 (by decide) (fun c => absurd c (by decide)) (fun c => ?_)
    refine lv_iload_n hx hb dX11_keep_7 rfl (lv_at hl 2 rfl) ?_
    refine lv_iconst (v := (-1)) hx hb dX11_keep_8 (by decide) ?_
    refine lv_icmp_lt (tgt := 23) hx hb dX11_keep_9 (by decide) (fun c => ?_) (fun c => ?_)
    · skip
      have c_6 : x1.toInt < (-1) := (by have z := bn_lt c; have k1 : ((-1) : Int32).toInt = (-1) := (by decide); omega)
      refine lv_iconst (v := (-1)) hx hb dX11_keep_23 (by decide) ?_
      exact hret _ _ _ _ (-1) f0X L0 Q0 dX11_keep_24 hP hS ⟨trivial, Or.inr (⟨rfl, by omega⟩)⟩
    · skip
      have c_7 : (-1) ≤ x1.toInt := (by have z := bn_nlt c; have k1 : ((-1) : Int32).toInt = (-1) := (by decide); omega)
      refine lv_iload_n hx hb dX11_keep_12 rfl (lv_at hl 2 rfl) ?_
      refine lv_aload_n hx hb dX11_keep_13 rfl (lv_at hl 0 rfl) ?_
      refine sg_get (ci := 11) (v := .ref (h 36)) (C := RX11) (T := TX11) (N := 10) hx hb hts (fun w h => List.mem_cons_of_mem _ (gx_11 w h)) hown hK hP 0 (by decide) rfl rfl 8 (by decide) (hts _ (List.mem_cons_of_mem _ mw_177)) (fun _ h9 => h9) rfl dX11_keep_14 ?_
      refine sg_get (ci := 3) (v := .int 0) (C := RX3) (T := TX3) (N := 6) hx hb hts (fun w h => List.mem_cons_of_mem _ (gx_3 w h)) hown hK hP 36 (by decide) rfl rfl 2 (by decide) (hts _ (List.mem_cons_of_mem _ mw_194)) (fun _ h9 => h9) rfl dX11_keep_17 ?_
      refine lv_icmp_lt (tgt := 25) hx hb dX11_keep_20 (by decide) (fun c => ?_) (fun c => ?_)
      · skip
        have c_8 : x1.toInt < 0 := (by have z := bn_lt c; have k1 : (0 : Int32).toInt = 0 := (by decide); omega)
        refine lv_aload_n hx hb dX11_keep_25 rfl (lv_at hl 0 rfl) ?_
        refine sg_get (ci := 11) (v := .ref (h 39)) (C := RX11) (T := TX11) (N := 10) hx hb hts (fun w h => List.mem_cons_of_mem _ (gx_11 w h)) hown hK hP 0 (by decide) rfl rfl 9 (by decide) (hts _ (List.mem_cons_of_mem _ mw_3)) (fun _ h9 => h9) rfl dX11_keep_26 ?_
        refine lv_iload_n hx hb dX11_keep_29 rfl (lv_at hl 1 rfl) ?_
        obtain ⟨t_10, et_10⟩ : ∃ z : Nat, z = x0.toNatClampNeg := ⟨_, rfl⟩
        have ht_t_10 : t_10 < 6 := by rw [et_10]; exact bn_kI (by omega) (by omega)
        refine sg_aald hx hb hK hP 39 (by decide) 3 rfl rfl (i := x0) (a := (h (40 + 2 * t_10))) (vp_in_iff.mpr ⟨by omega, by omega⟩) (show (if x0.toNatClampNeg < 6 then some (h (40 + 2 * x0.toNatClampNeg)) else none) = some (h (40 + 2 * t_10)) from by rw [← et_10, if_pos ht_t_10]) dX11_keep_30 ?_
        refine lv_iload_n hx hb dX11_keep_31 rfl (lv_at hl 2 rfl) ?_
        refine sg_callv (va_runV (As := [.int x1]) (rest := []) ⟨hx, hb, hml, hown, hts⟩ (cf_X7_takesDesk l D ca za h hh x1 t_10 ht_t_10 H.size) (cwV 1 hts (gw_V (fun _ h => List.mem_cons_of_mem _ h) mw_196 mw_197 mw_198 mw_199 mw_195) rfl rfl rfl (by decide +kernel) ⟨Nat.le_of_ble_eq_true rfl, Nat.le_of_ble_eq_true rfl⟩) (sg_preV (ci := 7) (C := RX7) (T := TX7) (N := 4) hA hK hP hS hZ (40 + 2 * t_10) (by have := ht_t_10; omega) (eX_sh ca h ht_t_10 _ _ _) rfl) rfl rfl hl.1 rfl (lv_room (Nat.le_of_ble_eq_true rfl)) dX11_keep_32 ⟨Nat.le_refl _, Nat.le_refl _⟩) hA hS (fun f_11 L_12 Q_13 H locs hq hP hS => ?_)
        refine lv_iconst (v := 1) hx hb dX11_keep_35 (by decide) ?_
        exact hret _ _ _ _ (1) f_11 L_12 Q_13 dX11_keep_36 hP hS ⟨trivial, Or.inl ⟨rfl, by omega⟩⟩
      · skip
        have c_9 : 0 ≤ x1.toInt := (by have z := bn_nlt c; have k1 : (0 : Int32).toInt = 0 := (by decide); omega)
        refine lv_iconst (v := (-1)) hx hb dX11_keep_23 (by decide) ?_
        exact hret _ _ _ _ (-1) f0X L0 Q0 dX11_keep_24 hP hS ⟨trivial, Or.inr (⟨rfl, by omega⟩)⟩
  · skip
    have q_14 := hq
    refine lv_if_eq (tgt := 23) hx hb dX11_keep_4 (by decide) (fun c => ?_) (fun c => absurd c (by decide))
    refine lv_iconst (v := (-1)) hx hb dX11_keep_23 (by decide) ?_
    exact hret _ _ _ _ (-1) f0X L0 Q0 dX11_keep_24 hP hS ⟨trivial, Or.inr (⟨rfl, by omega⟩)⟩

set_option maxHeartbeats 4000000 in
set_option maxRecDepth 100000 in
theorem cf_X7_takesRow (l : Launch) (D : va_G) (ca : Nat → ClassId) (za h : Nat → Nat) (hh : sgH 52 h) (x0 : Int32) (x1 : Int32) (t : Nat) (ht_t : t < 6) (b1 : 0 ≤ x1.toInt ∧ x1.toInt ≤ 60) (sz : Nat) : Met l yX7_takesRow gwX7_takesRow { frames := 0, cells := 0, slots := 0, locals := 0 } (sgP D vwCl (tyX ca) 52 h (eX ca h) zcX za f0X L0 Q0 sz [.ref (h (40 + 2 * t)), .int x0, .int x1]) (sgQv D vwCl 52 h (eX ca h) sz (fun f1 L1 Q1 => True)) 0 0 (sgA 52 h sz) := by
  refine sg_ofWv (cc := cX7_takesRow) (maxL := 4) RX7 (by decide) rfl rfl (Nat.le_of_ble_eq_true rfl) ?_
  intro p e s m below meth cd Qz ls hx hb hml hown hts hK hZ hP hS hl hret
  have hA := sgY.self (n := 52) (h := h) (sz := s.heap.size)
  have hl : lv_has ls 4 [(0, .ref (h (40 + 2 * t))), (1, .int x0), (2, .int x1)] := hl
  obtain ⟨H, hH⟩ : ∃ z : Heap, z = s.heap := ⟨_, rfl⟩
  obtain ⟨locs, hlo⟩ : ∃ z : List Loc, z = [] := ⟨_, rfl⟩
  have hP : va_P D vwCl (sgw 52 h (eX ca h) f0X L0 Q0) H := by rw [hH]; exact hP
  have hS : va_S (sgA 52 h s.heap.size) s.heap H locs := by rw [hH, hlo]; exact hS
  suffices hgo : W p l e ({ frames := 0, cells := 0, slots := 0, locals := 0 }) s m ([.ref (h (40 + 2 * t)), .int x0, .int x1] : List Value).toArray below meth cd H locs 0 0 Qz (F0 m 0 ls []) by rw [hH, hlo] at hgo; exact hgo
  refine lv_aload_n hx hb dX7_takesRow_0 rfl (lv_at hl 0 rfl) ?_
  refine lv_iload_n hx hb dX7_takesRow_1 rfl (lv_at hl 1 rfl) ?_
  refine sg_put (ci := 7) (x := x0) (ty := .int) (C := RX7) (T := TX7) (N := 4) hx hb hts (fun w h => List.mem_cons_of_mem _ (gx_7 w h)) tyX7 tyX7_ok nmX7 hown hh hA hK hP hS (40 + 2 * t) (by have := ht_t; omega) (eX_sh ca h ht_t _ _ _) rfl 1 (by decide) (hts _ (List.mem_cons_of_mem _ mw_192)) (fun _ h9 => h9) rfl (eX_sh ca h ht_t _ _ _) (by decide +kernel) rfl rfl (Nat.le_of_ble_eq_true rfl) dX7_takesRow_2 (fun f_1 H locs ef_1 hP hS => ?_)
  refine lv_aload_n hx hb dX7_takesRow_5 rfl (lv_at hl 0 rfl) ?_
  refine lv_iload_n hx hb dX7_takesRow_6 rfl (lv_at hl 2 rfl) ?_
  refine sg_put (ci := 7) (x := x1) (ty := .int) (C := RX7) (T := TX7) (N := 4) hx hb hts (fun w h => List.mem_cons_of_mem _ (gx_7 w h)) tyX7 tyX7_ok nmX7 hown hh hA hK hP hS (40 + 2 * t) (by have := ht_t; omega) (eX_sh ca h ht_t _ _ _) rfl 2 (by decide) (hts _ (List.mem_cons_of_mem _ mw_200)) (fun _ h9 => h9) rfl (eX_sh ca h ht_t _ _ _) (by decide +kernel) rfl rfl (Nat.le_of_ble_eq_true rfl) dX7_takesRow_7 (fun f_2 H locs ef_2 hP hS => ?_)
  refine lv_iconst (v := 0) hx hb dX7_takesRow_10 (by decide) ?_
  refine lv_istore_n (lv' := [(3, .int 0), (0, .ref (h (40 + 2 * t))), (1, .int x0), (2, .int x1)]) hx hb dX7_takesRow_11 rfl hl (by decide) rfl (fun ls hl => ?_)
  have loop_12 : ∀ (n : Nat) (y3_12 : Int32) (Ll : sg_L) (H : Heap) (locs : List Loc) (ls : Array Slot), x1.toInt - y3_12.toInt < (n : Int) → 0 ≤ y3_12.toInt → y3_12.toInt ≤ x1.toInt → va_P D vwCl (sgw 52 h (eX ca h) f_2 Ll Q0) H → va_S (sgA 52 h s.heap.size) s.heap H locs → lv_has ls 4 [(3, .int y3_12), (0, .ref (h (40 + 2 * t))), (1, .int x0), (2, .int x1)] → W p l e ({ frames := 0, cells := 0, slots := 0, locals := 0 }) s m ([.ref (h (40 + 2 * t)), .int x0, .int x1] : List Value).toArray below meth cd H locs 0 0 Qz (F0 m 12 ls []) := by
    intro n
    induction n with
    | zero => intro y3_12 Ll H locs ls hm hf0 hf1 hP hS hl; exact absurd hm (by omega)
    | succ n ih =>
      intro y3_12 Ll H locs ls hm hf0 hf1 hP hS hl
      refine lv_iload_n hx hb dX7_takesRow_12 rfl (lv_at hl 0 rfl) ?_
      refine lv_iload_n hx hb dX7_takesRow_13 rfl (lv_at hl 3 rfl) ?_
      refine lv_icmp_ge (tgt := 30) hx hb dX7_takesRow_14 (by decide) (fun c => ?_) (fun c => ?_)
      · skip
        have c_3 : x1.toInt ≤ y3_12.toInt := (by have z := bn_le c; omega)
        exact hret _ _ _ _ f_2 Ll Q0 dX7_takesRow_30 hP hS trivial
      · skip
        have c_4 : y3_12.toInt < x1.toInt := (by have z := bn_nle c; omega)
        refine lv_aload_n hx hb dX7_takesRow_17 rfl (lv_at hl 1 rfl) ?_
        refine sg_get (ci := 7) (v := .ref (h (41 + 2 * t))) (C := RX7) (T := TX7) (N := 4) hx hb hts (fun w h => List.mem_cons_of_mem _ (gx_7 w h)) hown hK hP (40 + 2 * t) (by have := ht_t; omega) (eX_sh ca h ht_t _ _ _) rfl 0 (by decide) (hts _ (List.mem_cons_of_mem _ mw_201)) (fun _ h9 => h9) rfl dX7_takesRow_18 ?_
        refine lv_iload_n hx hb dX7_takesRow_21 rfl (lv_at hl 0 rfl) ?_
        refine lv_lconst (v := 0) hx hb dX7_takesRow_22 (by decide) ?_
        refine sg_last hx hb hh hA hK hP hS (41 + 2 * t) (by have := ht_t; omega) 1 (fun _ => eX_el ca h ht_t _ _ _) rfl (i := y3_12) (x := 0) (vp_in_iff.mpr ⟨by omega, by omega⟩) dX7_takesRow_23 (fun L_5 H locs eL_5 hP hS => ?_)
        obtain ⟨v_6, ev_6⟩ : ∃ z : Int32, z = y3_12 + 1 := ⟨_, rfl⟩
        have q_7 : v_6.toInt = y3_12.toInt + 1 := by rw [ev_6]; exact (bn_addc y3_12 1 (by decide) (by omega) (by omega))
        refine lv_iinc (v := v_6) (lv' := [(3, .int v_6), (0, .ref (h (40 + 2 * t))), (1, .int x0), (2, .int x1)]) hx hb dX7_takesRow_24 hl (k := 0) rfl (by rw [ev_6]; rfl) (by decide) rfl (fun ls hl => ?_)
        refine lv_goto (tgt := 12) hx hb dX7_takesRow_27 (by decide) ?_
        exact ih v_6 L_5 _ _ _ (by omega) (by omega) (by omega) hP hS (lv_sub hl [0, 1, 2, 3] rfl)
  exact loop_12 100 0 L0 _ _ _ (by have k3 : (0 : Int32).toInt = 0 := (by decide); omega) (by have k3 : (0 : Int32).toInt = 0 := (by decide); omega) (by have k3 : (0 : Int32).toInt = 0 := (by decide); omega) hP hS (lv_sub hl [0, 1, 2, 3] rfl)

set_option maxHeartbeats 4000000 in
set_option maxRecDepth 100000 in
theorem cf_X11_row (l : Launch) (D : va_G) (ca : Nat → ClassId) (za h : Nat → Nat) (hh : sgH 52 h) (x0 : Int32) (x1 : Int32) (x2 : Int32) (sz : Nat) : Met l yX11_row gwX11_row { frames := 1, cells := 0, slots := 0, locals := 23 } (sgP D vwCl (tyX ca) 52 h (eX ca h) zcX za f0X L0 Q0 sz [.ref (h 0), .int x0, .int x1, .int x2]) (sgQi D vwCl 52 h (eX ca h) sz (fun r f1 L1 Q1 => True ∧ ((r = 1 ∧ ((0 ≤ x0.toInt ∧ x0.toInt ≤ 5) ∧ (0 ≤ x1.toInt ∧ x1.toInt ≤ 4) ∧ (0 ≤ x2.toInt ∧ x2.toInt ≤ 60))) ∨ (r = (-14) ∧ ((0 ≤ x0.toInt ∧ x0.toInt ≤ 5) ∧ (0 ≤ x1.toInt ∧ x1.toInt ≤ 4) ∧ x2.toInt < 0)) ∨ (r = (-1) ∧ (¬ ((0 ≤ x0.toInt ∧ x0.toInt ≤ 5) ∧ (0 ≤ x1.toInt ∧ x1.toInt ≤ 4) ∧ x2.toInt ≤ 60)))))) 0 0 (sgA 52 h sz) := by
  refine sg_ofWi (cc := cX11_row) (maxL := 4) RX11 (by decide) rfl rfl (Nat.le_of_ble_eq_true rfl) ?_
  intro p e s m below meth cd Qz ls hx hb hml hown hts hK hZ hP hS hl hret
  have hA := sgY.self (n := 52) (h := h) (sz := s.heap.size)
  have hl : lv_has ls 4 [(0, .ref (h 0)), (1, .int x0), (2, .int x1), (3, .int x2)] := hl
  obtain ⟨H, hH⟩ : ∃ z : Heap, z = s.heap := ⟨_, rfl⟩
  obtain ⟨locs, hlo⟩ : ∃ z : List Loc, z = [] := ⟨_, rfl⟩
  have hP : va_P D vwCl (sgw 52 h (eX ca h) f0X L0 Q0) H := by rw [hH]; exact hP
  have hS : va_S (sgA 52 h s.heap.size) s.heap H locs := by rw [hH, hlo]; exact hS
  suffices hgo : W p l e ({ frames := 1, cells := 0, slots := 0, locals := 23 }) s m ([.ref (h 0), .int x0, .int x1, .int x2] : List Value).toArray below meth cd H locs 0 0 Qz (F0 m 0 ls []) by rw [hH, hlo] at hgo; exact hgo
  refine lv_iload_n hx hb dX11_row_0 rfl (lv_at hl 1 rfl) ?_
  refine sg_calli (va_runS (As := [.int x0]) (rest := []) ⟨hx, hb, hml, hown, hts⟩ (cf_X11_isShelf l D ca za h hh f0X L0 Q0 x0 H.size) (va_cwS 1 hts (gw_S (fun _ h => List.mem_cons_of_mem _ h) mw_17 mw_18 mw_9 mw_16) rfl rfl rfl (by decide +kernel) ⟨Nat.le_of_ble_eq_true rfl, Nat.le_of_ble_eq_true rfl⟩) (sg_preS hA hK hP hS hZ) rfl rfl hl.1 rfl (lv_room (Nat.le_of_ble_eq_true rfl)) dX11_row_1 ⟨Nat.le_refl _, Nat.le_refl _⟩) hA hS (fun r_4 f_1 L_2 Q_3 H locs hq hP hS => ?_)
  obtain ⟨⟨ef9, eL9, eQ9⟩, hq⟩ := hq
  rw [ef9, eL9, eQ9] at hP; clear ef9 eL9 eQ9
  rcases hq with ⟨rfl, hq⟩ | ⟨rfl, hq⟩
  · skip
    have q_5 := hq
    refine lv_if_eq (tgt := 22) hx hb dX11_row_4 (by decide) (fun c => absurd c (by decide)) (fun c => ?_)
    refine lv_iload_n hx hb dX11_row_7 rfl (lv_at hl 2 rfl) ?_
    refine lv_if_lt (tgt := 22) hx hb dX11_row_8 (by decide) (fun c => ?_) (fun c => ?_)
    · skip
      have c_6 : x1.toInt < 0 := (by have z := bn_lt c; have k1 : (0 : Int32).toInt = 0 := (by decide); omega)
      refine lv_iconst (v := (-1)) hx hb dX11_row_22 (by decide) ?_
      exact hret _ _ _ _ (-1) f0X L0 Q0 dX11_row_23 hP hS ⟨trivial, Or.inr (Or.inr (⟨rfl, by omega⟩))⟩
    · skip
      have c_7 : 0 ≤ x1.toInt := (by have z := bn_nlt c; have k1 : (0 : Int32).toInt = 0 := (by decide); omega)
      refine lv_iload_n hx hb dX11_row_11 rfl (lv_at hl 2 rfl) ?_
      refine lv_iconst (v := 4) hx hb dX11_row_12 (by decide) ?_
      refine lv_icmp_gt (tgt := 22) hx hb dX11_row_13 (by decide) (fun c => ?_) (fun c => ?_)
      · skip
        have c_8 : 4 < x1.toInt := (by have z := bn_lt c; have k1 : (4 : Int32).toInt = 4 := (by decide); omega)
        refine lv_iconst (v := (-1)) hx hb dX11_row_22 (by decide) ?_
        exact hret _ _ _ _ (-1) f0X L0 Q0 dX11_row_23 hP hS ⟨trivial, Or.inr (Or.inr (⟨rfl, by omega⟩))⟩
      · skip
        have c_9 : x1.toInt ≤ 4 := (by have z := bn_nlt c; have k1 : (4 : Int32).toInt = 4 := (by decide); omega)
        refine lv_iload_n hx hb dX11_row_16 rfl (lv_at hl 3 rfl) ?_
        refine lv_bipush (v := 60) hx hb dX11_row_17 (by decide) ?_
        refine lv_icmp_le (tgt := 24) hx hb dX11_row_19 (by decide) (fun c => ?_) (fun c => ?_)
        · skip
          have c_10 : x2.toInt ≤ 60 := (by have z := bn_le c; have k1 : (60 : Int32).toInt = 60 := (by decide); omega)
          refine lv_iload_n hx hb dX11_row_24 rfl (lv_at hl 3 rfl) ?_
          refine lv_if_ge (tgt := 31) hx hb dX11_row_25 (by decide) (fun c => ?_) (fun c => ?_)
          · skip
            have c_12 : 0 ≤ x2.toInt := (by have z := bn_le c; have k1 : (0 : Int32).toInt = 0 := (by decide); omega)
            refine lv_aload_n hx hb dX11_row_31 rfl (lv_at hl 0 rfl) ?_
            refine sg_get (ci := 11) (v := .ref (h 39)) (C := RX11) (T := TX11) (N := 10) hx hb hts (fun w h => List.mem_cons_of_mem _ (gx_11 w h)) hown hK hP 0 (by decide) rfl rfl 9 (by decide) (hts _ (List.mem_cons_of_mem _ mw_3)) (fun _ h9 => h9) rfl dX11_row_32 ?_
            refine lv_iload_n hx hb dX11_row_35 rfl (lv_at hl 1 rfl) ?_
            obtain ⟨t_14, et_14⟩ : ∃ z : Nat, z = x0.toNatClampNeg := ⟨_, rfl⟩
            have ht_t_14 : t_14 < 6 := by rw [et_14]; exact bn_kI (by omega) (by omega)
            refine sg_aald hx hb hK hP 39 (by decide) 3 rfl rfl (i := x0) (a := (h (40 + 2 * t_14))) (vp_in_iff.mpr ⟨by omega, by omega⟩) (show (if x0.toNatClampNeg < 6 then some (h (40 + 2 * x0.toNatClampNeg)) else none) = some (h (40 + 2 * t_14)) from by rw [← et_14, if_pos ht_t_14]) dX11_row_36 ?_
            refine lv_iload_n hx hb dX11_row_37 rfl (lv_at hl 2 rfl) ?_
            refine lv_iload_n hx hb dX11_row_38 rfl (lv_at hl 3 rfl) ?_
            refine sg_callv (va_runV (As := [.int x1, .int x2]) (rest := []) ⟨hx, hb, hml, hown, hts⟩ (cf_X7_takesRow l D ca za h hh x1 x2 t_14 ht_t_14 (by first | omega | decide) H.size) (cwV 2 hts (gw_V (fun _ h => List.mem_cons_of_mem _ h) mw_203 mw_204 mw_205 mw_199 mw_202) rfl rfl rfl (by decide +kernel) ⟨Nat.le_of_ble_eq_true rfl, Nat.le_of_ble_eq_true rfl⟩) (sg_preV (ci := 7) (C := RX7) (T := TX7) (N := 4) hA hK hP hS hZ (40 + 2 * t_14) (by have := ht_t_14; omega) (eX_sh ca h ht_t_14 _ _ _) rfl) rfl rfl hl.1 rfl (lv_room (Nat.le_of_ble_eq_true rfl)) dX11_row_39 ⟨Nat.le_refl _, Nat.le_refl _⟩) hA hS (fun f_15 L_16 Q_17 H locs hq hP hS => ?_)
            refine lv_iconst (v := 1) hx hb dX11_row_42 (by decide) ?_
            exact hret _ _ _ _ (1) f_15 L_16 Q_17 dX11_row_43 hP hS ⟨trivial, Or.inl ⟨rfl, by omega⟩⟩
          · skip
            have c_13 : x2.toInt < 0 := (by have z := bn_nle c; have k1 : (0 : Int32).toInt = 0 := (by decide); omega)
            refine lv_bipush (v := (-14)) hx hb dX11_row_28 (by decide) ?_
            exact hret _ _ _ _ (-14) f0X L0 Q0 dX11_row_30 hP hS ⟨trivial, Or.inr (Or.inl ⟨rfl, by omega⟩)⟩
        · skip
          have c_11 : 60 < x2.toInt := (by have z := bn_nle c; have k1 : (60 : Int32).toInt = 60 := (by decide); omega)
          refine lv_iconst (v := (-1)) hx hb dX11_row_22 (by decide) ?_
          exact hret _ _ _ _ (-1) f0X L0 Q0 dX11_row_23 hP hS ⟨trivial, Or.inr (Or.inr (⟨rfl, by omega⟩))⟩
  · skip
    have q_18 := hq
    refine lv_if_eq (tgt := 22) hx hb dX11_row_4 (by decide) (fun c => ?_) (fun c => absurd c (by decide))
    refine lv_iconst (v := (-1)) hx hb dX11_row_22 (by decide) ?_
    exact hret _ _ _ _ (-1) f0X L0 Q0 dX11_row_23 hP hS ⟨trivial, Or.inr (Or.inr (⟨rfl, by omega⟩))⟩

set_option maxHeartbeats 4000000 in
set_option maxRecDepth 100000 in
theorem cf_X11_refusalAt (l : Launch) (D : va_G) (ca : Nat → ClassId) (za h : Nat → Nat) (hh : sgH 52 h) (x0 : Int32) (x1 : Int32) (sz : Nat) : Met l yX11_refusalAt gwX11_refusalAt { frames := 1, cells := 0, slots := 0, locals := 20 } (sgP D vwCl (tyX ca) 52 h (eX ca h) zcX za f0X L0 Q0 sz [.ref (h 0), .int x0, .int x1]) (sgQi D vwCl 52 h (eX ca h) sz (fun r f1 L1 Q1 => (f1 = f0X ∧ L1 = L0 ∧ Q1 = Q0) ∧ ((r = (-11) ∧ ((0 ≤ x0.toInt ∧ x0.toInt ≤ 5))) ∨ (r = (-1) ∧ (¬ ((0 ≤ x0.toInt ∧ x0.toInt ≤ 5))))))) 0 0 (sgA 52 h sz) := by
  refine sg_ofWi (cc := cX11_refusalAt) (maxL := 4) RX11 (by decide) rfl rfl (Nat.le_of_ble_eq_true rfl) ?_
  intro p e s m below meth cd Qz ls hx hb hml hown hts hK hZ hP hS hl hret
  have hA := sgY.self (n := 52) (h := h) (sz := s.heap.size)
  have hl : lv_has ls 4 [(0, .ref (h 0)), (1, .int x0), (2, .int x1)] := hl
  obtain ⟨H, hH⟩ : ∃ z : Heap, z = s.heap := ⟨_, rfl⟩
  obtain ⟨locs, hlo⟩ : ∃ z : List Loc, z = [] := ⟨_, rfl⟩
  have hP : va_P D vwCl (sgw 52 h (eX ca h) f0X L0 Q0) H := by rw [hH]; exact hP
  have hS : va_S (sgA 52 h s.heap.size) s.heap H locs := by rw [hH, hlo]; exact hS
  suffices hgo : W p l e ({ frames := 1, cells := 0, slots := 0, locals := 20 }) s m ([.ref (h 0), .int x0, .int x1] : List Value).toArray below meth cd H locs 0 0 Qz (F0 m 0 ls []) by rw [hH, hlo] at hgo; exact hgo
  refine lv_iload_n hx hb dX11_refusalAt_0 rfl (lv_at hl 1 rfl) ?_
  refine sg_calli (va_runS (As := [.int x0]) (rest := []) ⟨hx, hb, hml, hown, hts⟩ (cf_X11_isShelf l D ca za h hh f0X L0 Q0 x0 H.size) (va_cwS 1 hts (gw_S (fun _ h => List.mem_cons_of_mem _ h) mw_17 mw_18 mw_9 mw_16) rfl rfl rfl (by decide +kernel) ⟨Nat.le_of_ble_eq_true rfl, Nat.le_of_ble_eq_true rfl⟩) (sg_preS hA hK hP hS hZ) rfl rfl hl.1 rfl (lv_room (Nat.le_of_ble_eq_true rfl)) dX11_refusalAt_1 ⟨Nat.le_refl _, Nat.le_refl _⟩) hA hS (fun r_4 f_1 L_2 Q_3 H locs hq hP hS => ?_)
  obtain ⟨⟨ef9, eL9, eQ9⟩, hq⟩ := hq
  rw [ef9, eL9, eQ9] at hP; clear ef9 eL9 eQ9
  rcases hq with ⟨rfl, hq⟩ | ⟨rfl, hq⟩
  · skip
    have q_5 := hq
    refine lv_if_ne (tgt := 9) hx hb dX11_refusalAt_4 (by decide) (fun c => ?_) (fun c => absurd c (by decide))
    refine lv_aload_n hx hb dX11_refusalAt_9 rfl (lv_at hl 0 rfl) ?_
    refine sg_get (ci := 11) (v := .ref (h 39)) (C := RX11) (T := TX11) (N := 10) hx hb hts (fun w h => List.mem_cons_of_mem _ (gx_11 w h)) hown hK hP 0 (by decide) rfl rfl 9 (by decide) (hts _ (List.mem_cons_of_mem _ mw_3)) (fun _ h9 => h9) rfl dX11_refusalAt_10 ?_
    refine lv_iload_n hx hb dX11_refusalAt_13 rfl (lv_at hl 1 rfl) ?_
    obtain ⟨t_6, et_6⟩ : ∃ z : Nat, z = x0.toNatClampNeg := ⟨_, rfl⟩
    have ht_t_6 : t_6 < 6 := by rw [et_6]; exact bn_kI (by omega) (by omega)
    refine sg_aald hx hb hK hP 39 (by decide) 3 rfl rfl (i := x0) (a := (h (40 + 2 * t_6))) (vp_in_iff.mpr ⟨by omega, by omega⟩) (show (if x0.toNatClampNeg < 6 then some (h (40 + 2 * x0.toNatClampNeg)) else none) = some (h (40 + 2 * t_6)) from by rw [← et_6, if_pos ht_t_6]) dX11_refusalAt_14 ?_
    refine lv_astore_n (lv' := [(3, .ref (h (40 + 2 * t_6))), (0, .ref (h 0)), (1, .int x0), (2, .int x1)]) hx hb dX11_refusalAt_15 rfl hl (by decide) rfl (fun ls hl => ?_)
    refine lv_aload_n hx hb dX11_refusalAt_16 rfl (lv_at hl 0 rfl) ?_
    refine sg_get (ci := 7) (v := .int (-1)) (C := RX7) (T := TX7) (N := 4) hx hb hts (fun w h => List.mem_cons_of_mem _ (gx_7 w h)) hown hK hP (40 + 2 * t_6) (by have := ht_t_6; omega) (eX_sh ca h ht_t_6 _ _ _) rfl 1 (by decide) (hts _ (List.mem_cons_of_mem _ mw_4)) (fun _ h9 => h9) (congrArg (fun z => some (Value.int z)) (show f0X (40 + 2 * t_6) 1 = (-1) from (by rw [f0X_sh ht_t_6]; rfl))) dX11_refusalAt_17 ?_
    refine lv_iconst (v := (-1)) hx hb dX11_refusalAt_20 (by decide) ?_
    refine lv_icmp_ne (tgt := 27) hx hb dX11_refusalAt_21 (by decide) (fun c => absurd c (by decide)) (fun c => ?_)
    refine lv_bipush (v := (-11)) hx hb dX11_refusalAt_24 (by decide) ?_
    exact hret _ _ _ _ (-11) f0X L0 Q0 dX11_refusalAt_26 hP hS ⟨⟨rfl, rfl, rfl⟩, Or.inl ⟨rfl, by omega⟩⟩
  · skip
    have q_7 := hq
    refine lv_if_ne (tgt := 9) hx hb dX11_refusalAt_4 (by decide) (fun c => absurd c (by decide)) (fun c => ?_)
    refine lv_iconst (v := (-1)) hx hb dX11_refusalAt_7 (by decide) ?_
    exact hret _ _ _ _ (-1) f0X L0 Q0 dX11_refusalAt_8 hP hS ⟨⟨rfl, rfl, rfl⟩, Or.inr (⟨rfl, by omega⟩)⟩

set_option maxHeartbeats 4000000 in
set_option maxRecDepth 100000 in
theorem cf_X11_put (l : Launch) (D : va_G) (ca : Nat → ClassId) (za h : Nat → Nat) (hh : sgH 52 h) (x0 : Int32) (x1 : Int32) (x2 : Int64) (sz : Nat) : Met l yX11_put gwX11_put { frames := 2, cells := 0, slots := 0, locals := 43 } (sgP D vwCl (tyX ca) 52 h (eX ca h) zcX za f0X L0 Q0 sz [.ref (h 0), .int x0, .int x1, .long x2]) (sgQi D vwCl 52 h (eX ca h) sz (fun r f1 L1 Q1 => True ∧ ((r = (-11) ∧ ((0 ≤ x0.toInt ∧ x0.toInt ≤ 5))) ∨ (r = (-1) ∧ (¬ ((0 ≤ x0.toInt ∧ x0.toInt ≤ 5))))))) 0 0 (sgA 52 h sz) := by
  refine sg_ofWi (cc := cX11_put) (maxL := 6) RX11 (by decide) rfl rfl (Nat.le_of_ble_eq_true rfl) ?_
  intro p e s m below meth cd Qz ls hx hb hml hown hts hK hZ hP hS hl hret
  have hA := sgY.self (n := 52) (h := h) (sz := s.heap.size)
  have hl : lv_has ls 6 [(0, .ref (h 0)), (1, .int x0), (2, .int x1), (3, .long x2)] := hl
  obtain ⟨H, hH⟩ : ∃ z : Heap, z = s.heap := ⟨_, rfl⟩
  obtain ⟨locs, hlo⟩ : ∃ z : List Loc, z = [] := ⟨_, rfl⟩
  have hP : va_P D vwCl (sgw 52 h (eX ca h) f0X L0 Q0) H := by rw [hH]; exact hP
  have hS : va_S (sgA 52 h s.heap.size) s.heap H locs := by rw [hH, hlo]; exact hS
  suffices hgo : W p l e ({ frames := 2, cells := 0, slots := 0, locals := 43 }) s m ([.ref (h 0), .int x0, .int x1, .long x2] : List Value).toArray below meth cd H locs 0 0 Qz (F0 m 0 ls []) by rw [hH, hlo] at hgo; exact hgo
  refine lv_aload_n hx hb dX11_put_0 rfl (lv_at hl 0 rfl) ?_
  refine lv_iload_n hx hb dX11_put_1 rfl (lv_at hl 1 rfl) ?_
  refine lv_iload_n hx hb dX11_put_2 rfl (lv_at hl 2 rfl) ?_
  refine sg_calli (va_runV (As := [.int x0, .int x1]) (rest := []) ⟨hx, hb, hml, hown, hts⟩ (cf_X11_refusalAt l D ca za h hh x0 x1 H.size) (cwV 2 hts (gw_V (fun _ h => List.mem_cons_of_mem _ h) mw_207 mw_208 mw_209 mw_9 mw_206) rfl rfl rfl (by decide +kernel) ⟨Nat.le_of_ble_eq_true rfl, Nat.le_of_ble_eq_true rfl⟩) (sg_preV (ci := 11) (C := RX11) (T := TX11) (N := 10) hA hK hP hS hZ 0 (by decide) rfl rfl) rfl rfl hl.1 rfl (lv_room (Nat.le_of_ble_eq_true rfl)) dX11_put_3 ⟨Nat.le_refl _, Nat.le_refl _⟩) hA hS (fun r_4 f_1 L_2 Q_3 H locs hq hP hS => ?_)
  obtain ⟨⟨ef9, eL9, eQ9⟩, hq⟩ := hq
  rw [ef9, eL9, eQ9] at hP; clear ef9 eL9 eQ9
  rcases hq with ⟨rfl, hq⟩ | ⟨rfl, hq⟩
  · skip
    have q_5 := hq
    refine lv_istore (lv' := [(5, .int (-11)), (0, .ref (h 0)), (1, .int x0), (2, .int x1), (3, .long x2)]) hx hb dX11_put_6 hl (by decide) rfl (fun ls hl => ?_)
    refine lv_iload hx hb dX11_put_8 (lv_at hl 0 rfl) ?_
    refine lv_if_eq (tgt := 16) hx hb dX11_put_10 (by decide) (fun c => absurd c (by decide)) (fun c => ?_)
    refine lv_iload hx hb dX11_put_13 (lv_at hl 0 rfl) ?_
    exact hret _ _ _ _ (-11) f0X L0 Q0 dX11_put_15 hP hS ⟨trivial, Or.inl ⟨rfl, by omega⟩⟩
  · skip
    have q_6 := hq
    refine lv_istore (lv' := [(5, .int (-1)), (0, .ref (h 0)), (1, .int x0), (2, .int x1), (3, .long x2)]) hx hb dX11_put_6 hl (by decide) rfl (fun ls hl => ?_)
    refine lv_iload hx hb dX11_put_8 (lv_at hl 0 rfl) ?_
    refine lv_if_eq (tgt := 16) hx hb dX11_put_10 (by decide) (fun c => absurd c (by decide)) (fun c => ?_)
    refine lv_iload hx hb dX11_put_13 (lv_at hl 0 rfl) ?_
    exact hret _ _ _ _ (-1) f0X L0 Q0 dX11_put_15 hP hS ⟨trivial, Or.inr (⟨rfl, by omega⟩)⟩

set_option maxHeartbeats 4000000 in
set_option maxRecDepth 100000 in
theorem cf_X11_element (l : Launch) (D : va_G) (ca : Nat → ClassId) (za h : Nat → Nat) (hh : sgH 52 h) (x0 : Int32) (x1 : Int32) (sz : Nat) : Met l yX11_element gwX11_element { frames := 2, cells := 0, slots := 0, locals := 43 } (sgP D vwCl (tyX ca) 52 h (eX ca h) zcX za f0X L0 Q0 sz [.ref (h 0), .int x0, .int x1]) (sgQl D vwCl 52 h (eX ca h) sz (fun r f1 L1 Q1 => True ∧ ((r = (-9223372036854775808) ∧ (True))))) 0 0 (sgA 52 h sz) := by
  refine sg_ofWl (cc := cX11_element) (maxL := 3) RX11 (by decide) rfl rfl (Nat.le_of_ble_eq_true rfl) ?_
  intro p e s m below meth cd Qz ls hx hb hml hown hts hK hZ hP hS hl hret
  have hA := sgY.self (n := 52) (h := h) (sz := s.heap.size)
  have hl : lv_has ls 3 [(0, .ref (h 0)), (1, .int x0), (2, .int x1)] := hl
  obtain ⟨H, hH⟩ : ∃ z : Heap, z = s.heap := ⟨_, rfl⟩
  obtain ⟨locs, hlo⟩ : ∃ z : List Loc, z = [] := ⟨_, rfl⟩
  have hP : va_P D vwCl (sgw 52 h (eX ca h) f0X L0 Q0) H := by rw [hH]; exact hP
  have hS : va_S (sgA 52 h s.heap.size) s.heap H locs := by rw [hH, hlo]; exact hS
  suffices hgo : W p l e ({ frames := 2, cells := 0, slots := 0, locals := 43 }) s m ([.ref (h 0), .int x0, .int x1] : List Value).toArray below meth cd H locs 0 0 Qz (F0 m 0 ls []) by rw [hH, hlo] at hgo; exact hgo
  refine lv_aload_n hx hb dX11_element_0 rfl (lv_at hl 0 rfl) ?_
  refine lv_iload_n hx hb dX11_element_1 rfl (lv_at hl 1 rfl) ?_
  refine lv_iload_n hx hb dX11_element_2 rfl (lv_at hl 2 rfl) ?_
  refine sg_calli (va_runV (As := [.int x0, .int x1]) (rest := []) ⟨hx, hb, hml, hown, hts⟩ (cf_X11_refusalAt l D ca za h hh x0 x1 H.size) (cwV 2 hts (gw_V (fun _ h => List.mem_cons_of_mem _ h) mw_207 mw_208 mw_209 mw_9 mw_206) rfl rfl rfl (by decide +kernel) ⟨Nat.le_of_ble_eq_true rfl, Nat.le_of_ble_eq_true rfl⟩) (sg_preV (ci := 11) (C := RX11) (T := TX11) (N := 10) hA hK hP hS hZ 0 (by decide) rfl rfl) rfl rfl hl.1 rfl (lv_room (Nat.le_of_ble_eq_true rfl)) dX11_element_3 ⟨Nat.le_refl _, Nat.le_refl _⟩) hA hS (fun r_4 f_1 L_2 Q_3 H locs hq hP hS => ?_)
  obtain ⟨⟨ef9, eL9, eQ9⟩, hq⟩ := hq
  rw [ef9, eL9, eQ9] at hP; clear ef9 eL9 eQ9
  rcases hq with ⟨rfl, hq⟩ | ⟨rfl, hq⟩
  · skip
    have q_5 := hq
    refine lv_if_eq (tgt := 15) hx hb dX11_element_6 (by decide) (fun c => absurd c (by decide)) (fun c => ?_)
    refine lv_ldc2 (v := (-9223372036854775808)) hx hb hown (hts _ (List.mem_cons_of_mem _ mw_210)) dX11_element_9 ?_
    refine lv_goto (tgt := 26) hx hb dX11_element_12 (by decide) ?_
    exact hret _ _ _ _ (-9223372036854775808) f0X L0 Q0 dX11_element_26 hP hS ⟨trivial, ⟨rfl, trivial⟩⟩
  · skip
    have q_6 := hq
    refine lv_if_eq (tgt := 15) hx hb dX11_element_6 (by decide) (fun c => absurd c (by decide)) (fun c => ?_)
    refine lv_ldc2 (v := (-9223372036854775808)) hx hb hown (hts _ (List.mem_cons_of_mem _ mw_210)) dX11_element_9 ?_
    refine lv_goto (tgt := 26) hx hb dX11_element_12 (by decide) ?_
    exact hret _ _ _ _ (-9223372036854775808) f0X L0 Q0 dX11_element_26 hP hS ⟨trivial, ⟨rfl, trivial⟩⟩

set_option maxHeartbeats 4000000 in
set_option maxRecDepth 100000 in
theorem cf_X11_shift (l : Launch) (D : va_G) (ca : Nat → ClassId) (za h : Nat → Nat) (hh : sgH 52 h) (x0 : Int32) (x1 : Int32) (x2 : Int32) (x3 : Int32) (x4 : Int32) (sz : Nat) : Met l yX11_shift gwX11_shift { frames := 1, cells := 0, slots := 0, locals := 20 } (sgP D vwCl (tyX ca) 52 h (eX ca h) zcX za f0X L0 Q0 sz [.ref (h 0), .int x0, .int x1, .int x2, .int x3, .int x4]) (sgQi D vwCl 52 h (eX ca h) sz (fun r f1 L1 Q1 => True ∧ ((r = (-11) ∧ ((0 ≤ x0.toInt ∧ x0.toInt ≤ 5) ∧ (0 ≤ x2.toInt ∧ x2.toInt ≤ 5))) ∨ (r = (-1) ∧ (¬ ((0 ≤ x0.toInt ∧ x0.toInt ≤ 5) ∧ (0 ≤ x2.toInt ∧ x2.toInt ≤ 5))))))) 0 0 (sgA 52 h sz) := by
  refine sg_ofWi (cc := cX11_shift) (maxL := 8) RX11 (by decide) rfl rfl (Nat.le_of_ble_eq_true rfl) ?_
  intro p e s m below meth cd Qz ls hx hb hml hown hts hK hZ hP hS hl hret
  have hA := sgY.self (n := 52) (h := h) (sz := s.heap.size)
  have hl : lv_has ls 8 [(0, .ref (h 0)), (1, .int x0), (2, .int x1), (3, .int x2), (4, .int x3), (5, .int x4)] := hl
  obtain ⟨H, hH⟩ : ∃ z : Heap, z = s.heap := ⟨_, rfl⟩
  obtain ⟨locs, hlo⟩ : ∃ z : List Loc, z = [] := ⟨_, rfl⟩
  have hP : va_P D vwCl (sgw 52 h (eX ca h) f0X L0 Q0) H := by rw [hH]; exact hP
  have hS : va_S (sgA 52 h s.heap.size) s.heap H locs := by rw [hH, hlo]; exact hS
  suffices hgo : W p l e ({ frames := 1, cells := 0, slots := 0, locals := 20 }) s m ([.ref (h 0), .int x0, .int x1, .int x2, .int x3, .int x4] : List Value).toArray below meth cd H locs 0 0 Qz (F0 m 0 ls []) by rw [hH, hlo] at hgo; exact hgo
  refine lv_iload_n hx hb dX11_shift_0 rfl (lv_at hl 1 rfl) ?_
  refine sg_calli (va_runS (As := [.int x0]) (rest := []) ⟨hx, hb, hml, hown, hts⟩ (cf_X11_isShelf l D ca za h hh f0X L0 Q0 x0 H.size) (va_cwS 1 hts (gw_S (fun _ h => List.mem_cons_of_mem _ h) mw_17 mw_18 mw_9 mw_16) rfl rfl rfl (by decide +kernel) ⟨Nat.le_of_ble_eq_true rfl, Nat.le_of_ble_eq_true rfl⟩) (sg_preS hA hK hP hS hZ) rfl rfl hl.1 rfl (lv_room (Nat.le_of_ble_eq_true rfl)) dX11_shift_1 ⟨Nat.le_refl _, Nat.le_refl _⟩) hA hS (fun r_4 f_1 L_2 Q_3 H locs hq hP hS => ?_)
  obtain ⟨⟨ef9, eL9, eQ9⟩, hq⟩ := hq
  rw [ef9, eL9, eQ9] at hP; clear ef9 eL9 eQ9
  rcases hq with ⟨rfl, hq⟩ | ⟨rfl, hq⟩
  · skip
    have q_5 := hq
    refine lv_if_eq (tgt := 14) hx hb dX11_shift_4 (by decide) (fun c => absurd c (by decide)) (fun c => ?_)
    refine lv_iload_n hx hb dX11_shift_7 rfl (lv_at hl 3 rfl) ?_
    refine sg_calli (va_runS (As := [.int x2]) (rest := []) ⟨hx, hb, hml, hown, hts⟩ (cf_X11_isShelf l D ca za h hh f0X L0 Q0 x2 H.size) (va_cwS 1 hts (gw_S (fun _ h => List.mem_cons_of_mem _ h) mw_17 mw_18 mw_9 mw_16) rfl rfl rfl (by decide +kernel) ⟨Nat.le_of_ble_eq_true rfl, Nat.le_of_ble_eq_true rfl⟩) (sg_preS hA hK hP hS hZ) rfl rfl hl.1 rfl (lv_room (Nat.le_of_ble_eq_true rfl)) dX11_shift_8 ⟨Nat.le_refl _, Nat.le_refl _⟩) hA hS (fun r_9 f_6 L_7 Q_8 H locs hq hP hS => ?_)
    obtain ⟨⟨ef9, eL9, eQ9⟩, hq⟩ := hq
    rw [ef9, eL9, eQ9] at hP; clear ef9 eL9 eQ9
    rcases hq with ⟨rfl, hq⟩ | ⟨rfl, hq⟩
    · skip
      have q_10 := hq
      refine lv_if_ne (tgt := 16) hx hb dX11_shift_11 (by decide) (fun c => ?_) (fun c => absurd c (by decide))
      refine lv_aload_n hx hb dX11_shift_16 rfl (lv_at hl 0 rfl) ?_
      refine sg_get (ci := 11) (v := .ref (h 39)) (C := RX11) (T := TX11) (N := 10) hx hb hts (fun w h => List.mem_cons_of_mem _ (gx_11 w h)) hown hK hP 0 (by decide) rfl rfl 9 (by decide) (hts _ (List.mem_cons_of_mem _ mw_3)) (fun _ h9 => h9) rfl dX11_shift_17 ?_
      refine lv_iload_n hx hb dX11_shift_20 rfl (lv_at hl 1 rfl) ?_
      obtain ⟨t_11, et_11⟩ : ∃ z : Nat, z = x0.toNatClampNeg := ⟨_, rfl⟩
      have ht_t_11 : t_11 < 6 := by rw [et_11]; exact bn_kI (by omega) (by omega)
      refine sg_aald hx hb hK hP 39 (by decide) 3 rfl rfl (i := x0) (a := (h (40 + 2 * t_11))) (vp_in_iff.mpr ⟨by omega, by omega⟩) (show (if x0.toNatClampNeg < 6 then some (h (40 + 2 * x0.toNatClampNeg)) else none) = some (h (40 + 2 * t_11)) from by rw [← et_11, if_pos ht_t_11]) dX11_shift_21 ?_
      refine lv_astore (lv' := [(6, .ref (h (40 + 2 * t_11))), (0, .ref (h 0)), (1, .int x0), (2, .int x1), (3, .int x2), (4, .int x3), (5, .int x4)]) hx hb dX11_shift_22 hl (by decide) rfl (fun ls hl => ?_)
      refine lv_aload_n hx hb dX11_shift_24 rfl (lv_at hl 1 rfl) ?_
      refine sg_get (ci := 11) (v := .ref (h 39)) (C := RX11) (T := TX11) (N := 10) hx hb hts (fun w h => List.mem_cons_of_mem _ (gx_11 w h)) hown hK hP 0 (by decide) rfl rfl 9 (by decide) (hts _ (List.mem_cons_of_mem _ mw_3)) (fun _ h9 => h9) rfl dX11_shift_25 ?_
      refine lv_iload_n hx hb dX11_shift_28 rfl (lv_at hl 4 rfl) ?_
      obtain ⟨t_12, et_12⟩ : ∃ z : Nat, z = x2.toNatClampNeg := ⟨_, rfl⟩
      have ht_t_12 : t_12 < 6 := by rw [et_12]; exact bn_kI (by omega) (by omega)
      refine sg_aald hx hb hK hP 39 (by decide) 3 rfl rfl (i := x2) (a := (h (40 + 2 * t_12))) (vp_in_iff.mpr ⟨by omega, by omega⟩) (show (if x2.toNatClampNeg < 6 then some (h (40 + 2 * x2.toNatClampNeg)) else none) = some (h (40 + 2 * t_12)) from by rw [← et_12, if_pos ht_t_12]) dX11_shift_29 ?_
      refine lv_astore (lv' := [(7, .ref (h (40 + 2 * t_12))), (6, .ref (h (40 + 2 * t_11))), (0, .ref (h 0)), (1, .int x0), (2, .int x1), (3, .int x2), (4, .int x3), (5, .int x4)]) hx hb dX11_shift_30 hl (by decide) rfl (fun ls hl => ?_)
      refine lv_aload hx hb dX11_shift_32 (lv_at hl 1 rfl) ?_
      refine sg_get (ci := 7) (v := .int (-1)) (C := RX7) (T := TX7) (N := 4) hx hb hts (fun w h => List.mem_cons_of_mem _ (gx_7 w h)) hown hK hP (40 + 2 * t_11) (by have := ht_t_11; omega) (eX_sh ca h ht_t_11 _ _ _) rfl 1 (by decide) (hts _ (List.mem_cons_of_mem _ mw_4)) (fun _ h9 => h9) (congrArg (fun z => some (Value.int z)) (show f0X (40 + 2 * t_11) 1 = (-1) from (by rw [f0X_sh ht_t_11]; rfl))) dX11_shift_34 ?_
      refine lv_iconst (v := (-1)) hx hb dX11_shift_37 (by decide) ?_
      refine lv_icmp_eq (tgt := 50) hx hb dX11_shift_38 (by decide) (fun c => ?_) (fun c => absurd c (by decide))
      refine lv_bipush (v := (-11)) hx hb dX11_shift_50 (by decide) ?_
      exact hret _ _ _ _ (-11) f0X L0 Q0 dX11_shift_52 hP hS ⟨trivial, Or.inl ⟨rfl, by omega⟩⟩
    · skip
      have q_13 := hq
      refine lv_if_ne (tgt := 16) hx hb dX11_shift_11 (by decide) (fun c => absurd c (by decide)) (fun c => ?_)
      refine lv_iconst (v := (-1)) hx hb dX11_shift_14 (by decide) ?_
      exact hret _ _ _ _ (-1) f0X L0 Q0 dX11_shift_15 hP hS ⟨trivial, Or.inr (⟨rfl, by omega⟩)⟩
  · skip
    have q_14 := hq
    refine lv_if_eq (tgt := 14) hx hb dX11_shift_4 (by decide) (fun c => ?_) (fun c => absurd c (by decide))
    refine lv_iconst (v := (-1)) hx hb dX11_shift_14 (by decide) ?_
    exact hret _ _ _ _ (-1) f0X L0 Q0 dX11_shift_15 hP hS ⟨trivial, Or.inr (⟨rfl, by omega⟩)⟩

set_option maxHeartbeats 4000000 in
set_option maxRecDepth 100000 in
theorem cf_X11_taken (l : Launch) (D : va_G) (ca : Nat → ClassId) (za h : Nat → Nat) (hh : sgH 52 h) (x0 : Int32) (x1 : Int32) (sz : Nat) : Met l yX11_taken gwX11_taken { frames := 1, cells := 0, slots := 0, locals := 20 } (sgP D vwCl (tyX ca) 52 h (eX ca h) zcX za f0X L0 Q0 sz [.ref (h 0), .int x0, .int x1]) (sgQi D vwCl 52 h (eX ca h) sz (fun r f1 L1 Q1 => True ∧ ((r = (-11) ∧ ((0 ≤ x0.toInt ∧ x0.toInt ≤ 5) ∧ (0 ≤ x1.toInt ∧ x1.toInt ≤ 7))) ∨ (r = (-1) ∧ (¬ ((0 ≤ x0.toInt ∧ x0.toInt ≤ 5) ∧ (0 ≤ x1.toInt ∧ x1.toInt ≤ 7))))))) 0 0 (sgA 52 h sz) := by
  refine sg_ofWi (cc := cX11_taken) (maxL := 4) RX11 (by decide) rfl rfl (Nat.le_of_ble_eq_true rfl) ?_
  intro p e s m below meth cd Qz ls hx hb hml hown hts hK hZ hP hS hl hret
  have hA := sgY.self (n := 52) (h := h) (sz := s.heap.size)
  have hl : lv_has ls 4 [(0, .ref (h 0)), (1, .int x0), (2, .int x1)] := hl
  obtain ⟨H, hH⟩ : ∃ z : Heap, z = s.heap := ⟨_, rfl⟩
  obtain ⟨locs, hlo⟩ : ∃ z : List Loc, z = [] := ⟨_, rfl⟩
  have hP : va_P D vwCl (sgw 52 h (eX ca h) f0X L0 Q0) H := by rw [hH]; exact hP
  have hS : va_S (sgA 52 h s.heap.size) s.heap H locs := by rw [hH, hlo]; exact hS
  suffices hgo : W p l e ({ frames := 1, cells := 0, slots := 0, locals := 20 }) s m ([.ref (h 0), .int x0, .int x1] : List Value).toArray below meth cd H locs 0 0 Qz (F0 m 0 ls []) by rw [hH, hlo] at hgo; exact hgo
  refine lv_iload_n hx hb dX11_taken_0 rfl (lv_at hl 1 rfl) ?_
  refine sg_calli (va_runS (As := [.int x0]) (rest := []) ⟨hx, hb, hml, hown, hts⟩ (cf_X11_isShelf l D ca za h hh f0X L0 Q0 x0 H.size) (va_cwS 1 hts (gw_S (fun _ h => List.mem_cons_of_mem _ h) mw_17 mw_18 mw_9 mw_16) rfl rfl rfl (by decide +kernel) ⟨Nat.le_of_ble_eq_true rfl, Nat.le_of_ble_eq_true rfl⟩) (sg_preS hA hK hP hS hZ) rfl rfl hl.1 rfl (lv_room (Nat.le_of_ble_eq_true rfl)) dX11_taken_1 ⟨Nat.le_refl _, Nat.le_refl _⟩) hA hS (fun r_4 f_1 L_2 Q_3 H locs hq hP hS => ?_)
  obtain ⟨⟨ef9, eL9, eQ9⟩, hq⟩ := hq
  rw [ef9, eL9, eQ9] at hP; clear ef9 eL9 eQ9
  rcases hq with ⟨rfl, hq⟩ | ⟨rfl, hq⟩
  · skip
    have q_5 := hq
    refine lv_if_eq (tgt := 14) hx hb dX11_taken_4 (by decide) (fun c => absurd c (by decide)) (fun c => ?_)
    refine lv_iload_n hx hb dX11_taken_7 rfl (lv_at hl 2 rfl) ?_
    refine sg_calli (va_runS (As := [.int x1]) (rest := []) ⟨hx, hb, hml, hown, hts⟩ (cf_X11_isKind l D ca za h hh f0X L0 Q0 x1 H.size) (va_cwS 1 hts (gw_S (fun _ h => List.mem_cons_of_mem _ h) mw_175 mw_176 mw_9 mw_174) rfl rfl rfl (by decide +kernel) ⟨Nat.le_of_ble_eq_true rfl, Nat.le_of_ble_eq_true rfl⟩) (sg_preS hA hK hP hS hZ) rfl rfl hl.1 rfl (lv_room (Nat.le_of_ble_eq_true rfl)) dX11_taken_8 ⟨Nat.le_refl _, Nat.le_refl _⟩) hA hS (fun r_9 f_6 L_7 Q_8 H locs hq hP hS => ?_)
    obtain ⟨⟨ef9, eL9, eQ9⟩, hq⟩ := hq
    rw [ef9, eL9, eQ9] at hP; clear ef9 eL9 eQ9
    rcases hq with ⟨rfl, hq⟩ | ⟨rfl, hq⟩
    · skip
      have q_10 := hq
      refine lv_if_ne (tgt := 16) hx hb dX11_taken_11 (by decide) (fun c => ?_) (fun c => absurd c (by decide))
      refine lv_aload_n hx hb dX11_taken_16 rfl (lv_at hl 0 rfl) ?_
      refine sg_get (ci := 11) (v := .ref (h 39)) (C := RX11) (T := TX11) (N := 10) hx hb hts (fun w h => List.mem_cons_of_mem _ (gx_11 w h)) hown hK hP 0 (by decide) rfl rfl 9 (by decide) (hts _ (List.mem_cons_of_mem _ mw_3)) (fun _ h9 => h9) rfl dX11_taken_17 ?_
      refine lv_iload_n hx hb dX11_taken_20 rfl (lv_at hl 1 rfl) ?_
      obtain ⟨t_11, et_11⟩ : ∃ z : Nat, z = x0.toNatClampNeg := ⟨_, rfl⟩
      have ht_t_11 : t_11 < 6 := by rw [et_11]; exact bn_kI (by omega) (by omega)
      refine sg_aald hx hb hK hP 39 (by decide) 3 rfl rfl (i := x0) (a := (h (40 + 2 * t_11))) (vp_in_iff.mpr ⟨by omega, by omega⟩) (show (if x0.toNatClampNeg < 6 then some (h (40 + 2 * x0.toNatClampNeg)) else none) = some (h (40 + 2 * t_11)) from by rw [← et_11, if_pos ht_t_11]) dX11_taken_21 ?_
      refine lv_astore_n (lv' := [(3, .ref (h (40 + 2 * t_11))), (0, .ref (h 0)), (1, .int x0), (2, .int x1)]) hx hb dX11_taken_22 rfl hl (by decide) rfl (fun ls hl => ?_)
      refine lv_aload_n hx hb dX11_taken_23 rfl (lv_at hl 0 rfl) ?_
      refine sg_get (ci := 7) (v := .int (-1)) (C := RX7) (T := TX7) (N := 4) hx hb hts (fun w h => List.mem_cons_of_mem _ (gx_7 w h)) hown hK hP (40 + 2 * t_11) (by have := ht_t_11; omega) (eX_sh ca h ht_t_11 _ _ _) rfl 1 (by decide) (hts _ (List.mem_cons_of_mem _ mw_4)) (fun _ h9 => h9) (congrArg (fun z => some (Value.int z)) (show f0X (40 + 2 * t_11) 1 = (-1) from (by rw [f0X_sh ht_t_11]; rfl))) dX11_taken_24 ?_
      refine lv_iconst (v := (-1)) hx hb dX11_taken_27 (by decide) ?_
      refine lv_icmp_ne (tgt := 34) hx hb dX11_taken_28 (by decide) (fun c => absurd c (by decide)) (fun c => ?_)
      refine lv_bipush (v := (-11)) hx hb dX11_taken_31 (by decide) ?_
      exact hret _ _ _ _ (-11) f0X L0 Q0 dX11_taken_33 hP hS ⟨trivial, Or.inl ⟨rfl, by omega⟩⟩
    · skip
      have q_12 := hq
      refine lv_if_ne (tgt := 16) hx hb dX11_taken_11 (by decide) (fun c => absurd c (by decide)) (fun c => ?_)
      refine lv_iconst (v := (-1)) hx hb dX11_taken_14 (by decide) ?_
      exact hret _ _ _ _ (-1) f0X L0 Q0 dX11_taken_15 hP hS ⟨trivial, Or.inr (⟨rfl, by omega⟩)⟩
  · skip
    have q_13 := hq
    refine lv_if_eq (tgt := 14) hx hb dX11_taken_4 (by decide) (fun c => ?_) (fun c => absurd c (by decide))
    refine lv_iconst (v := (-1)) hx hb dX11_taken_14 (by decide) ?_
    exact hret _ _ _ _ (-1) f0X L0 Q0 dX11_taken_15 hP hS ⟨trivial, Or.inr (⟨rfl, by omega⟩)⟩

set_option maxHeartbeats 4000000 in
set_option maxRecDepth 100000 in
theorem cf_X11_count (l : Launch) (D : va_G) (ca : Nat → ClassId) (za h : Nat → Nat) (hh : sgH 52 h) (x0 : Int32) (sz : Nat) : Met l yX11_count gwX11_count { frames := 0, cells := 0, slots := 0, locals := 0 } (sgP D vwCl (tyX ca) 52 h (eX ca h) zcX za f0X L0 Q0 sz [.ref (h 0), .int x0]) (sgQi D vwCl 52 h (eX ca h) sz (fun r f1 L1 Q1 => True ∧ ((r = 0 ∧ ((0 ≤ x0.toInt ∧ x0.toInt ≤ 4))) ∨ (r = (-1) ∧ (¬ ((0 ≤ x0.toInt ∧ x0.toInt ≤ 4))))))) 0 0 (sgA 52 h sz) := by
  refine sg_ofWi (cc := cX11_count) (maxL := 2) RX11 (by decide) rfl rfl (Nat.le_of_ble_eq_true rfl) ?_
  intro p e s m below meth cd Qz ls hx hb hml hown hts hK hZ hP hS hl hret
  have hA := sgY.self (n := 52) (h := h) (sz := s.heap.size)
  have hl : lv_has ls 2 [(0, .ref (h 0)), (1, .int x0)] := hl
  obtain ⟨H, hH⟩ : ∃ z : Heap, z = s.heap := ⟨_, rfl⟩
  obtain ⟨locs, hlo⟩ : ∃ z : List Loc, z = [] := ⟨_, rfl⟩
  have hP : va_P D vwCl (sgw 52 h (eX ca h) f0X L0 Q0) H := by rw [hH]; exact hP
  have hS : va_S (sgA 52 h s.heap.size) s.heap H locs := by rw [hH, hlo]; exact hS
  suffices hgo : W p l e ({ frames := 0, cells := 0, slots := 0, locals := 0 }) s m ([.ref (h 0), .int x0] : List Value).toArray below meth cd H locs 0 0 Qz (F0 m 0 ls []) by rw [hH, hlo] at hgo; exact hgo
  refine lv_iload_n hx hb dX11_count_0 rfl (lv_at hl 1 rfl) ?_
  rcases (show (x0.toInt < 0 ∨ 4 < x0.toInt) ∨ x0.toInt = 0 ∨ x0.toInt = 1 ∨ x0.toInt = 2 ∨ x0.toInt = 3 ∨ x0.toInt = 4 from by omega) with c | c | c | c | c | c
  · skip
    refine lv_tableOut (x := x0) (tgt := 79) hx hb dX11_count_1 c (by decide) ?_
    refine lv_iconst (v := (-1)) hx hb dX11_count_79 (by decide) ?_
    exact hret _ _ _ _ (-1) f0X L0 Q0 dX11_count_80 hP hS ⟨trivial, Or.inr (⟨rfl, by omega⟩)⟩
  · skip
    refine lv_tableIn (x := x0) (tgt := 36) hx hb dX11_count_1 (by omega) (by omega) (by rw [c]; rfl) (by decide) ?_
    refine lv_aload_n hx hb dX11_count_36 rfl (lv_at hl 0 rfl) ?_
    refine sg_get (ci := 11) (v := .ref (h 1)) (C := RX11) (T := TX11) (N := 10) hx hb hts (fun w h => List.mem_cons_of_mem _ (gx_11 w h)) hown hK hP 0 (by decide) rfl rfl 0 (by decide) (hts _ (List.mem_cons_of_mem _ mw_10)) (fun _ h9 => h9) rfl dX11_count_37 ?_
    refine sg_get (ci := 0) (v := .int 0) (C := RX0) (T := TX0) (N := 5) hx hb hts (fun w h => List.mem_cons_of_mem _ (gx_0 w h)) hown hK hP 1 (by decide) rfl rfl 3 (by decide) (hts _ (List.mem_cons_of_mem _ mw_211)) (fun _ h9 => h9) rfl dX11_count_40 ?_
    exact hret _ _ _ _ (0) f0X L0 Q0 dX11_count_43 hP hS ⟨trivial, Or.inl ⟨rfl, by omega⟩⟩
  · skip
    refine lv_tableIn (x := x0) (tgt := 44) hx hb dX11_count_1 (by omega) (by omega) (by rw [c]; rfl) (by decide) ?_
    refine lv_aload_n hx hb dX11_count_44 rfl (lv_at hl 0 rfl) ?_
    refine sg_get (ci := 11) (v := .ref (h 1)) (C := RX11) (T := TX11) (N := 10) hx hb hts (fun w h => List.mem_cons_of_mem _ (gx_11 w h)) hown hK hP 0 (by decide) rfl rfl 0 (by decide) (hts _ (List.mem_cons_of_mem _ mw_10)) (fun _ h9 => h9) rfl dX11_count_45 ?_
    refine sg_get (ci := 0) (v := .ref (h 4)) (C := RX0) (T := TX0) (N := 5) hx hb hts (fun w h => List.mem_cons_of_mem _ (gx_0 w h)) hown hK hP 1 (by decide) rfl rfl 2 (by decide) (hts _ (List.mem_cons_of_mem _ mw_66)) (fun _ h9 => h9) rfl dX11_count_48 ?_
    refine sg_get (ci := 5) (v := .int 0) (C := RX5) (T := TX5) (N := 10) hx hb hts (fun w h => List.mem_cons_of_mem _ (gx_5 w h)) hown hK hP 4 (by decide) rfl rfl 1 (by decide) (hts _ (List.mem_cons_of_mem _ mw_212)) (fun _ h9 => h9) rfl dX11_count_51 ?_
    exact hret _ _ _ _ (0) f0X L0 Q0 dX11_count_54 hP hS ⟨trivial, Or.inl ⟨rfl, by omega⟩⟩
  · skip
    refine lv_tableIn (x := x0) (tgt := 55) hx hb dX11_count_1 (by omega) (by omega) (by rw [c]; rfl) (by decide) ?_
    refine lv_aload_n hx hb dX11_count_55 rfl (lv_at hl 0 rfl) ?_
    refine sg_get (ci := 11) (v := .ref (h 32)) (C := RX11) (T := TX11) (N := 10) hx hb hts (fun w h => List.mem_cons_of_mem _ (gx_11 w h)) hown hK hP 0 (by decide) rfl rfl 7 (by decide) (hts _ (List.mem_cons_of_mem _ mw_53)) (fun _ h9 => h9) rfl dX11_count_56 ?_
    refine sg_get (ci := 1) (v := .int 0) (C := RX1) (T := TX1) (N := 5) hx hb hts (fun w h => List.mem_cons_of_mem _ (gx_1 w h)) hown hK hP 32 (by decide) rfl rfl 3 (by decide) (hts _ (List.mem_cons_of_mem _ mw_170)) (fun _ h9 => h9) rfl dX11_count_59 ?_
    exact hret _ _ _ _ (0) f0X L0 Q0 dX11_count_62 hP hS ⟨trivial, Or.inl ⟨rfl, by omega⟩⟩
  · skip
    refine lv_tableIn (x := x0) (tgt := 63) hx hb dX11_count_1 (by omega) (by omega) (by rw [c]; rfl) (by decide) ?_
    refine lv_aload_n hx hb dX11_count_63 rfl (lv_at hl 0 rfl) ?_
    refine sg_get (ci := 11) (v := .ref (h 36)) (C := RX11) (T := TX11) (N := 10) hx hb hts (fun w h => List.mem_cons_of_mem _ (gx_11 w h)) hown hK hP 0 (by decide) rfl rfl 8 (by decide) (hts _ (List.mem_cons_of_mem _ mw_177)) (fun _ h9 => h9) rfl dX11_count_64 ?_
    refine sg_get (ci := 3) (v := .int 0) (C := RX3) (T := TX3) (N := 6) hx hb hts (fun w h => List.mem_cons_of_mem _ (gx_3 w h)) hown hK hP 36 (by decide) rfl rfl 2 (by decide) (hts _ (List.mem_cons_of_mem _ mw_194)) (fun _ h9 => h9) rfl dX11_count_67 ?_
    exact hret _ _ _ _ (0) f0X L0 Q0 dX11_count_70 hP hS ⟨trivial, Or.inl ⟨rfl, by omega⟩⟩
  · skip
    refine lv_tableIn (x := x0) (tgt := 71) hx hb dX11_count_1 (by omega) (by omega) (by rw [c]; rfl) (by decide) ?_
    refine lv_aload_n hx hb dX11_count_71 rfl (lv_at hl 0 rfl) ?_
    refine sg_get (ci := 11) (v := .ref (h 36)) (C := RX11) (T := TX11) (N := 10) hx hb hts (fun w h => List.mem_cons_of_mem _ (gx_11 w h)) hown hK hP 0 (by decide) rfl rfl 8 (by decide) (hts _ (List.mem_cons_of_mem _ mw_177)) (fun _ h9 => h9) rfl dX11_count_72 ?_
    refine sg_get (ci := 3) (v := .int 0) (C := RX3) (T := TX3) (N := 6) hx hb hts (fun w h => List.mem_cons_of_mem _ (gx_3 w h)) hown hK hP 36 (by decide) rfl rfl 3 (by decide) (hts _ (List.mem_cons_of_mem _ mw_188)) (fun _ h9 => h9) rfl dX11_count_75 ?_
    exact hret _ _ _ _ (0) f0X L0 Q0 dX11_count_78 hP hS ⟨trivial, Or.inl ⟨rfl, by omega⟩⟩
