/-! the class, on a fresh object. Laid by a program (wip/tool) -/
set_option maxHeartbeats 4000000 in
set_option maxRecDepth 100000 in
theorem cf_X11_isPart (l : Launch) (D : va_G) (ca : Nat → ClassId) (za h : Nat → Nat) (hh : sgH 52 h) (f : sg_F) (L : sg_L) (Q : sg_Q) (x0 : Int32) (sz : Nat) : Met l yX11_isPart wsX11_isPart { frames := 0, cells := 0, slots := 0, locals := 0 } (sgP D vwCl (tyX ca) 52 h (eX ca h) zcX za f L Q sz [.int x0]) (sgQi D vwCl 52 h (eX ca h) sz (fun r f1 L1 Q1 => (f1 = f ∧ L1 = L ∧ Q1 = Q) ∧ ((r = 1 ∧ (0 ≤ x0.toInt ∧ x0.toInt ≤ 2)) ∨ (r = 0 ∧ (¬ (0 ≤ x0.toInt ∧ x0.toInt ≤ 2)))))) 0 0 (sgA 52 h sz) := by
  refine sg_ofWz (cc := cX11_isPart) (maxL := 1) RX11 (by decide) rfl rfl (Nat.le_of_ble_eq_true rfl) ?_
  intro p e s m below meth c Qz ls hx hb hml hown hts hK hZ hP hS hl hret
  have hA := sgY.self (n := 52) (h := h) (sz := s.heap.size)
  have hl : lv_has ls 1 [(0, .int x0)] := hl
  obtain ⟨H, hH⟩ : ∃ z : Heap, z = s.heap := ⟨_, rfl⟩
  obtain ⟨locs, hlo⟩ : ∃ z : List Loc, z = [] := ⟨_, rfl⟩
  have hP : va_P D vwCl (sgw 52 h (eX ca h) f L Q) H := by rw [hH]; exact hP
  have hS : va_S (sgA 52 h s.heap.size) s.heap H locs := by rw [hH, hlo]; exact hS
  suffices hgo : W p l e ({ frames := 0, cells := 0, slots := 0, locals := 0 }) s m ([.int x0] : List Value).toArray below meth c H locs 0 0 Qz (F0 m 0 ls []) by rw [hH, hlo] at hgo; exact hgo
  refine lv_iload_n hx hb dX11_isPart_0 rfl (lv_at hl 0 rfl) ?_
  refine lv_if_lt (tgt := 13) hx hb dX11_isPart_1 (by decide) (fun c => ?_) (fun c => ?_)
  · skip
    have c_1 : x0.toInt < 0 := (by have z := bn_lt c; have k1 : (0 : Int32).toInt = 0 := (by decide); omega)
    refine lv_iconst (v := 0) hx hb dX11_isPart_13 (by decide) ?_
    exact hret _ _ _ _ (0) f L Q dX11_isPart_14 (by decide) hP hS ⟨⟨rfl, rfl, rfl⟩, Or.inr (⟨rfl, by omega⟩)⟩
  · skip
    have c_2 : 0 ≤ x0.toInt := (by have z := bn_nlt c; have k1 : (0 : Int32).toInt = 0 := (by decide); omega)
    refine lv_iload_n hx hb dX11_isPart_4 rfl (lv_at hl 0 rfl) ?_
    refine lv_iconst (v := 3) hx hb dX11_isPart_5 (by decide) ?_
    refine lv_icmp_ge (tgt := 13) hx hb dX11_isPart_6 (by decide) (fun c => ?_) (fun c => ?_)
    · skip
      have c_3 : 3 ≤ x0.toInt := (by have z := bn_le c; have k1 : (3 : Int32).toInt = 3 := (by decide); omega)
      refine lv_iconst (v := 0) hx hb dX11_isPart_13 (by decide) ?_
      exact hret _ _ _ _ (0) f L Q dX11_isPart_14 (by decide) hP hS ⟨⟨rfl, rfl, rfl⟩, Or.inr (⟨rfl, by omega⟩)⟩
    · skip
      have c_4 : x0.toInt < 3 := (by have z := bn_nle c; have k1 : (3 : Int32).toInt = 3 := (by decide); omega)
      refine lv_iconst (v := 1) hx hb dX11_isPart_9 (by decide) ?_
      refine lv_goto (tgt := 14) hx hb dX11_isPart_10 (by decide) ?_
      exact hret _ _ _ _ (1) f L Q dX11_isPart_14 (by decide) hP hS ⟨⟨rfl, rfl, rfl⟩, Or.inl ⟨rfl, by omega⟩⟩

set_option maxHeartbeats 4000000 in
set_option maxRecDepth 100000 in
theorem cf_X11_isSetting (l : Launch) (D : va_G) (ca : Nat → ClassId) (za h : Nat → Nat) (hh : sgH 52 h) (f : sg_F) (L : sg_L) (Q : sg_Q) (x0 : Int32) (sz : Nat) : Met l yX11_isSetting wsX11_isSetting { frames := 0, cells := 0, slots := 0, locals := 0 } (sgP D vwCl (tyX ca) 52 h (eX ca h) zcX za f L Q sz [.int x0]) (sgQi D vwCl 52 h (eX ca h) sz (fun r f1 L1 Q1 => (f1 = f ∧ L1 = L ∧ Q1 = Q) ∧ ((r = 1 ∧ (0 ≤ x0.toInt ∧ x0.toInt ≤ 60)) ∨ (r = 0 ∧ (¬ (0 ≤ x0.toInt ∧ x0.toInt ≤ 60)))))) 0 0 (sgA 52 h sz) := by
  refine sg_ofWz (cc := cX11_isSetting) (maxL := 1) RX11 (by decide) rfl rfl (Nat.le_of_ble_eq_true rfl) ?_
  intro p e s m below meth c Qz ls hx hb hml hown hts hK hZ hP hS hl hret
  have hA := sgY.self (n := 52) (h := h) (sz := s.heap.size)
  have hl : lv_has ls 1 [(0, .int x0)] := hl
  obtain ⟨H, hH⟩ : ∃ z : Heap, z = s.heap := ⟨_, rfl⟩
  obtain ⟨locs, hlo⟩ : ∃ z : List Loc, z = [] := ⟨_, rfl⟩
  have hP : va_P D vwCl (sgw 52 h (eX ca h) f L Q) H := by rw [hH]; exact hP
  have hS : va_S (sgA 52 h s.heap.size) s.heap H locs := by rw [hH, hlo]; exact hS
  suffices hgo : W p l e ({ frames := 0, cells := 0, slots := 0, locals := 0 }) s m ([.int x0] : List Value).toArray below meth c H locs 0 0 Qz (F0 m 0 ls []) by rw [hH, hlo] at hgo; exact hgo
  refine lv_iload_n hx hb dX11_isSetting_0 rfl (lv_at hl 0 rfl) ?_
  refine lv_if_lt (tgt := 14) hx hb dX11_isSetting_1 (by decide) (fun c => ?_) (fun c => ?_)
  · skip
    have c_1 : x0.toInt < 0 := (by have z := bn_lt c; have k1 : (0 : Int32).toInt = 0 := (by decide); omega)
    refine lv_iconst (v := 0) hx hb dX11_isSetting_14 (by decide) ?_
    exact hret _ _ _ _ (0) f L Q dX11_isSetting_15 (by decide) hP hS ⟨⟨rfl, rfl, rfl⟩, Or.inr (⟨rfl, by omega⟩)⟩
  · skip
    have c_2 : 0 ≤ x0.toInt := (by have z := bn_nlt c; have k1 : (0 : Int32).toInt = 0 := (by decide); omega)
    refine lv_iload_n hx hb dX11_isSetting_4 rfl (lv_at hl 0 rfl) ?_
    refine lv_bipush (v := 60) hx hb dX11_isSetting_5 (by decide) ?_
    refine lv_icmp_gt (tgt := 14) hx hb dX11_isSetting_7 (by decide) (fun c => ?_) (fun c => ?_)
    · skip
      have c_3 : 60 < x0.toInt := (by have z := bn_lt c; have k1 : (60 : Int32).toInt = 60 := (by decide); omega)
      refine lv_iconst (v := 0) hx hb dX11_isSetting_14 (by decide) ?_
      exact hret _ _ _ _ (0) f L Q dX11_isSetting_15 (by decide) hP hS ⟨⟨rfl, rfl, rfl⟩, Or.inr (⟨rfl, by omega⟩)⟩
    · skip
      have c_4 : x0.toInt ≤ 60 := (by have z := bn_nlt c; have k1 : (60 : Int32).toInt = 60 := (by decide); omega)
      refine lv_iconst (v := 1) hx hb dX11_isSetting_10 (by decide) ?_
      refine lv_goto (tgt := 15) hx hb dX11_isSetting_11 (by decide) ?_
      exact hret _ _ _ _ (1) f L Q dX11_isSetting_15 (by decide) hP hS ⟨⟨rfl, rfl, rfl⟩, Or.inl ⟨rfl, by omega⟩⟩

set_option maxHeartbeats 4000000 in
set_option maxRecDepth 100000 in
theorem cf_X11_isShelf (l : Launch) (D : va_G) (ca : Nat → ClassId) (za h : Nat → Nat) (hh : sgH 52 h) (f : sg_F) (L : sg_L) (Q : sg_Q) (x0 : Int32) (sz : Nat) : Met l yX11_isShelf wsX11_isShelf { frames := 0, cells := 0, slots := 0, locals := 0 } (sgP D vwCl (tyX ca) 52 h (eX ca h) zcX za f L Q sz [.int x0]) (sgQi D vwCl 52 h (eX ca h) sz (fun r f1 L1 Q1 => (f1 = f ∧ L1 = L ∧ Q1 = Q) ∧ ((r = 1 ∧ (0 ≤ x0.toInt ∧ x0.toInt ≤ 5)) ∨ (r = 0 ∧ (¬ (0 ≤ x0.toInt ∧ x0.toInt ≤ 5)))))) 0 0 (sgA 52 h sz) := by
  refine sg_ofWz (cc := cX11_isShelf) (maxL := 1) RX11 (by decide) rfl rfl (Nat.le_of_ble_eq_true rfl) ?_
  intro p e s m below meth c Qz ls hx hb hml hown hts hK hZ hP hS hl hret
  have hA := sgY.self (n := 52) (h := h) (sz := s.heap.size)
  have hl : lv_has ls 1 [(0, .int x0)] := hl
  obtain ⟨H, hH⟩ : ∃ z : Heap, z = s.heap := ⟨_, rfl⟩
  obtain ⟨locs, hlo⟩ : ∃ z : List Loc, z = [] := ⟨_, rfl⟩
  have hP : va_P D vwCl (sgw 52 h (eX ca h) f L Q) H := by rw [hH]; exact hP
  have hS : va_S (sgA 52 h s.heap.size) s.heap H locs := by rw [hH, hlo]; exact hS
  suffices hgo : W p l e ({ frames := 0, cells := 0, slots := 0, locals := 0 }) s m ([.int x0] : List Value).toArray below meth c H locs 0 0 Qz (F0 m 0 ls []) by rw [hH, hlo] at hgo; exact hgo
  refine lv_iload_n hx hb dX11_isShelf_0 rfl (lv_at hl 0 rfl) ?_
  refine lv_if_lt (tgt := 14) hx hb dX11_isShelf_1 (by decide) (fun c => ?_) (fun c => ?_)
  · skip
    have c_1 : x0.toInt < 0 := (by have z := bn_lt c; have k1 : (0 : Int32).toInt = 0 := (by decide); omega)
    refine lv_iconst (v := 0) hx hb dX11_isShelf_14 (by decide) ?_
    exact hret _ _ _ _ (0) f L Q dX11_isShelf_15 (by decide) hP hS ⟨⟨rfl, rfl, rfl⟩, Or.inr (⟨rfl, by omega⟩)⟩
  · skip
    have c_2 : 0 ≤ x0.toInt := (by have z := bn_nlt c; have k1 : (0 : Int32).toInt = 0 := (by decide); omega)
    refine lv_iload_n hx hb dX11_isShelf_4 rfl (lv_at hl 0 rfl) ?_
    refine lv_bipush (v := 6) hx hb dX11_isShelf_5 (by decide) ?_
    refine lv_icmp_ge (tgt := 14) hx hb dX11_isShelf_7 (by decide) (fun c => ?_) (fun c => ?_)
    · skip
      have c_3 : 6 ≤ x0.toInt := (by have z := bn_le c; have k1 : (6 : Int32).toInt = 6 := (by decide); omega)
      refine lv_iconst (v := 0) hx hb dX11_isShelf_14 (by decide) ?_
      exact hret _ _ _ _ (0) f L Q dX11_isShelf_15 (by decide) hP hS ⟨⟨rfl, rfl, rfl⟩, Or.inr (⟨rfl, by omega⟩)⟩
    · skip
      have c_4 : x0.toInt < 6 := (by have z := bn_nle c; have k1 : (6 : Int32).toInt = 6 := (by decide); omega)
      refine lv_iconst (v := 1) hx hb dX11_isShelf_10 (by decide) ?_
      refine lv_goto (tgt := 15) hx hb dX11_isShelf_11 (by decide) ?_
      exact hret _ _ _ _ (1) f L Q dX11_isShelf_15 (by decide) hP hS ⟨⟨rfl, rfl, rfl⟩, Or.inl ⟨rfl, by omega⟩⟩

set_option maxHeartbeats 4000000 in
set_option maxRecDepth 100000 in
theorem cf_X11_isKind (l : Launch) (D : va_G) (ca : Nat → ClassId) (za h : Nat → Nat) (hh : sgH 52 h) (f : sg_F) (L : sg_L) (Q : sg_Q) (x0 : Int32) (sz : Nat) : Met l yX11_isKind wsX11_isKind { frames := 0, cells := 0, slots := 0, locals := 0 } (sgP D vwCl (tyX ca) 52 h (eX ca h) zcX za f L Q sz [.int x0]) (sgQi D vwCl 52 h (eX ca h) sz (fun r f1 L1 Q1 => (f1 = f ∧ L1 = L ∧ Q1 = Q) ∧ ((r = 1 ∧ (0 ≤ x0.toInt ∧ x0.toInt ≤ 7)) ∨ (r = 0 ∧ (¬ (0 ≤ x0.toInt ∧ x0.toInt ≤ 7)))))) 0 0 (sgA 52 h sz) := by
  refine sg_ofWz (cc := cX11_isKind) (maxL := 1) RX11 (by decide) rfl rfl (Nat.le_of_ble_eq_true rfl) ?_
  intro p e s m below meth c Qz ls hx hb hml hown hts hK hZ hP hS hl hret
  have hA := sgY.self (n := 52) (h := h) (sz := s.heap.size)
  have hl : lv_has ls 1 [(0, .int x0)] := hl
  obtain ⟨H, hH⟩ : ∃ z : Heap, z = s.heap := ⟨_, rfl⟩
  obtain ⟨locs, hlo⟩ : ∃ z : List Loc, z = [] := ⟨_, rfl⟩
  have hP : va_P D vwCl (sgw 52 h (eX ca h) f L Q) H := by rw [hH]; exact hP
  have hS : va_S (sgA 52 h s.heap.size) s.heap H locs := by rw [hH, hlo]; exact hS
  suffices hgo : W p l e ({ frames := 0, cells := 0, slots := 0, locals := 0 }) s m ([.int x0] : List Value).toArray below meth c H locs 0 0 Qz (F0 m 0 ls []) by rw [hH, hlo] at hgo; exact hgo
  refine lv_iload_n hx hb dX11_isKind_0 rfl (lv_at hl 0 rfl) ?_
  refine lv_if_lt (tgt := 14) hx hb dX11_isKind_1 (by decide) (fun c => ?_) (fun c => ?_)
  · skip
    have c_1 : x0.toInt < 0 := (by have z := bn_lt c; have k1 : (0 : Int32).toInt = 0 := (by decide); omega)
    refine lv_iconst (v := 0) hx hb dX11_isKind_14 (by decide) ?_
    exact hret _ _ _ _ (0) f L Q dX11_isKind_15 (by decide) hP hS ⟨⟨rfl, rfl, rfl⟩, Or.inr (⟨rfl, by omega⟩)⟩
  · skip
    have c_2 : 0 ≤ x0.toInt := (by have z := bn_nlt c; have k1 : (0 : Int32).toInt = 0 := (by decide); omega)
    refine lv_iload_n hx hb dX11_isKind_4 rfl (lv_at hl 0 rfl) ?_
    refine lv_bipush (v := 8) hx hb dX11_isKind_5 (by decide) ?_
    refine lv_icmp_ge (tgt := 14) hx hb dX11_isKind_7 (by decide) (fun c => ?_) (fun c => ?_)
    · skip
      have c_3 : 8 ≤ x0.toInt := (by have z := bn_le c; have k1 : (8 : Int32).toInt = 8 := (by decide); omega)
      refine lv_iconst (v := 0) hx hb dX11_isKind_14 (by decide) ?_
      exact hret _ _ _ _ (0) f L Q dX11_isKind_15 (by decide) hP hS ⟨⟨rfl, rfl, rfl⟩, Or.inr (⟨rfl, by omega⟩)⟩
    · skip
      have c_4 : x0.toInt < 8 := (by have z := bn_nle c; have k1 : (8 : Int32).toInt = 8 := (by decide); omega)
      refine lv_iconst (v := 1) hx hb dX11_isKind_10 (by decide) ?_
      refine lv_goto (tgt := 15) hx hb dX11_isKind_11 (by decide) ?_
      exact hret _ _ _ _ (1) f L Q dX11_isKind_15 (by decide) hP hS ⟨⟨rfl, rfl, rfl⟩, Or.inl ⟨rfl, by omega⟩⟩

set_option maxHeartbeats 4000000 in
set_option maxRecDepth 100000 in
theorem cf_X0_has (l : Launch) (D : va_G) (ca : Nat → ClassId) (za h : Nat → Nat) (hh : sgH 52 h) (f : sg_F) (L : sg_L) (Q : sg_Q) (x0 : Int32) (hs : f 1 3 = 0) (sz : Nat) : Met l yX0_has wsX0_has { frames := 0, cells := 0, slots := 0, locals := 0 } (sgP D vwCl (tyX ca) 52 h (eX ca h) zcX za f L Q sz [.ref (h 1), .int x0]) (sgQi D vwCl 52 h (eX ca h) sz (fun r f1 L1 Q1 => (f1 = f ∧ L1 = L ∧ Q1 = Q) ∧ ((r = 0 ∧ (True))))) 0 0 (sgA 52 h sz) := by
  refine sg_ofWz (cc := cX0_has) (maxL := 2) RX0 (by decide) rfl rfl (Nat.le_of_ble_eq_true rfl) ?_
  intro p e s m below meth c Qz ls hx hb hml hown hts hK hZ hP hS hl hret
  have hA := sgY.self (n := 52) (h := h) (sz := s.heap.size)
  have hl : lv_has ls 2 [(0, .ref (h 1)), (1, .int x0)] := hl
  obtain ⟨H, hH⟩ : ∃ z : Heap, z = s.heap := ⟨_, rfl⟩
  obtain ⟨locs, hlo⟩ : ∃ z : List Loc, z = [] := ⟨_, rfl⟩
  have hP : va_P D vwCl (sgw 52 h (eX ca h) f L Q) H := by rw [hH]; exact hP
  have hS : va_S (sgA 52 h s.heap.size) s.heap H locs := by rw [hH, hlo]; exact hS
  suffices hgo : W p l e ({ frames := 0, cells := 0, slots := 0, locals := 0 }) s m ([.ref (h 1), .int x0] : List Value).toArray below meth c H locs 0 0 Qz (F0 m 0 ls []) by rw [hH, hlo] at hgo; exact hgo
  refine lv_iload_n hx hb dX0_has_0 rfl (lv_at hl 1 rfl) ?_
  refine lv_if_lt (tgt := 16) hx hb dX0_has_1 (by decide) (fun c => ?_) (fun c => ?_)
  · skip
    have c_1 : x0.toInt < 0 := (by have z := bn_lt c; have k1 : (0 : Int32).toInt = 0 := (by decide); omega)
    refine lv_iconst (v := 0) hx hb dX0_has_16 (by decide) ?_
    exact hret _ _ _ _ (0) f L Q dX0_has_17 (by decide) hP hS ⟨⟨rfl, rfl, rfl⟩, ⟨rfl, trivial⟩⟩
  · skip
    have c_2 : 0 ≤ x0.toInt := (by have z := bn_nlt c; have k1 : (0 : Int32).toInt = 0 := (by decide); omega)
    refine lv_iload_n hx hb dX0_has_4 rfl (lv_at hl 1 rfl) ?_
    refine lv_aload_n hx hb dX0_has_5 rfl (lv_at hl 0 rfl) ?_
    refine sg_get (ci := 0) (v := .int 0) (C := RX0) (T := TX0) (N := 5) hx hb hts (by decide +kernel) hown hK hP 1 (by decide) rfl rfl 3 (by decide) (hts (.fieldLink RX0 28 "SetAgain$Chair" "sitters" "I") (by decide +kernel)) (fun _ h9 => h9) (congrArg (fun z => some (Value.int z)) (show f 1 3 = 0 from hs)) dX0_has_6 ?_
    refine lv_icmp_ge (tgt := 16) hx hb dX0_has_9 (by decide) (fun c => ?_) (fun c => ?_)
    · skip
      have c_3 : 0 ≤ x0.toInt := (by have z := bn_le c; have k1 : (0 : Int32).toInt = 0 := (by decide); omega)
      refine lv_iconst (v := 0) hx hb dX0_has_16 (by decide) ?_
      exact hret _ _ _ _ (0) f L Q dX0_has_17 (by decide) hP hS ⟨⟨rfl, rfl, rfl⟩, ⟨rfl, trivial⟩⟩
    · skip
      exfalso; have c_4 : x0.toInt < 0 := (by have z := bn_nle c; have k1 : (0 : Int32).toInt = 0 := (by decide); omega); omega

set_option maxHeartbeats 4000000 in
set_option maxRecDepth 100000 in
theorem cf_X11_refusalOf (l : Launch) (D : va_G) (ca : Nat → ClassId) (za h : Nat → Nat) (hh : sgH 52 h) (x0 : Int32) (b0 : 0 ≤ x0.toInt ∧ x0.toInt ≤ 5) (sz : Nat) : Met l yX11_refusalOf wsX11_refusalOf { frames := 0, cells := 0, slots := 0, locals := 0 } (sgP D vwCl (tyX ca) 52 h (eX ca h) zcX za f0X L0 Q0 sz [.ref (h 0), .int x0]) (sgQi D vwCl 52 h (eX ca h) sz (fun r f1 L1 Q1 => (f1 = f0X ∧ L1 = L0 ∧ Q1 = Q0) ∧ ((r = (-11) ∧ (True))))) 0 0 (sgA 52 h sz) := by
  refine sg_ofWi (cc := cX11_refusalOf) (maxL := 2) RX11 (by decide) rfl rfl (Nat.le_of_ble_eq_true rfl) ?_
  intro p e s m below meth c Qz ls hx hb hml hown hts hK hZ hP hS hl hret
  have hA := sgY.self (n := 52) (h := h) (sz := s.heap.size)
  have hl : lv_has ls 2 [(0, .ref (h 0)), (1, .int x0)] := hl
  obtain ⟨H, hH⟩ : ∃ z : Heap, z = s.heap := ⟨_, rfl⟩
  obtain ⟨locs, hlo⟩ : ∃ z : List Loc, z = [] := ⟨_, rfl⟩
  have hP : va_P D vwCl (sgw 52 h (eX ca h) f0X L0 Q0) H := by rw [hH]; exact hP
  have hS : va_S (sgA 52 h s.heap.size) s.heap H locs := by rw [hH, hlo]; exact hS
  suffices hgo : W p l e ({ frames := 0, cells := 0, slots := 0, locals := 0 }) s m ([.ref (h 0), .int x0] : List Value).toArray below meth c H locs 0 0 Qz (F0 m 0 ls []) by rw [hH, hlo] at hgo; exact hgo
  refine lv_aload_n hx hb dX11_refusalOf_0 rfl (lv_at hl 0 rfl) ?_
  refine sg_get (ci := 11) (v := .ref (h 39)) (C := RX11) (T := TX11) (N := 10) hx hb hts (by decide +kernel) hown hK hP 0 (by decide) rfl rfl 9 (by decide) (hts (.fieldLink RX11 80 "SetAgain" "shelves" "[LSetAgain$Shelf;") (by decide +kernel)) (fun _ h9 => h9) rfl dX11_refusalOf_1 ?_
  refine lv_iload_n hx hb dX11_refusalOf_4 rfl (lv_at hl 1 rfl) ?_
  obtain ⟨t_1, et_1⟩ : ∃ z : Nat, z = x0.toNatClampNeg := ⟨_, rfl⟩
  have ht_t_1 : t_1 < 6 := by rw [et_1]; exact bn_kI (by omega) (by omega)
  refine sg_aald hx hb hK hP 39 (by decide) 3 rfl rfl (i := x0) (a := (h (40 + 2 * t_1))) (vp_in_iff.mpr ⟨by omega, by omega⟩) (show (if x0.toNatClampNeg < 6 then some (h (40 + 2 * x0.toNatClampNeg)) else none) = some (h (40 + 2 * t_1)) from by rw [← et_1, if_pos ht_t_1]) dX11_refusalOf_5 ?_
  refine sg_get (ci := 7) (v := .int (-1)) (C := RX7) (T := TX7) (N := 4) hx hb hts (by decide +kernel) hown hK hP (40 + 2 * t_1) (by have := ht_t_1; omega) (eX_sh ca h ht_t_1 _ _ _) rfl 1 (by decide) (hts (.fieldLink RX11 100 "SetAgain$Shelf" "sort" "I") (by decide +kernel)) (fun _ h9 => h9) (congrArg (fun z => some (Value.int z)) (show f0X (40 + 2 * t_1) 1 = (-1) from (by rw [f0X_sh ht_t_1]; rfl))) dX11_refusalOf_6 ?_
  refine lv_iconst (v := (-1)) hx hb dX11_refusalOf_9 (by decide) ?_
  refine lv_icmp_ne (tgt := 16) hx hb dX11_refusalOf_10 (by decide) (fun c => absurd c (by decide)) (fun c => ?_)
  refine lv_bipush (v := (-11)) hx hb dX11_refusalOf_13 (by decide) ?_
  exact hret _ _ _ _ (-11) f0X L0 Q0 dX11_refusalOf_15 hP hS ⟨⟨rfl, rfl, rfl⟩, ⟨rfl, trivial⟩⟩

set_option maxHeartbeats 4000000 in
set_option maxRecDepth 100000 in
theorem cf_X11_readWeek (l : Launch) (D : va_G) (ca : Nat → ClassId) (za h : Nat → Nat) (hh : sgH 52 h) (x0 : Int32) (b0 : 0 ≤ x0.toInt ∧ x0.toInt ≤ 5) (sz : Nat) : Met l yX11_readWeek wsX11_readWeek { frames := 1, cells := 0, slots := 0, locals := 21 } (sgP D vwCl (tyX ca) 52 h (eX ca h) zcX za f0X L0 Q0 sz [.ref (h 0), .int x0]) (sgQi D vwCl 52 h (eX ca h) sz (fun r f1 L1 Q1 => (f1 = f0X ∧ L1 = L0 ∧ Q1 = Q0) ∧ ((r = (-11) ∧ (True))))) 0 0 (sgA 52 h sz) := by
  refine sg_ofWi (cc := cX11_readWeek) (maxL := 3) RX11 (by decide) rfl rfl (Nat.le_of_ble_eq_true rfl) ?_
  intro p e s m below meth c Qz ls hx hb hml hown hts hK hZ hP hS hl hret
  have hA := sgY.self (n := 52) (h := h) (sz := s.heap.size)
  have hl : lv_has ls 3 [(0, .ref (h 0)), (1, .int x0)] := hl
  obtain ⟨H, hH⟩ : ∃ z : Heap, z = s.heap := ⟨_, rfl⟩
  obtain ⟨locs, hlo⟩ : ∃ z : List Loc, z = [] := ⟨_, rfl⟩
  have hP : va_P D vwCl (sgw 52 h (eX ca h) f0X L0 Q0) H := by rw [hH]; exact hP
  have hS : va_S (sgA 52 h s.heap.size) s.heap H locs := by rw [hH, hlo]; exact hS
  suffices hgo : W p l e ({ frames := 1, cells := 0, slots := 0, locals := 21 }) s m ([.ref (h 0), .int x0] : List Value).toArray below meth c H locs 0 0 Qz (F0 m 0 ls []) by rw [hH, hlo] at hgo; exact hgo
  refine lv_aload_n hx hb dX11_readWeek_0 rfl (lv_at hl 0 rfl) ?_
  refine lv_iload_n hx hb dX11_readWeek_1 rfl (lv_at hl 1 rfl) ?_
  refine sg_calli (va_runV (As := [.int x0]) (rest := []) ⟨hx, hb, hml, hown, hts⟩ (cf_X11_refusalOf l D ca za h hh x0 (by omega) H.size) (cwV 1 hts gX11_readWeek_X11_refusalOf rfl rfl rfl (by decide +kernel) ⟨Nat.le_of_ble_eq_true rfl, Nat.le_of_ble_eq_true rfl⟩) (sg_preV (ci := 11) (C := RX11) (T := TX11) (N := 10) hA hK hP hS hZ 0 (by decide) rfl rfl) rfl rfl hl.1 rfl (lv_room (Nat.le_of_ble_eq_true rfl)) dX11_readWeek_2 ⟨Nat.le_refl _, Nat.le_refl _⟩) hA hS (fun r_4 f_1 L_2 Q_3 H locs hq hP hS => ?_)
  obtain ⟨⟨rfl, rfl, rfl⟩, hq⟩ := hq
  obtain ⟨rfl, hq⟩ := hq
  have q_5 := hq
  refine lv_istore_n (lv' := [(2, .int (-11)), (0, .ref (h 0)), (1, .int x0)]) hx hb dX11_readWeek_5 rfl hl (by decide) rfl (fun ls hl => ?_)
  refine lv_iload_n hx hb dX11_readWeek_6 rfl (lv_at hl 0 rfl) ?_
  refine lv_if_ne (tgt := 30) hx hb dX11_readWeek_7 (by decide) (fun c => ?_) (fun c => absurd c (by decide))
  refine lv_iload_n hx hb dX11_readWeek_30 rfl (lv_at hl 0 rfl) ?_
  exact hret _ _ _ _ (-11) f0X L0 Q0 dX11_readWeek_31 hP hS ⟨⟨rfl, rfl, rfl⟩, ⟨rfl, trivial⟩⟩

set_option maxHeartbeats 4000000 in
set_option maxRecDepth 100000 in
theorem cf_X11_never (l : Launch) (D : va_G) (ca : Nat → ClassId) (za h : Nat → Nat) (hh : sgH 52 h) (x0 : Int32) (x1 : Int32) (x2 : Int32) (sz : Nat) : Met l yX11_never wsX11_never { frames := 2, cells := 0, slots := 0, locals := 43 } (sgP D vwCl (tyX ca) 52 h (eX ca h) zcX za f0X L0 Q0 sz [.ref (h 0), .int x0, .int x1, .int x2]) (sgQi D vwCl 52 h (eX ca h) sz (fun r f1 L1 Q1 => True ∧ ((r = (-11) ∧ ((0 ≤ x0.toInt ∧ x0.toInt ≤ 5) ∧ (0 ≤ x1.toInt ∧ x1.toInt ≤ 2) ∧ (0 ≤ x2.toInt ∧ x2.toInt ≤ 60))) ∨ (r = (-1) ∧ (¬ ((0 ≤ x0.toInt ∧ x0.toInt ≤ 5) ∧ (0 ≤ x1.toInt ∧ x1.toInt ≤ 2) ∧ (0 ≤ x2.toInt ∧ x2.toInt ≤ 60))))))) 0 0 (sgA 52 h sz) := by
  refine sg_ofWi (cc := cX11_never) (maxL := 5) RX11 (by decide) rfl rfl (Nat.le_of_ble_eq_true rfl) ?_
  intro p e s m below meth c Qz ls hx hb hml hown hts hK hZ hP hS hl hret
  have hA := sgY.self (n := 52) (h := h) (sz := s.heap.size)
  have hl : lv_has ls 5 [(0, .ref (h 0)), (1, .int x0), (2, .int x1), (3, .int x2)] := hl
  obtain ⟨H, hH⟩ : ∃ z : Heap, z = s.heap := ⟨_, rfl⟩
  obtain ⟨locs, hlo⟩ : ∃ z : List Loc, z = [] := ⟨_, rfl⟩
  have hP : va_P D vwCl (sgw 52 h (eX ca h) f0X L0 Q0) H := by rw [hH]; exact hP
  have hS : va_S (sgA 52 h s.heap.size) s.heap H locs := by rw [hH, hlo]; exact hS
  suffices hgo : W p l e ({ frames := 2, cells := 0, slots := 0, locals := 43 }) s m ([.ref (h 0), .int x0, .int x1, .int x2] : List Value).toArray below meth c H locs 0 0 Qz (F0 m 0 ls []) by rw [hH, hlo] at hgo; exact hgo
  refine lv_iload_n hx hb dX11_never_0 rfl (lv_at hl 1 rfl) ?_
  refine sg_calli (va_runS (As := [.int x0]) (rest := []) ⟨hx, hb, hml, hown, hts⟩ (cf_X11_isShelf l D ca za h hh f0X L0 Q0 x0 H.size) (va_cwS 1 hts gX11_never_X11_isShelf rfl rfl rfl (by decide +kernel) ⟨Nat.le_of_ble_eq_true rfl, Nat.le_of_ble_eq_true rfl⟩) (sg_preS hA hK hP hS hZ) rfl rfl hl.1 rfl (lv_room (Nat.le_of_ble_eq_true rfl)) dX11_never_1 ⟨Nat.le_refl _, Nat.le_refl _⟩) hA hS (fun r_4 f_1 L_2 Q_3 H locs hq hP hS => ?_)
  obtain ⟨⟨rfl, rfl, rfl⟩, hq⟩ := hq
  rcases hq with ⟨rfl, hq⟩ | ⟨rfl, hq⟩
  · skip
    have q_5 := hq
    refine lv_if_eq (tgt := 21) hx hb dX11_never_4 (by decide) (fun c => absurd c (by decide)) (fun c => ?_)
    refine lv_iload_n hx hb dX11_never_7 rfl (lv_at hl 2 rfl) ?_
    refine sg_calli (va_runS (As := [.int x1]) (rest := []) ⟨hx, hb, hml, hown, hts⟩ (cf_X11_isPart l D ca za h hh f0X L0 Q0 x1 H.size) (va_cwS 1 hts gX11_never_X11_isPart rfl rfl rfl (by decide +kernel) ⟨Nat.le_of_ble_eq_true rfl, Nat.le_of_ble_eq_true rfl⟩) (sg_preS hA hK hP hS hZ) rfl rfl hl.1 rfl (lv_room (Nat.le_of_ble_eq_true rfl)) dX11_never_8 ⟨Nat.le_refl _, Nat.le_refl _⟩) hA hS (fun r_9 f_6 L_7 Q_8 H locs hq hP hS => ?_)
    obtain ⟨⟨rfl, rfl, rfl⟩, hq⟩ := hq
    rcases hq with ⟨rfl, hq⟩ | ⟨rfl, hq⟩
    · skip
      have q_10 := hq
      refine lv_if_eq (tgt := 21) hx hb dX11_never_11 (by decide) (fun c => absurd c (by decide)) (fun c => ?_)
      refine lv_iload_n hx hb dX11_never_14 rfl (lv_at hl 3 rfl) ?_
      refine sg_calli (va_runS (As := [.int x2]) (rest := []) ⟨hx, hb, hml, hown, hts⟩ (cf_X11_isSetting l D ca za h hh f0X L0 Q0 x2 H.size) (va_cwS 1 hts gX11_never_X11_isSetting rfl rfl rfl (by decide +kernel) ⟨Nat.le_of_ble_eq_true rfl, Nat.le_of_ble_eq_true rfl⟩) (sg_preS hA hK hP hS hZ) rfl rfl hl.1 rfl (lv_room (Nat.le_of_ble_eq_true rfl)) dX11_never_15 ⟨Nat.le_refl _, Nat.le_refl _⟩) hA hS (fun r_14 f_11 L_12 Q_13 H locs hq hP hS => ?_)
      obtain ⟨⟨rfl, rfl, rfl⟩, hq⟩ := hq
      rcases hq with ⟨rfl, hq⟩ | ⟨rfl, hq⟩
      · skip
        have q_15 := hq
        refine lv_if_ne (tgt := 23) hx hb dX11_never_18 (by decide) (fun c => ?_) (fun c => absurd c (by decide))
        refine lv_aload_n hx hb dX11_never_23 rfl (lv_at hl 0 rfl) ?_
        refine lv_iload_n hx hb dX11_never_24 rfl (lv_at hl 1 rfl) ?_
        refine sg_calli (va_runV (As := [.int x0]) (rest := []) ⟨hx, hb, hml, hown, hts⟩ (cf_X11_readWeek l D ca za h hh x0 (by omega) H.size) (cwV 1 hts gX11_never_X11_readWeek rfl rfl rfl (by decide +kernel) ⟨Nat.le_of_ble_eq_true rfl, Nat.le_of_ble_eq_true rfl⟩) (sg_preV (ci := 11) (C := RX11) (T := TX11) (N := 10) hA hK hP hS hZ 0 (by decide) rfl rfl) rfl rfl hl.1 rfl (lv_room (Nat.le_of_ble_eq_true rfl)) dX11_never_25 ⟨Nat.le_refl _, Nat.le_refl _⟩) hA hS (fun r_19 f_16 L_17 Q_18 H locs hq hP hS => ?_)
        obtain ⟨⟨rfl, rfl, rfl⟩, hq⟩ := hq
        obtain ⟨rfl, hq⟩ := hq
        have q_20 := hq
        refine lv_istore (lv' := [(4, .int (-11)), (0, .ref (h 0)), (1, .int x0), (2, .int x1), (3, .int x2)]) hx hb dX11_never_28 hl (by decide) rfl (fun ls hl => ?_)
        refine lv_iload hx hb dX11_never_30 (lv_at hl 0 rfl) ?_
        refine lv_if_eq (tgt := 40) hx hb dX11_never_32 (by decide) (fun c => absurd c (by decide)) (fun c => ?_)
        refine lv_iload hx hb dX11_never_35 (lv_at hl 0 rfl) ?_
        refine lv_goto (tgt := 49) hx hb dX11_never_37 (by decide) ?_
        exact hret _ _ _ _ (-11) f0X L0 Q0 dX11_never_49 hP hS ⟨trivial, Or.inl ⟨rfl, by omega⟩⟩
      · skip
        have q_21 := hq
        refine lv_if_ne (tgt := 23) hx hb dX11_never_18 (by decide) (fun c => absurd c (by decide)) (fun c => ?_)
        refine lv_iconst (v := (-1)) hx hb dX11_never_21 (by decide) ?_
        exact hret _ _ _ _ (-1) f0X L0 Q0 dX11_never_22 hP hS ⟨trivial, Or.inr (⟨rfl, by omega⟩)⟩
    · skip
      have q_22 := hq
      refine lv_if_eq (tgt := 21) hx hb dX11_never_11 (by decide) (fun c => ?_) (fun c => absurd c (by decide))
      refine lv_iconst (v := (-1)) hx hb dX11_never_21 (by decide) ?_
      exact hret _ _ _ _ (-1) f0X L0 Q0 dX11_never_22 hP hS ⟨trivial, Or.inr (⟨rfl, by omega⟩)⟩
  · skip
    have q_23 := hq
    refine lv_if_eq (tgt := 21) hx hb dX11_never_4 (by decide) (fun c => ?_) (fun c => absurd c (by decide))
    refine lv_iconst (v := (-1)) hx hb dX11_never_21 (by decide) ?_
    exact hret _ _ _ _ (-1) f0X L0 Q0 dX11_never_22 hP hS ⟨trivial, Or.inr (⟨rfl, by omega⟩)⟩
