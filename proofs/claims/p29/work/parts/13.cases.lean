/-! the law's cases. Laid by a program (wip/tool) -/
theorem lw_calli {p : Program} {l : Launch} {e : Env} {R : Room} {s : State} {m : MethodId} {args : Array Value} {below : List Frame} {meth : Method} {c : Code} {H : Heap} {locs : List Loc} {cells slots : Nat} {Qz : State → Prop} {pc : Nat} {ls : Array Slot} {rest : List Value} {D : va_G} {cl : List vw_C} {n : Nat} {h : Nat → Nat} {ee : sg_E} {A : Nat → Prop} {st0 : List Value} {a : Array Value} {post : Int32 → sg_F → sg_L → sg_Q → Prop} (hr : va_Run p l e R s m args below meth c H locs cells slots 0 0 (F0 m pc ls st0) rest (sgQi D cl n h ee H.size post a) (sgA n h H.size)) (hA : sgY A n h s.heap.size) (hS : va_S A s.heap H locs)
    (kk : ∀ (r : Int32) (H1 : Heap) (locs1 : List Loc), (∃ (f1 : sg_F) (L1 : sg_L) (Q1 : sg_Q), post r f1 L1 Q1) → (∀ q : Nat, q < H.size → ¬ sgA n h H.size q → H1[q]? = H[q]?) → H.size ≤ H1.size → va_S A s.heap H1 locs1 → W p l e R s m args below meth c H1 locs1 cells slots Qz (F0 m (pc + 3) ls (.int r :: rest))) : W p l e R s m args below meth c H locs cells slots Qz (F0 m pc ls st0) :=
  va_calli hr hS (fun q _ hq => hA.sub hS.1 hq) (fun q hq => hA.sub hS.1 hq) (fun r u t H1 locs1 _ _ hw _ hz hk hS1 => kk r H1 locs1 ⟨u.1, u.2.1, u.2.2, hw⟩ hk hz hS1)
theorem lw_calll {p : Program} {l : Launch} {e : Env} {R : Room} {s : State} {m : MethodId} {args : Array Value} {below : List Frame} {meth : Method} {c : Code} {H : Heap} {locs : List Loc} {cells slots : Nat} {Qz : State → Prop} {pc : Nat} {ls : Array Slot} {rest : List Value} {D : va_G} {cl : List vw_C} {n : Nat} {h : Nat → Nat} {ee : sg_E} {A : Nat → Prop} {st0 : List Value} {a : Array Value} {post : Int64 → sg_F → sg_L → sg_Q → Prop} (hr : va_Run p l e R s m args below meth c H locs cells slots 0 0 (F0 m pc ls st0) rest (sgQl D cl n h ee H.size post a) (sgA n h H.size)) (hA : sgY A n h s.heap.size) (hS : va_S A s.heap H locs)
    (kk : ∀ (r : Int64) (H1 : Heap) (locs1 : List Loc), (∃ (f1 : sg_F) (L1 : sg_L) (Q1 : sg_Q), post r f1 L1 Q1) → (∀ q : Nat, q < H.size → ¬ sgA n h H.size q → H1[q]? = H[q]?) → H.size ≤ H1.size → va_S A s.heap H1 locs1 → W p l e R s m args below meth c H1 locs1 cells slots Qz (F0 m (pc + 3) ls (.long r :: rest))) : W p l e R s m args below meth c H locs cells slots Qz (F0 m pc ls st0) :=
  va_calll hr hS (fun q _ hq => hA.sub hS.1 hq) (fun q hq => hA.sub hS.1 hq) (fun r u t H1 locs1 _ _ hw _ hz hk hS1 => kk r H1 locs1 ⟨u.1, u.2.1, u.2.2, hw⟩ hk hz hS1)
theorem lw_kept {D : va_G} {cl : List vw_C} {n n1 : Nat} {h h1 : Nat → Nat} {e : sg_E} {f : sg_F} {L : sg_L} {Q : sg_Q} {H H1 : Heap} (hP : va_P D cl (sgw n1 h1 e f L Q) H) (hdis : ∀ i j : Nat, i < n → j < n1 → h i ≠ h1 j) (hk : ∀ q : Nat, q < H.size → ¬ sgA n h H.size q → H1[q]? = H[q]?) : va_P D cl (sgw n1 h1 e f L Q) H1 :=
  hP.kept (fun k q hq => by
    have hlt := (hP k q hq).lt
    obtain ⟨hkn, e1⟩ := sgw_inv hq
    refine hk _ hlt (fun z => ?_)
    rcases z with ⟨i, hi, e2⟩ | z
    · rw [e1] at e2; exact hdis i k hi hkn e2.symm
    · omega)
theorem lg_cmp_self (x : Int64) : lg_cmp x x = 0 := by
  unfold lg_cmp
  have h : ¬ x < x := fun z => by have := Int64.lt_iff_toInt_lt.mp z; omega
  first | rw [if_neg h, if_pos rfl] | simp
theorem lw_callI {p : Program} {l : Launch} {e : Env} {R : Room} {s : State} {m : MethodId} {args : Array Value} {below : List Frame} {meth : Method} {c : Code} {H : Heap} {locs : List Loc} {cells slots : Nat} {Qz : State → Prop} {pc : Nat} {ls : Array Slot} {rest : List Value} {D : va_G} {cl : List vw_C} {n : Nat} {h : Nat → Nat} {ee : sg_E} {A : Nat → Prop} {st0 : List Value} {a : Array Value} {post : Int32 → sg_F → sg_L → sg_Q → Prop} (hr : va_Run p l e R s m args below meth c H locs cells slots 0 0 (F0 m pc ls st0) rest (sgQi D cl n h ee H.size post a) (sgA n h H.size)) (hA : sgY A n h s.heap.size) (hS : va_S A s.heap H locs)
    (kk : ∀ (r : Int32) (f1 : sg_F) (L1 : sg_L) (Q1 : sg_Q) (H1 : Heap) (locs1 : List Loc), post r f1 L1 Q1 → va_P D cl (sgw n h ee f1 L1 Q1) H1 → (∀ q : Nat, q < H.size → ¬ sgA n h H.size q → H1[q]? = H[q]?) → va_S A s.heap H1 locs1 → W p l e R s m args below meth c H1 locs1 cells slots Qz (F0 m (pc + 3) ls (.int r :: rest))) : W p l e R s m args below meth c H locs cells slots Qz (F0 m pc ls st0) :=
  va_calli hr hS (fun q _ hq => hA.sub hS.1 hq) (fun q hq => hA.sub hS.1 hq) (fun r u t H1 locs1 ht _ hw hB _ hk hS1 => kk r u.1 u.2.1 u.2.2 H1 locs1 hw (by rw [← ht]; exact hB) hk hS1)
theorem lw_callL {p : Program} {l : Launch} {e : Env} {R : Room} {s : State} {m : MethodId} {args : Array Value} {below : List Frame} {meth : Method} {c : Code} {H : Heap} {locs : List Loc} {cells slots : Nat} {Qz : State → Prop} {pc : Nat} {ls : Array Slot} {rest : List Value} {D : va_G} {cl : List vw_C} {n : Nat} {h : Nat → Nat} {ee : sg_E} {A : Nat → Prop} {st0 : List Value} {a : Array Value} {post : Int64 → sg_F → sg_L → sg_Q → Prop} (hr : va_Run p l e R s m args below meth c H locs cells slots 0 0 (F0 m pc ls st0) rest (sgQl D cl n h ee H.size post a) (sgA n h H.size)) (hA : sgY A n h s.heap.size) (hS : va_S A s.heap H locs)
    (kk : ∀ (r : Int64) (f1 : sg_F) (L1 : sg_L) (Q1 : sg_Q) (H1 : Heap) (locs1 : List Loc), post r f1 L1 Q1 → va_P D cl (sgw n h ee f1 L1 Q1) H1 → (∀ q : Nat, q < H.size → ¬ sgA n h H.size q → H1[q]? = H[q]?) → va_S A s.heap H1 locs1 → W p l e R s m args below meth c H1 locs1 cells slots Qz (F0 m (pc + 3) ls (.long r :: rest))) : W p l e R s m args below meth c H locs cells slots Qz (F0 m pc ls st0) :=
  va_calll hr hS (fun q _ hq => hA.sub hS.1 hq) (fun q hq => hA.sub hS.1 hq) (fun r u t H1 locs1 ht _ hw hB _ hk hS1 => kk r u.1 u.2.1 u.2.2 H1 locs1 hw (by rw [← ht]; exact hB) hk hS1)
/-- what holds at the law's loop: bounds and ties of both, and what this part wants -/
def lwInv (fX : sg_F) (LX : sg_L) (QX : sg_Q) (fM : sg_F) (LM : sg_L) (QM : sg_Q) : Prop := sgI loX hiX fX ∧ JX fX ∧ sgI loM hiM fM ∧ JM fM ∧ (rDesk fX fM ∧ rTrace fX fM ∧ rShelf fX fM ∧ rEl fX LX LM ∧ rNum fX fM ∧ rChg fX fM ∧ rByte fX LX ∧ rTape fX fM ∧ rLs fX fM ∧ rSt fX fM ∧ rIdle fX fM ∧ rIm fX fM)
theorem loX_0 (k j : Nat) : loX k j ≤ 0 := by
  unfold loX
  split <;> first | decide | (split <;> decide)
theorem hiX_0 (k j : Nat) : 0 ≤ hiX k j := by
  unfold hiX
  split <;> first | decide | (split <;> decide)
theorem f0X_I : sgI loX hiX f0X := by
  intro k j
  unfold f0X
  split
  · skip
    by_cases h70 : j = 70
    · rw [h70, sgu_s]; decide
    · rw [sgu_n h70]
      by_cases h69 : j = 69
      · rw [h69, sgu_s]; decide
      · rw [sgu_n h69]
        by_cases h68 : j = 68
        · rw [h68, sgu_s]; decide
        · rw [sgu_n h68]
          by_cases h67 : j = 67
          · rw [h67, sgu_s]; decide
          · rw [sgu_n h67]
            exact ⟨loX_0 2 j, hiX_0 2 j⟩
  · skip
    by_cases h2 : j = 2
    · rw [h2, sgu_s]; decide
    · rw [sgu_n h2]
      by_cases h1 : j = 1
      · rw [h1, sgu_s]; decide
      · rw [sgu_n h1]
        by_cases h0 : j = 0
        · rw [h0, sgu_s]; decide
        · rw [sgu_n h0]
          exact ⟨loX_0 3 j, hiX_0 3 j⟩
  · skip
    by_cases h9 : j = 9
    · rw [h9, sgu_s]; decide
    · rw [sgu_n h9]
      by_cases h7 : j = 7
      · rw [h7, sgu_s]; decide
      · rw [sgu_n h7]
        exact ⟨loX_0 13 j, hiX_0 13 j⟩
  · skip
    by_cases h4 : j = 4
    · rw [h4, sgu_s]; decide
    · rw [sgu_n h4]
      exact ⟨loX_0 29 j, hiX_0 29 j⟩
  · skip
    by_cases h1 : j = 1
    · rw [h1, sgu_s]; decide
    · rw [sgu_n h1]
      exact ⟨loX_0 40 j, hiX_0 40 j⟩
  · skip
    by_cases h1 : j = 1
    · rw [h1, sgu_s]; decide
    · rw [sgu_n h1]
      exact ⟨loX_0 42 j, hiX_0 42 j⟩
  · skip
    by_cases h1 : j = 1
    · rw [h1, sgu_s]; decide
    · rw [sgu_n h1]
      exact ⟨loX_0 44 j, hiX_0 44 j⟩
  · skip
    by_cases h1 : j = 1
    · rw [h1, sgu_s]; decide
    · rw [sgu_n h1]
      exact ⟨loX_0 46 j, hiX_0 46 j⟩
  · skip
    by_cases h1 : j = 1
    · rw [h1, sgu_s]; decide
    · rw [sgu_n h1]
      exact ⟨loX_0 48 j, hiX_0 48 j⟩
  · skip
    by_cases h1 : j = 1
    · rw [h1, sgu_s]; decide
    · rw [sgu_n h1]
      exact ⟨loX_0 50 j, hiX_0 50 j⟩
  · exact ⟨loX_0 _ j, hiX_0 _ j⟩
theorem loM_0 (k j : Nat) : loM k j ≤ 0 := by
  unfold loM
  split <;> first | decide | (split <;> decide)
theorem hiM_0 (k j : Nat) : 0 ≤ hiM k j := by
  unfold hiM
  split <;> first | decide | (split <;> decide)
theorem f0M_I : sgI loM hiM f0M := by
  intro k j
  unfold f0M
  split
  · skip
    by_cases h24 : j = 24
    · rw [h24, sgu_s]; decide
    · rw [sgu_n h24]
      by_cases h20 : j = 20
      · rw [h20, sgu_s]; decide
      · rw [sgu_n h20]
        by_cases h42 : j = 42
        · rw [h42, sgu_s]; decide
        · rw [sgu_n h42]
          by_cases h11 : j = 11
          · rw [h11, sgu_s]; decide
          · rw [sgu_n h11]
            exact ⟨loM_0 0 j, hiM_0 0 j⟩
  · skip
    by_cases h70 : j = 70
    · rw [h70, sgu_s]; decide
    · rw [sgu_n h70]
      by_cases h69 : j = 69
      · rw [h69, sgu_s]; decide
      · rw [sgu_n h69]
        by_cases h68 : j = 68
        · rw [h68, sgu_s]; decide
        · rw [sgu_n h68]
          by_cases h67 : j = 67
          · rw [h67, sgu_s]; decide
          · rw [sgu_n h67]
            exact ⟨loM_0 1 j, hiM_0 1 j⟩
  · skip
    by_cases h2 : j = 2
    · rw [h2, sgu_s]; decide
    · rw [sgu_n h2]
      by_cases h1 : j = 1
      · rw [h1, sgu_s]; decide
      · rw [sgu_n h1]
        by_cases h0 : j = 0
        · rw [h0, sgu_s]; decide
        · rw [sgu_n h0]
          exact ⟨loM_0 5 j, hiM_0 5 j⟩
  · skip
    by_cases h5 : j = 5
    · rw [h5, sgu_s]; decide
    · rw [sgu_n h5]
      by_cases h4 : j = 4
      · rw [h4, sgu_s]; decide
      · rw [sgu_n h4]
        by_cases h3 : j = 3
        · rw [h3, sgu_s]; decide
        · rw [sgu_n h3]
          by_cases h2 : j = 2
          · rw [h2, sgu_s]; decide
          · rw [sgu_n h2]
            by_cases h1 : j = 1
            · rw [h1, sgu_s]; decide
            · rw [sgu_n h1]
              by_cases h0 : j = 0
              · rw [h0, sgu_s]; decide
              · rw [sgu_n h0]
                exact ⟨loM_0 22 j, hiM_0 22 j⟩
  · exact ⟨loM_0 _ j, hiM_0 _ j⟩
theorem f0X_J : JX f0X := by
  refine ⟨fun d => Or.inr ⟨by show ((0 : Int32)).toInt ≤ 60; decide, by show ((0 : Int32)).toInt ≤ 60; decide⟩, fun t ht z => ?_⟩
  rw [f0X_sh ht, sgu_s] at z
  exact absurd z (by decide)
theorem f0M_J : JM f0M := by
  refine ⟨fun d => Or.inr ⟨by show ((0 : Int32)).toInt ≤ 60; decide, by show ((0 : Int32)).toInt ≤ 60; decide⟩, by decide⟩
set_option maxHeartbeats 4000000 in
set_option maxRecDepth 100000 in
theorem lc_0 {p : Program} {e : Env} {s : State} {m : MethodId} {below : List Frame} {meth : Method} {cd : Code} {Qz : State → Prop} (l : Launch) {b : Nat} {N : Nat} {xs : Nat → Int32} {D : va_G} {ca : Nat → ClassId} {za hX hM : Nat → Nat} {cells slots : Nat} {H : Heap} {locs : List Loc} {ls : Array Slot} {i : Int32} {fX fM : sg_F} {LX LM : sg_L} {QX QM : sg_Q} (hx : p.tables.exec = Jvm.exec) (hb : cd.code = code) (hml : cd.maxLocals = 4) (hown : s.vm.findClass R_law = some m.cls) (hts : ∀ w ∈ gwL, w.before #[Value.ref b] s = true) (hXs : va_X b N xs s s.heap) (hN : N ≤ 3072) (hi : 0 ≤ i.toInt ∧ i.toInt + 6 ≤ (N : Int)) (hbl : b < s.heap.size) (hK : va_K D vwCl (tyX ca) s) (hZ : sgZ zcX za (fun q => s.heap.size ≤ q) s.heap.size s) (hhX : sgH 52 hX) (hhM : sgH 26 hM) (hAX : sgY (fun q => s.heap.size ≤ q) 52 hX s.heap.size) (hAM : sgY (fun q => s.heap.size ≤ q) 26 hM s.heap.size) (hdis : ∀ i j : Nat, i < 52 → j < 26 → hX i ≠ hM j) (hdis2 : ∀ i j : Nat, i < 26 → j < 52 → hM i ≠ hX j) (hcl : cells ≤ room_1.cells ∧ slots ≤ room_1.slots) (hV : lwInv fX LX QX fM LM QM) (hPX : va_P D vwCl (sgw 52 hX (eX ca hX) fX LX QX) H) (hPM : va_P D vwCl (sgw 26 hM (eM ca hM) fM LM QM) H) (hS : va_S (fun q => s.heap.size ≤ q) s.heap H locs) (hl : lv_has ls 4 [(0, .ref b), (1, .ref (hX 0)), (2, .ref (hM 0)), (3, .int i)]) (hJ : ∀ (fX : sg_F) (LX : sg_L) (QX : sg_Q) (fM : sg_F) (LM : sg_L) (QM : sg_Q) (H : Heap) (locs : List Loc) (ls : Array Slot), lwInv fX LX QX fM LM QM → va_P D vwCl (sgw 52 hX (eX ca hX) fX LX QX) H → va_P D vwCl (sgw 26 hM (eM ca hM) fM LM QM) H → va_S (fun q => s.heap.size ≤ q) s.heap H locs → lv_has ls 4 [(0, .ref b), (1, .ref (hX 0)), (2, .ref (hM 0)), (3, .int i)] → W p l e room_1 s m #[Value.ref b] below meth cd H locs cells slots Qz (F0 m 1578 ls [])) : W p l e room_1 s m #[Value.ref b] below meth cd H locs cells slots Qz (F0 m 208 ls []) := by
  have hbA : ¬ (fun q => s.heap.size ≤ q) b := Nat.not_le.mpr hbl
  have hown : s.vm.findClass RL = some m.cls := hown
  obtain ⟨hIX, hJX, hIM, hJM, hR⟩ := hV
  have hIX0 := hIX; have hIM0 := hIM; have hJM0 := hJM
  refine lv_aload_n hx hb dL_law_208 rfl (lv_at hl 1 rfl) ?_
  refine lv_aload_n hx hb dL_law_209 rfl (lv_at hl 0 rfl) ?_
  refine lv_iload_n hx hb dL_law_210 rfl (lv_at hl 3 rfl) ?_
  refine lv_iconst (v := 1) hx hb dL_law_211 (by decide) ?_
  refine lv_iadd hx hb dL_law_212 ?_
  refine lv_topi (fun v_1 ev_1 => ?_)
  have q_2 : v_1.toInt = i.toInt + 1 := by rw [ev_1]; have k1 : (1 : Int32).toInt = 1 := (by decide); exact (bn_addI (by omega) (by omega)).trans (by omega)
  refine va_sld hx hb hXs hbl hbA hS (i := v_1) (vp_in_iff.mpr ⟨by omega, by omega⟩) dL_law_213 ?_
  refine lv_topi (fun v_3 ev_3 => ?_)
  refine lv_aload_n hx hb dL_law_214 rfl (lv_at hl 0 rfl) ?_
  refine lv_iload_n hx hb dL_law_215 rfl (lv_at hl 3 rfl) ?_
  refine lv_iconst (v := 2) hx hb dL_law_216 (by decide) ?_
  refine lv_iadd hx hb dL_law_217 ?_
  refine lv_topi (fun v_4 ev_4 => ?_)
  have q_5 : v_4.toInt = i.toInt + 2 := by rw [ev_4]; have k1 : (2 : Int32).toInt = 2 := (by decide); exact (bn_addI (by omega) (by omega)).trans (by omega)
  refine va_sld hx hb hXs hbl hbA hS (i := v_4) (vp_in_iff.mpr ⟨by omega, by omega⟩) dL_law_218 ?_
  refine lv_topi (fun v_6 ev_6 => ?_)
  refine lw_callI (va_runV (As := [.int v_3, .int v_6]) (rest := []) ⟨hx, hb, hml, hown, hts⟩ (kX11_sitter l D ca za hX hhX fX LX QX hIX (v_3) (v_6) H.size) (cwV 2 hts (gw_V (fun _ h => h) mw_970 mw_971 mw_972 mw_37 mw_969) rfl rfl rfl (by decide +kernel) ⟨Nat.le_of_ble_eq_true rfl, Nat.le_of_ble_eq_true rfl⟩) (sg_preV (ci := 11) (C := RX11) (T := TX11) (N := 10) hAX hK hPX hS hZ 0 (by decide) rfl rfl) rfl rfl hl.1 rfl (lv_room (Nat.le_of_ble_eq_true rfl)) dL_law_219 hcl) hAX hS (fun r1 fX1 LX1 QX1 H locs hqr1 hP1 hkr1 hS => ?_)
  have hPX := hP1
  have hPM := lw_kept hPM hdis hkr1
  obtain ⟨⟨hIX, hkX, eLX, eQX⟩, hvr1, hur1⟩ := hqr1
  rw [eLX, eQX] at hPX
  have hJX : JX fX1 := JX.fr hJX hkX (fun _ => rfl) (fun _ => rfl) (fun _ => rfl) (by intro t j ht; rcases (show t = 0 ∨ t = 1 ∨ t = 2 ∨ t = 3 ∨ t = 4 ∨ t = 5 by omega) with rfl | rfl | rfl | rfl | rfl | rfl <;> rfl)
  refine lv_pop hx hb dL_law_222 rfl ?_
  refine lv_aload_n hx hb dL_law_223 rfl (lv_at hl 2 rfl) ?_
  refine lv_aload_n hx hb dL_law_224 rfl (lv_at hl 0 rfl) ?_
  refine lv_iload_n hx hb dL_law_225 rfl (lv_at hl 3 rfl) ?_
  refine lv_iconst (v := 1) hx hb dL_law_226 (by decide) ?_
  refine lv_iadd hx hb dL_law_227 ?_
  rw [← ev_1]
  refine va_sld hx hb hXs hbl hbA hS (i := v_1) (vp_in_iff.mpr ⟨by omega, by omega⟩) dL_law_228 ?_
  rw [← ev_3]
  refine lv_aload_n hx hb dL_law_229 rfl (lv_at hl 0 rfl) ?_
  refine lv_iload_n hx hb dL_law_230 rfl (lv_at hl 3 rfl) ?_
  refine lv_iconst (v := 2) hx hb dL_law_231 (by decide) ?_
  refine lv_iadd hx hb dL_law_232 ?_
  rw [← ev_4]
  refine va_sld hx hb hXs hbl hbA hS (i := v_4) (vp_in_iff.mpr ⟨by omega, by omega⟩) dL_law_233 ?_
  rw [← ev_6]
  refine lw_callI (va_runV (As := [.int v_3, .int v_6]) (rest := []) ⟨hx, hb, hml, hown, hts⟩ (kX12_sitter l D ca za hM hhM fM LM QM hIM (v_3) (v_6) H.size) (cwV 2 hts (gw_V (fun _ h => h) mw_974 mw_975 mw_976 mw_619 mw_973) rfl rfl rfl (by decide +kernel) ⟨Nat.le_of_ble_eq_true rfl, Nat.le_of_ble_eq_true rfl⟩) (sg_preV (ci := 12) (C := RX12) (T := TX12) (N := 55) hAM hK hPM hS (show sgZ zcM za (fun q => s.heap.size ≤ q) s.heap.size s from fun i q h => by simp [zcM] at h) 0 (by decide) rfl rfl) rfl rfl hl.1 rfl (lv_room (Nat.le_of_ble_eq_true rfl)) dL_law_234 hcl) hAM hS (fun r2 fM1 LM1 QM1 H locs hqr2 hP1 hkr2 hS => ?_)
  have hPM := hP1
  have hPX := lw_kept hPX hdis2 hkr2
  obtain ⟨⟨hIM, hkM, eLM, eQM⟩, hvr2, hur2⟩ := hqr2
  rw [eLM, eQM] at hPM
  have hJM : JM fM1 := JM.fr hJM hkM (fun _ => rfl) (fun _ => rfl) (fun _ => rfl) rfl rfl
  refine lv_pop hx hb dL_law_237 rfl ?_
  refine lv_goto (tgt := 1578) hx hb dL_law_238 (by decide) ?_
  exact hJ _ _ _ _ _ _ _ _ _ ⟨hIX, hJX, hIM, hJM, ⟨rDesk.fr hR.1 (hkX 36 2 (by decide)) (fun j => hkX 37 j (by rfl)) (hkM 0 45 (by decide)) (fun j => hkM 20 j (by rfl)), rTrace.fr hR.2.1 (hkX 36 3 (by decide)) (fun j => hkX 38 j (by rfl)) (hkM 0 48 (by decide)) (fun j => hkM 21 j (by rfl)), rShelf.fr hR.2.2.1 (fun t j => hkX _ _ (sgin_lo (c := 40) (by decide) (by omega))) (hkX 36 2 (by decide)) (fun j => hkM 22 j (by rfl)) (fun j => hkM 23 j (by rfl)), rEl.fr hR.2.2.2.1 (fun t j => hkX _ _ (sgin_lo (c := 40) (by decide) (by omega))), ((hR.2.2.2.2.1.sitter hIX0 hur1 hur2).2.1), (hR.2.2.2.2.2.1.more (hR.2.2.2.2.1.sitter hIX0 hur1 hur2).2.2 (hkX 32 3 (by decide)) (hkX 32 4 (by decide)) (fun j => hkX 33 j (by rfl)) (fun j => hkX 34 j (by rfl)) (fun j => hkX 35 j (by rfl)) (hkM 0 5 (by decide)) (hkM 0 4 (by decide)) (fun j => hkM 2 j (by rfl)) (fun j => hkM 3 j (by rfl)) (fun j => hkM 4 j (by rfl))), rByte.fr hR.2.2.2.2.2.2.1 (fun t j => hkX _ _ (sgin_lo (c := 40) (by decide) (by omega))), rTape.fr hR.2.2.2.2.2.2.2.1 (hkX 4 1 (by decide)) (fun j => hkX 5 j (by rfl)) (hkM 0 9 (by decide)) (fun j => hkM 6 j (by rfl)), (hR.2.2.2.2.2.2.2.2.1.by_ (fun hl T n h => h.sitter hIX0 hur1) (hkX 4 2 (by decide)) (hkX 4 9 (by decide)) (fun j => hkX 7 j (by rfl)) (hkM 0 11 (by decide)) (fun j => hkM 7 j (by rfl))), rSt.fr hR.2.2.2.2.2.2.2.2.2.1 (fun j => hkX 3 j (by rfl)) (fun j => hkM 5 j (by rfl)), rIdle.fr hR.2.2.2.2.2.2.2.2.2.2.1 (hkX 13 7 (by decide)) (hkX 13 9 (by decide)) (hkM 0 20 (by decide)) (hkM 0 22 (by decide)) (hkM 0 23 (by decide)) (hkM 0 24 (by decide)) (fun j => hkM 11 j (by rfl)), rIm.fr hR.2.2.2.2.2.2.2.2.2.2.2 (hkX 29 0 (by decide)) (hkX 28 5 (by decide)) (hkX 30 0 (by decide)) (fun j => hkX 31 j (by rfl)) (hkM 0 38 (by decide)) (hkM 0 43 (by decide)) (fun j => hkM 19 j (by rfl))⟩⟩ hPX hPM hS (lv_sub hl [0, 1, 2, 3] rfl)

set_option maxHeartbeats 4000000 in
set_option maxRecDepth 100000 in
theorem lc_1 {p : Program} {e : Env} {s : State} {m : MethodId} {below : List Frame} {meth : Method} {cd : Code} {Qz : State → Prop} (l : Launch) {b : Nat} {N : Nat} {xs : Nat → Int32} {D : va_G} {ca : Nat → ClassId} {za hX hM : Nat → Nat} {cells slots : Nat} {H : Heap} {locs : List Loc} {ls : Array Slot} {i : Int32} {fX fM : sg_F} {LX LM : sg_L} {QX QM : sg_Q} (hx : p.tables.exec = Jvm.exec) (hb : cd.code = code) (hml : cd.maxLocals = 4) (hown : s.vm.findClass R_law = some m.cls) (hts : ∀ w ∈ gwL, w.before #[Value.ref b] s = true) (hXs : va_X b N xs s s.heap) (hN : N ≤ 3072) (hi : 0 ≤ i.toInt ∧ i.toInt + 6 ≤ (N : Int)) (hbl : b < s.heap.size) (hK : va_K D vwCl (tyX ca) s) (hZ : sgZ zcX za (fun q => s.heap.size ≤ q) s.heap.size s) (hhX : sgH 52 hX) (hhM : sgH 26 hM) (hAX : sgY (fun q => s.heap.size ≤ q) 52 hX s.heap.size) (hAM : sgY (fun q => s.heap.size ≤ q) 26 hM s.heap.size) (hdis : ∀ i j : Nat, i < 52 → j < 26 → hX i ≠ hM j) (hdis2 : ∀ i j : Nat, i < 26 → j < 52 → hM i ≠ hX j) (hcl : cells ≤ room_1.cells ∧ slots ≤ room_1.slots) (hV : lwInv fX LX QX fM LM QM) (hPX : va_P D vwCl (sgw 52 hX (eX ca hX) fX LX QX) H) (hPM : va_P D vwCl (sgw 26 hM (eM ca hM) fM LM QM) H) (hS : va_S (fun q => s.heap.size ≤ q) s.heap H locs) (hl : lv_has ls 4 [(0, .ref b), (1, .ref (hX 0)), (2, .ref (hM 0)), (3, .int i)]) (hJ : ∀ (fX : sg_F) (LX : sg_L) (QX : sg_Q) (fM : sg_F) (LM : sg_L) (QM : sg_Q) (H : Heap) (locs : List Loc) (ls : Array Slot), lwInv fX LX QX fM LM QM → va_P D vwCl (sgw 52 hX (eX ca hX) fX LX QX) H → va_P D vwCl (sgw 26 hM (eM ca hM) fM LM QM) H → va_S (fun q => s.heap.size ≤ q) s.heap H locs → lv_has ls 4 [(0, .ref b), (1, .ref (hX 0)), (2, .ref (hM 0)), (3, .int i)] → W p l e room_1 s m #[Value.ref b] below meth cd H locs cells slots Qz (F0 m 1578 ls [])) : W p l e room_1 s m #[Value.ref b] below meth cd H locs cells slots Qz (F0 m 241 ls []) := by
  have hbA : ¬ (fun q => s.heap.size ≤ q) b := Nat.not_le.mpr hbl
  have hown : s.vm.findClass RL = some m.cls := hown
  obtain ⟨hIX, hJX, hIM, hJM, hR⟩ := hV
  have hIX0 := hIX; have hIM0 := hIM; have hJM0 := hJM
  refine lv_aload_n hx hb dL_law_241 rfl (lv_at hl 1 rfl) ?_
  refine lv_aload_n hx hb dL_law_242 rfl (lv_at hl 0 rfl) ?_
  refine lv_iload_n hx hb dL_law_243 rfl (lv_at hl 3 rfl) ?_
  refine lv_iconst (v := 1) hx hb dL_law_244 (by decide) ?_
  refine lv_iadd hx hb dL_law_245 ?_
  refine lv_topi (fun v_1 ev_1 => ?_)
  have q_2 : v_1.toInt = i.toInt + 1 := by rw [ev_1]; have k1 : (1 : Int32).toInt = 1 := (by decide); exact (bn_addI (by omega) (by omega)).trans (by omega)
  refine va_sld hx hb hXs hbl hbA hS (i := v_1) (vp_in_iff.mpr ⟨by omega, by omega⟩) dL_law_246 ?_
  refine lv_topi (fun v_3 ev_3 => ?_)
  refine lv_aload_n hx hb dL_law_247 rfl (lv_at hl 0 rfl) ?_
  refine lv_iload_n hx hb dL_law_248 rfl (lv_at hl 3 rfl) ?_
  refine lv_iconst (v := 2) hx hb dL_law_249 (by decide) ?_
  refine lv_iadd hx hb dL_law_250 ?_
  refine lv_topi (fun v_4 ev_4 => ?_)
  have q_5 : v_4.toInt = i.toInt + 2 := by rw [ev_4]; have k1 : (2 : Int32).toInt = 2 := (by decide); exact (bn_addI (by omega) (by omega)).trans (by omega)
  refine va_sld hx hb hXs hbl hbA hS (i := v_4) (vp_in_iff.mpr ⟨by omega, by omega⟩) dL_law_251 ?_
  refine lv_topi (fun v_6 ev_6 => ?_)
  refine lv_aload_n hx hb dL_law_252 rfl (lv_at hl 0 rfl) ?_
  refine lv_iload_n hx hb dL_law_253 rfl (lv_at hl 3 rfl) ?_
  refine lv_iconst (v := 3) hx hb dL_law_254 (by decide) ?_
  refine lv_iadd hx hb dL_law_255 ?_
  refine lv_topi (fun v_7 ev_7 => ?_)
  have q_8 : v_7.toInt = i.toInt + 3 := by rw [ev_7]; have k1 : (3 : Int32).toInt = 3 := (by decide); exact (bn_addI (by omega) (by omega)).trans (by omega)
  refine va_sld hx hb hXs hbl hbA hS (i := v_7) (vp_in_iff.mpr ⟨by omega, by omega⟩) dL_law_256 ?_
  refine lv_topi (fun v_9 ev_9 => ?_)
  refine lw_callI (va_runV (As := [.int v_3, .int v_6, .int v_9]) (rest := []) ⟨hx, hb, hml, hown, hts⟩ (kX11_sitters l D ca za hX hhX fX LX QX hIX (v_3) (v_6) (v_9) H.size) (cwV 3 hts (gw_V (fun _ h => h) mw_978 mw_979 mw_980 mw_37 mw_977) rfl rfl rfl (by decide +kernel) ⟨Nat.le_of_ble_eq_true rfl, Nat.le_of_ble_eq_true rfl⟩) (sg_preV (ci := 11) (C := RX11) (T := TX11) (N := 10) hAX hK hPX hS hZ 0 (by decide) rfl rfl) rfl rfl hl.1 rfl (lv_room (Nat.le_of_ble_eq_true rfl)) dL_law_257 hcl) hAX hS (fun r1 fX1 LX1 QX1 H locs hqr1 hP1 hkr1 hS => ?_)
  have hPX := hP1
  have hPM := lw_kept hPM hdis hkr1
  obtain ⟨⟨hIX, hkX, eLX, eQX⟩, hvr1, hur1⟩ := hqr1
  rw [eLX, eQX] at hPX
  have hJX : JX fX1 := JX.fr hJX hkX (fun _ => rfl) (fun _ => rfl) (fun _ => rfl) (by intro t j ht; rcases (show t = 0 ∨ t = 1 ∨ t = 2 ∨ t = 3 ∨ t = 4 ∨ t = 5 by omega) with rfl | rfl | rfl | rfl | rfl | rfl <;> rfl)
  refine lv_pop hx hb dL_law_260 rfl ?_
  refine lv_aload_n hx hb dL_law_261 rfl (lv_at hl 2 rfl) ?_
  refine lv_aload_n hx hb dL_law_262 rfl (lv_at hl 0 rfl) ?_
  refine lv_iload_n hx hb dL_law_263 rfl (lv_at hl 3 rfl) ?_
  refine lv_iconst (v := 1) hx hb dL_law_264 (by decide) ?_
  refine lv_iadd hx hb dL_law_265 ?_
  rw [← ev_1]
  refine va_sld hx hb hXs hbl hbA hS (i := v_1) (vp_in_iff.mpr ⟨by omega, by omega⟩) dL_law_266 ?_
  rw [← ev_3]
  refine lv_aload_n hx hb dL_law_267 rfl (lv_at hl 0 rfl) ?_
  refine lv_iload_n hx hb dL_law_268 rfl (lv_at hl 3 rfl) ?_
  refine lv_iconst (v := 2) hx hb dL_law_269 (by decide) ?_
  refine lv_iadd hx hb dL_law_270 ?_
  rw [← ev_4]
  refine va_sld hx hb hXs hbl hbA hS (i := v_4) (vp_in_iff.mpr ⟨by omega, by omega⟩) dL_law_271 ?_
  rw [← ev_6]
  refine lv_aload_n hx hb dL_law_272 rfl (lv_at hl 0 rfl) ?_
  refine lv_iload_n hx hb dL_law_273 rfl (lv_at hl 3 rfl) ?_
  refine lv_iconst (v := 3) hx hb dL_law_274 (by decide) ?_
  refine lv_iadd hx hb dL_law_275 ?_
  rw [← ev_7]
  refine va_sld hx hb hXs hbl hbA hS (i := v_7) (vp_in_iff.mpr ⟨by omega, by omega⟩) dL_law_276 ?_
  rw [← ev_9]
  refine lw_callI (va_runV (As := [.int v_3, .int v_6, .int v_9]) (rest := []) ⟨hx, hb, hml, hown, hts⟩ (kX12_sitters l D ca za hM hhM fM LM QM hIM (v_3) (v_6) (v_9) H.size) (cwV 3 hts (gw_V (fun _ h => h) mw_982 mw_983 mw_984 mw_619 mw_981) rfl rfl rfl (by decide +kernel) ⟨Nat.le_of_ble_eq_true rfl, Nat.le_of_ble_eq_true rfl⟩) (sg_preV (ci := 12) (C := RX12) (T := TX12) (N := 55) hAM hK hPM hS (show sgZ zcM za (fun q => s.heap.size ≤ q) s.heap.size s from fun i q h => by simp [zcM] at h) 0 (by decide) rfl rfl) rfl rfl hl.1 rfl (lv_room (Nat.le_of_ble_eq_true rfl)) dL_law_277 hcl) hAM hS (fun r2 fM1 LM1 QM1 H locs hqr2 hP1 hkr2 hS => ?_)
  have hPM := hP1
  have hPX := lw_kept hPX hdis2 hkr2
  obtain ⟨⟨hIM, hkM, eLM, eQM⟩, hvr2, hur2⟩ := hqr2
  rw [eLM, eQM] at hPM
  have hJM : JM fM1 := JM.fr hJM hkM (fun _ => rfl) (fun _ => rfl) (fun _ => rfl) rfl rfl
  refine lv_pop hx hb dL_law_280 rfl ?_
  refine lv_goto (tgt := 1578) hx hb dL_law_281 (by decide) ?_
  exact hJ _ _ _ _ _ _ _ _ _ ⟨hIX, hJX, hIM, hJM, ⟨rDesk.fr hR.1 (hkX 36 2 (by decide)) (fun j => hkX 37 j (by rfl)) (hkM 0 45 (by decide)) (fun j => hkM 20 j (by rfl)), rTrace.fr hR.2.1 (hkX 36 3 (by decide)) (fun j => hkX 38 j (by rfl)) (hkM 0 48 (by decide)) (fun j => hkM 21 j (by rfl)), rShelf.fr hR.2.2.1 (fun t j => hkX _ _ (sgin_lo (c := 40) (by decide) (by omega))) (hkX 36 2 (by decide)) (fun j => hkM 22 j (by rfl)) (fun j => hkM 23 j (by rfl)), rEl.fr hR.2.2.2.1 (fun t j => hkX _ _ (sgin_lo (c := 40) (by decide) (by omega))), ((hR.2.2.2.2.1.sitters hR.2.2.1 hR.2.2.2.1 hR.2.2.2.2.2.2.1 hIX0 (hIX0 36 2).2 hur1 hur2).2.1), (hR.2.2.2.2.2.1.more (hR.2.2.2.2.1.sitters hR.2.2.1 hR.2.2.2.1 hR.2.2.2.2.2.2.1 hIX0 (hIX0 36 2).2 hur1 hur2).2.2 (hkX 32 3 (by decide)) (hkX 32 4 (by decide)) (fun j => hkX 33 j (by rfl)) (fun j => hkX 34 j (by rfl)) (fun j => hkX 35 j (by rfl)) (hkM 0 5 (by decide)) (hkM 0 4 (by decide)) (fun j => hkM 2 j (by rfl)) (fun j => hkM 3 j (by rfl)) (fun j => hkM 4 j (by rfl))), rByte.fr hR.2.2.2.2.2.2.1 (fun t j => hkX _ _ (sgin_lo (c := 40) (by decide) (by omega))), rTape.fr hR.2.2.2.2.2.2.2.1 (hkX 4 1 (by decide)) (fun j => hkX 5 j (by rfl)) (hkM 0 9 (by decide)) (fun j => hkM 6 j (by rfl)), (hR.2.2.2.2.2.2.2.2.1.by_ (fun hl T n h => h.sitters hR.2.2.2.2.2.2.1 hIX0 hur1) (hkX 4 2 (by decide)) (hkX 4 9 (by decide)) (fun j => hkX 7 j (by rfl)) (hkM 0 11 (by decide)) (fun j => hkM 7 j (by rfl))), rSt.fr hR.2.2.2.2.2.2.2.2.2.1 (fun j => hkX 3 j (by rfl)) (fun j => hkM 5 j (by rfl)), rIdle.fr hR.2.2.2.2.2.2.2.2.2.2.1 (hkX 13 7 (by decide)) (hkX 13 9 (by decide)) (hkM 0 20 (by decide)) (hkM 0 22 (by decide)) (hkM 0 23 (by decide)) (hkM 0 24 (by decide)) (fun j => hkM 11 j (by rfl)), rIm.fr hR.2.2.2.2.2.2.2.2.2.2.2 (hkX 29 0 (by decide)) (hkX 28 5 (by decide)) (hkX 30 0 (by decide)) (fun j => hkX 31 j (by rfl)) (hkM 0 38 (by decide)) (hkM 0 43 (by decide)) (fun j => hkM 19 j (by rfl))⟩⟩ hPX hPM hS (lv_sub hl [0, 1, 2, 3] rfl)

set_option maxHeartbeats 4000000 in
set_option maxRecDepth 100000 in
theorem lc_2 {p : Program} {e : Env} {s : State} {m : MethodId} {below : List Frame} {meth : Method} {cd : Code} {Qz : State → Prop} (l : Launch) {b : Nat} {N : Nat} {xs : Nat → Int32} {D : va_G} {ca : Nat → ClassId} {za hX hM : Nat → Nat} {cells slots : Nat} {H : Heap} {locs : List Loc} {ls : Array Slot} {i : Int32} {fX fM : sg_F} {LX LM : sg_L} {QX QM : sg_Q} (hx : p.tables.exec = Jvm.exec) (hb : cd.code = code) (hml : cd.maxLocals = 4) (hown : s.vm.findClass R_law = some m.cls) (hts : ∀ w ∈ gwL, w.before #[Value.ref b] s = true) (hXs : va_X b N xs s s.heap) (hN : N ≤ 3072) (hi : 0 ≤ i.toInt ∧ i.toInt + 6 ≤ (N : Int)) (hbl : b < s.heap.size) (hK : va_K D vwCl (tyX ca) s) (hZ : sgZ zcX za (fun q => s.heap.size ≤ q) s.heap.size s) (hhX : sgH 52 hX) (hhM : sgH 26 hM) (hAX : sgY (fun q => s.heap.size ≤ q) 52 hX s.heap.size) (hAM : sgY (fun q => s.heap.size ≤ q) 26 hM s.heap.size) (hdis : ∀ i j : Nat, i < 52 → j < 26 → hX i ≠ hM j) (hdis2 : ∀ i j : Nat, i < 26 → j < 52 → hM i ≠ hX j) (hcl : cells ≤ room_1.cells ∧ slots ≤ room_1.slots) (hV : lwInv fX LX QX fM LM QM) (hPX : va_P D vwCl (sgw 52 hX (eX ca hX) fX LX QX) H) (hPM : va_P D vwCl (sgw 26 hM (eM ca hM) fM LM QM) H) (hS : va_S (fun q => s.heap.size ≤ q) s.heap H locs) (hl : lv_has ls 4 [(0, .ref b), (1, .ref (hX 0)), (2, .ref (hM 0)), (3, .int i)]) (hJ : ∀ (fX : sg_F) (LX : sg_L) (QX : sg_Q) (fM : sg_F) (LM : sg_L) (QM : sg_Q) (H : Heap) (locs : List Loc) (ls : Array Slot), lwInv fX LX QX fM LM QM → va_P D vwCl (sgw 52 hX (eX ca hX) fX LX QX) H → va_P D vwCl (sgw 26 hM (eM ca hM) fM LM QM) H → va_S (fun q => s.heap.size ≤ q) s.heap H locs → lv_has ls 4 [(0, .ref b), (1, .ref (hX 0)), (2, .ref (hM 0)), (3, .int i)] → W p l e room_1 s m #[Value.ref b] below meth cd H locs cells slots Qz (F0 m 1578 ls [])) : W p l e room_1 s m #[Value.ref b] below meth cd H locs cells slots Qz (F0 m 284 ls []) := by
  have hbA : ¬ (fun q => s.heap.size ≤ q) b := Nat.not_le.mpr hbl
  have hown : s.vm.findClass RL = some m.cls := hown
  obtain ⟨hIX, hJX, hIM, hJM, hR⟩ := hV
  have hIX0 := hIX; have hIM0 := hIM; have hJM0 := hJM
  refine lv_aload_n hx hb dL_law_284 rfl (lv_at hl 1 rfl) ?_
  refine lv_aload_n hx hb dL_law_285 rfl (lv_at hl 0 rfl) ?_
  refine lv_iload_n hx hb dL_law_286 rfl (lv_at hl 3 rfl) ?_
  refine lv_iconst (v := 1) hx hb dL_law_287 (by decide) ?_
  refine lv_iadd hx hb dL_law_288 ?_
  refine lv_topi (fun v_1 ev_1 => ?_)
  have q_2 : v_1.toInt = i.toInt + 1 := by rw [ev_1]; have k1 : (1 : Int32).toInt = 1 := (by decide); exact (bn_addI (by omega) (by omega)).trans (by omega)
  refine va_sld hx hb hXs hbl hbA hS (i := v_1) (vp_in_iff.mpr ⟨by omega, by omega⟩) dL_law_289 ?_
  refine lv_topi (fun v_3 ev_3 => ?_)
  refine lv_aload_n hx hb dL_law_290 rfl (lv_at hl 0 rfl) ?_
  refine lv_iload_n hx hb dL_law_291 rfl (lv_at hl 3 rfl) ?_
  refine lv_iconst (v := 2) hx hb dL_law_292 (by decide) ?_
  refine lv_iadd hx hb dL_law_293 ?_
  refine lv_topi (fun v_4 ev_4 => ?_)
  have q_5 : v_4.toInt = i.toInt + 2 := by rw [ev_4]; have k1 : (2 : Int32).toInt = 2 := (by decide); exact (bn_addI (by omega) (by omega)).trans (by omega)
  refine va_sld hx hb hXs hbl hbA hS (i := v_4) (vp_in_iff.mpr ⟨by omega, by omega⟩) dL_law_294 ?_
  refine lv_topi (fun v_6 ev_6 => ?_)
  refine lv_aload_n hx hb dL_law_295 rfl (lv_at hl 0 rfl) ?_
  refine lv_iload_n hx hb dL_law_296 rfl (lv_at hl 3 rfl) ?_
  refine lv_iconst (v := 3) hx hb dL_law_297 (by decide) ?_
  refine lv_iadd hx hb dL_law_298 ?_
  refine lv_topi (fun v_7 ev_7 => ?_)
  have q_8 : v_7.toInt = i.toInt + 3 := by rw [ev_7]; have k1 : (3 : Int32).toInt = 3 := (by decide); exact (bn_addI (by omega) (by omega)).trans (by omega)
  refine va_sld hx hb hXs hbl hbA hS (i := v_7) (vp_in_iff.mpr ⟨by omega, by omega⟩) dL_law_299 ?_
  refine lv_topi (fun v_9 ev_9 => ?_)
  refine lw_callI (va_runV (As := [.int v_3, .int v_6, .int v_9]) (rest := []) ⟨hx, hb, hml, hown, hts⟩ (kX11_mend l D ca za hX hhX fX LX QX hIX hJX (v_3) (v_6) (v_9) H.size) (cwV 3 hts (gw_V (fun _ h => h) mw_986 mw_987 mw_988 mw_37 mw_985) rfl rfl rfl (by decide +kernel) ⟨Nat.le_of_ble_eq_true rfl, Nat.le_of_ble_eq_true rfl⟩) (sg_preV (ci := 11) (C := RX11) (T := TX11) (N := 10) hAX hK hPX hS hZ 0 (by decide) rfl rfl) rfl rfl hl.1 rfl (lv_room (Nat.le_of_ble_eq_true rfl)) dL_law_300 hcl) hAX hS (fun r1 fX1 LX1 QX1 H locs hqr1 hP1 hkr1 hS => ?_)
  have hPX := hP1
  have hPM := lw_kept hPM hdis hkr1
  obtain ⟨⟨hIX, hkX, eLX, eQX, hJX⟩, hvr1, hur1⟩ := hqr1
  rw [eLX, eQX] at hPX
  refine lv_pop hx hb dL_law_303 rfl ?_
  refine lv_aload_n hx hb dL_law_304 rfl (lv_at hl 2 rfl) ?_
  refine lv_aload_n hx hb dL_law_305 rfl (lv_at hl 0 rfl) ?_
  refine lv_iload_n hx hb dL_law_306 rfl (lv_at hl 3 rfl) ?_
  refine lv_iconst (v := 1) hx hb dL_law_307 (by decide) ?_
  refine lv_iadd hx hb dL_law_308 ?_
  rw [← ev_1]
  refine va_sld hx hb hXs hbl hbA hS (i := v_1) (vp_in_iff.mpr ⟨by omega, by omega⟩) dL_law_309 ?_
  rw [← ev_3]
  refine lv_aload_n hx hb dL_law_310 rfl (lv_at hl 0 rfl) ?_
  refine lv_iload_n hx hb dL_law_311 rfl (lv_at hl 3 rfl) ?_
  refine lv_iconst (v := 2) hx hb dL_law_312 (by decide) ?_
  refine lv_iadd hx hb dL_law_313 ?_
  rw [← ev_4]
  refine va_sld hx hb hXs hbl hbA hS (i := v_4) (vp_in_iff.mpr ⟨by omega, by omega⟩) dL_law_314 ?_
  rw [← ev_6]
  refine lv_aload_n hx hb dL_law_315 rfl (lv_at hl 0 rfl) ?_
  refine lv_iload_n hx hb dL_law_316 rfl (lv_at hl 3 rfl) ?_
  refine lv_iconst (v := 3) hx hb dL_law_317 (by decide) ?_
  refine lv_iadd hx hb dL_law_318 ?_
  rw [← ev_7]
  refine va_sld hx hb hXs hbl hbA hS (i := v_7) (vp_in_iff.mpr ⟨by omega, by omega⟩) dL_law_319 ?_
  rw [← ev_9]
  refine lw_callI (va_runV (As := [.int v_3, .int v_6, .int v_9]) (rest := []) ⟨hx, hb, hml, hown, hts⟩ (kX12_mend l D ca za hM hhM fM LM QM hIM hJM (v_3) (v_6) (v_9) H.size) (cwV 3 hts (gw_V (fun _ h => h) mw_990 mw_991 mw_992 mw_619 mw_989) rfl rfl rfl (by decide +kernel) ⟨Nat.le_of_ble_eq_true rfl, Nat.le_of_ble_eq_true rfl⟩) (sg_preV (ci := 12) (C := RX12) (T := TX12) (N := 55) hAM hK hPM hS (show sgZ zcM za (fun q => s.heap.size ≤ q) s.heap.size s from fun i q h => by simp [zcM] at h) 0 (by decide) rfl rfl) rfl rfl hl.1 rfl (lv_room (Nat.le_of_ble_eq_true rfl)) dL_law_320 hcl) hAM hS (fun r2 fM1 LM1 QM1 H locs hqr2 hP1 hkr2 hS => ?_)
  have hPM := hP1
  have hPX := lw_kept hPX hdis2 hkr2
  obtain ⟨⟨hIM, hkM, eLM, eQM, hJM⟩, hvr2, hur2⟩ := hqr2
  rw [eLM, eQM] at hPM
  refine lv_pop hx hb dL_law_323 rfl ?_
  refine lv_goto (tgt := 1578) hx hb dL_law_324 (by decide) ?_
  exact hJ _ _ _ _ _ _ _ _ _ ⟨hIX, hJX, hIM, hJM, ⟨rDesk.fr hR.1 (hkX 36 2 (by decide)) (fun j => hkX 37 j (by rfl)) (hkM 0 45 (by decide)) (fun j => hkM 20 j (by rfl)), rTrace.fr hR.2.1 (hkX 36 3 (by decide)) (fun j => hkX 38 j (by rfl)) (hkM 0 48 (by decide)) (fun j => hkM 21 j (by rfl)), rShelf.fr hR.2.2.1 (fun t j => hkX _ _ (sgin_lo (c := 40) (by decide) (by omega))) (hkX 36 2 (by decide)) (fun j => hkM 22 j (by rfl)) (fun j => hkM 23 j (by rfl)), rEl.fr hR.2.2.2.1 (fun t j => hkX _ _ (sgin_lo (c := 40) (by decide) (by omega))), ((hR.2.2.2.2.1.mend hR.2.2.2.2.2.1 hIX0 hJM0 hur1 hur2).2.1), ((hR.2.2.2.2.1.mend hR.2.2.2.2.2.1 hIX0 hJM0 hur1 hur2).2.2), rByte.fr hR.2.2.2.2.2.2.1 (fun t j => hkX _ _ (sgin_lo (c := 40) (by decide) (by omega))), rTape.fr hR.2.2.2.2.2.2.2.1 (hkX 4 1 (by decide)) (fun j => hkX 5 j (by rfl)) (hkM 0 9 (by decide)) (fun j => hkM 6 j (by rfl)), (hR.2.2.2.2.2.2.2.2.1.by_ (fun hl T n h => h.mend hIX0 (by have h5 := hJM0.2; have h6 := hR.2.2.2.2.2.1.1; have h7 := hR.2.2.2.2.2.1.2.1; omega) hur1) (hkX 4 2 (by decide)) (hkX 4 9 (by decide)) (fun j => hkX 7 j (by rfl)) (hkM 0 11 (by decide)) (fun j => hkM 7 j (by rfl))), rSt.fr hR.2.2.2.2.2.2.2.2.2.1 (fun j => hkX 3 j (by rfl)) (fun j => hkM 5 j (by rfl)), rIdle.fr hR.2.2.2.2.2.2.2.2.2.2.1 (hkX 13 7 (by decide)) (hkX 13 9 (by decide)) (hkM 0 20 (by decide)) (hkM 0 22 (by decide)) (hkM 0 23 (by decide)) (hkM 0 24 (by decide)) (fun j => hkM 11 j (by rfl)), rIm.fr hR.2.2.2.2.2.2.2.2.2.2.2 (hkX 29 0 (by decide)) (hkX 28 5 (by decide)) (hkX 30 0 (by decide)) (fun j => hkX 31 j (by rfl)) (hkM 0 38 (by decide)) (hkM 0 43 (by decide)) (fun j => hkM 19 j (by rfl))⟩⟩ hPX hPM hS (lv_sub hl [0, 1, 2, 3] rfl)

set_option maxHeartbeats 4000000 in
set_option maxRecDepth 100000 in
theorem lc_3 {p : Program} {e : Env} {s : State} {m : MethodId} {below : List Frame} {meth : Method} {cd : Code} {Qz : State → Prop} (l : Launch) {b : Nat} {N : Nat} {xs : Nat → Int32} {D : va_G} {ca : Nat → ClassId} {za hX hM : Nat → Nat} {cells slots : Nat} {H : Heap} {locs : List Loc} {ls : Array Slot} {i : Int32} {fX fM : sg_F} {LX LM : sg_L} {QX QM : sg_Q} (hx : p.tables.exec = Jvm.exec) (hb : cd.code = code) (hml : cd.maxLocals = 4) (hown : s.vm.findClass R_law = some m.cls) (hts : ∀ w ∈ gwL, w.before #[Value.ref b] s = true) (hXs : va_X b N xs s s.heap) (hN : N ≤ 3072) (hi : 0 ≤ i.toInt ∧ i.toInt + 6 ≤ (N : Int)) (hbl : b < s.heap.size) (hK : va_K D vwCl (tyX ca) s) (hZ : sgZ zcX za (fun q => s.heap.size ≤ q) s.heap.size s) (hhX : sgH 52 hX) (hhM : sgH 26 hM) (hAX : sgY (fun q => s.heap.size ≤ q) 52 hX s.heap.size) (hAM : sgY (fun q => s.heap.size ≤ q) 26 hM s.heap.size) (hdis : ∀ i j : Nat, i < 52 → j < 26 → hX i ≠ hM j) (hdis2 : ∀ i j : Nat, i < 26 → j < 52 → hM i ≠ hX j) (hcl : cells ≤ room_1.cells ∧ slots ≤ room_1.slots) (hV : lwInv fX LX QX fM LM QM) (hPX : va_P D vwCl (sgw 52 hX (eX ca hX) fX LX QX) H) (hPM : va_P D vwCl (sgw 26 hM (eM ca hM) fM LM QM) H) (hS : va_S (fun q => s.heap.size ≤ q) s.heap H locs) (hl : lv_has ls 4 [(0, .ref b), (1, .ref (hX 0)), (2, .ref (hM 0)), (3, .int i)]) (hJ : ∀ (fX : sg_F) (LX : sg_L) (QX : sg_Q) (fM : sg_F) (LM : sg_L) (QM : sg_Q) (H : Heap) (locs : List Loc) (ls : Array Slot), lwInv fX LX QX fM LM QM → va_P D vwCl (sgw 52 hX (eX ca hX) fX LX QX) H → va_P D vwCl (sgw 26 hM (eM ca hM) fM LM QM) H → va_S (fun q => s.heap.size ≤ q) s.heap H locs → lv_has ls 4 [(0, .ref b), (1, .ref (hX 0)), (2, .ref (hM 0)), (3, .int i)] → W p l e room_1 s m #[Value.ref b] below meth cd H locs cells slots Qz (F0 m 1578 ls [])) : W p l e room_1 s m #[Value.ref b] below meth cd H locs cells slots Qz (F0 m 327 ls []) := by
  have hbA : ¬ (fun q => s.heap.size ≤ q) b := Nat.not_le.mpr hbl
  have hown : s.vm.findClass RL = some m.cls := hown
  obtain ⟨hIX, hJX, hIM, hJM, hR⟩ := hV
  have hIX0 := hIX; have hIM0 := hIM; have hJM0 := hJM
  refine lv_aload_n hx hb dL_law_327 rfl (lv_at hl 1 rfl) ?_
  refine lv_aload_n hx hb dL_law_328 rfl (lv_at hl 0 rfl) ?_
  refine lv_iload_n hx hb dL_law_329 rfl (lv_at hl 3 rfl) ?_
  refine lv_iconst (v := 1) hx hb dL_law_330 (by decide) ?_
  refine lv_iadd hx hb dL_law_331 ?_
  refine lv_topi (fun v_1 ev_1 => ?_)
  have q_2 : v_1.toInt = i.toInt + 1 := by rw [ev_1]; have k1 : (1 : Int32).toInt = 1 := (by decide); exact (bn_addI (by omega) (by omega)).trans (by omega)
  refine va_sld hx hb hXs hbl hbA hS (i := v_1) (vp_in_iff.mpr ⟨by omega, by omega⟩) dL_law_332 ?_
  refine lv_topi (fun v_3 ev_3 => ?_)
  refine lv_aload_n hx hb dL_law_333 rfl (lv_at hl 0 rfl) ?_
  refine lv_iload_n hx hb dL_law_334 rfl (lv_at hl 3 rfl) ?_
  refine lv_iconst (v := 2) hx hb dL_law_335 (by decide) ?_
  refine lv_iadd hx hb dL_law_336 ?_
  refine lv_topi (fun v_4 ev_4 => ?_)
  have q_5 : v_4.toInt = i.toInt + 2 := by rw [ev_4]; have k1 : (2 : Int32).toInt = 2 := (by decide); exact (bn_addI (by omega) (by omega)).trans (by omega)
  refine va_sld hx hb hXs hbl hbA hS (i := v_4) (vp_in_iff.mpr ⟨by omega, by omega⟩) dL_law_337 ?_
  refine lv_topi (fun v_6 ev_6 => ?_)
  refine lw_callI (va_runV (As := [.int v_3, .int v_6]) (rest := []) ⟨hx, hb, hml, hown, hts⟩ (kX11_of l D ca za hX hhX fX LX QX hIX (v_3) (v_6) H.size) (cwV 2 hts (gw_V (fun _ h => h) mw_994 mw_995 mw_996 mw_37 mw_993) rfl rfl rfl (by decide +kernel) ⟨Nat.le_of_ble_eq_true rfl, Nat.le_of_ble_eq_true rfl⟩) (sg_preV (ci := 11) (C := RX11) (T := TX11) (N := 10) hAX hK hPX hS hZ 0 (by decide) rfl rfl) rfl rfl hl.1 rfl (lv_room (Nat.le_of_ble_eq_true rfl)) dL_law_338 hcl) hAX hS (fun r1 fX1 LX1 QX1 H locs hqr1 hP1 hkr1 hS => ?_)
  have hPX := hP1
  have hPM := lw_kept hPM hdis hkr1
  obtain ⟨⟨efX, eLX, eQX⟩, hvr1, hur1⟩ := hqr1
  rw [efX, eLX, eQX] at hPX
  refine lv_pop hx hb dL_law_341 rfl ?_
  refine lv_aload_n hx hb dL_law_342 rfl (lv_at hl 2 rfl) ?_
  refine lv_aload_n hx hb dL_law_343 rfl (lv_at hl 0 rfl) ?_
  refine lv_iload_n hx hb dL_law_344 rfl (lv_at hl 3 rfl) ?_
  refine lv_iconst (v := 1) hx hb dL_law_345 (by decide) ?_
  refine lv_iadd hx hb dL_law_346 ?_
  rw [← ev_1]
  refine va_sld hx hb hXs hbl hbA hS (i := v_1) (vp_in_iff.mpr ⟨by omega, by omega⟩) dL_law_347 ?_
  rw [← ev_3]
  refine lv_aload_n hx hb dL_law_348 rfl (lv_at hl 0 rfl) ?_
  refine lv_iload_n hx hb dL_law_349 rfl (lv_at hl 3 rfl) ?_
  refine lv_iconst (v := 2) hx hb dL_law_350 (by decide) ?_
  refine lv_iadd hx hb dL_law_351 ?_
  rw [← ev_4]
  refine va_sld hx hb hXs hbl hbA hS (i := v_4) (vp_in_iff.mpr ⟨by omega, by omega⟩) dL_law_352 ?_
  rw [← ev_6]
  refine lw_callI (va_runV (As := [.int v_3, .int v_6]) (rest := []) ⟨hx, hb, hml, hown, hts⟩ (kX12_of l D ca za hM hhM fM LM QM hIM (v_3) (v_6) H.size) (cwV 2 hts (gw_V (fun _ h => h) mw_998 mw_999 mw_1000 mw_619 mw_997) rfl rfl rfl (by decide +kernel) ⟨Nat.le_of_ble_eq_true rfl, Nat.le_of_ble_eq_true rfl⟩) (sg_preV (ci := 12) (C := RX12) (T := TX12) (N := 55) hAM hK hPM hS (show sgZ zcM za (fun q => s.heap.size ≤ q) s.heap.size s from fun i q h => by simp [zcM] at h) 0 (by decide) rfl rfl) rfl rfl hl.1 rfl (lv_room (Nat.le_of_ble_eq_true rfl)) dL_law_353 hcl) hAM hS (fun r2 fM1 LM1 QM1 H locs hqr2 hP1 hkr2 hS => ?_)
  have hPM := hP1
  have hPX := lw_kept hPX hdis2 hkr2
  obtain ⟨⟨efM, eLM, eQM⟩, hvr2, hur2⟩ := hqr2
  rw [efM, eLM, eQM] at hPM
  refine lv_pop hx hb dL_law_356 rfl ?_
  refine lv_goto (tgt := 1578) hx hb dL_law_357 (by decide) ?_
  exact hJ _ _ _ _ _ _ _ _ _ ⟨hIX, hJX, hIM, hJM, ⟨rDesk.fr hR.1 (sgK.rf0 36 2 (by decide)) (fun j => sgK.rf0 37 j (by rfl)) (sgK.rf0 0 45 (by decide)) (fun j => sgK.rf0 20 j (by rfl)), rTrace.fr hR.2.1 (sgK.rf0 36 3 (by decide)) (fun j => sgK.rf0 38 j (by rfl)) (sgK.rf0 0 48 (by decide)) (fun j => sgK.rf0 21 j (by rfl)), rShelf.fr hR.2.2.1 (fun t j => sgK.rf0 _ _ (sgin_lo (c := 40) (by decide) (by omega))) (sgK.rf0 36 2 (by decide)) (fun j => sgK.rf0 22 j (by rfl)) (fun j => sgK.rf0 23 j (by rfl)), rEl.fr hR.2.2.2.1 (fun t j => sgK.rf0 _ _ (sgin_lo (c := 40) (by decide) (by omega))), rNum.fr hR.2.2.2.2.1 (sgK.rf0 1 3 (by decide)) (fun j => sgK.rf0 2 j (by rfl)) (sgK.rf0 0 6 (by decide)) (fun j => sgK.rf0 1 j (by rfl)), rChg.fr hR.2.2.2.2.2.1 (sgK.rf0 1 3 (by decide)) (sgK.rf0 32 3 (by decide)) (sgK.rf0 32 4 (by decide)) (fun j => sgK.rf0 33 j (by rfl)) (fun j => sgK.rf0 34 j (by rfl)) (fun j => sgK.rf0 35 j (by rfl)) (sgK.rf0 0 5 (by decide)) (sgK.rf0 0 4 (by decide)) (fun j => sgK.rf0 2 j (by rfl)) (fun j => sgK.rf0 3 j (by rfl)) (fun j => sgK.rf0 4 j (by rfl)), rByte.fr hR.2.2.2.2.2.2.1 (fun t j => sgK.rf0 _ _ (sgin_lo (c := 40) (by decide) (by omega))), rTape.fr hR.2.2.2.2.2.2.2.1 (sgK.rf0 4 1 (by decide)) (fun j => sgK.rf0 5 j (by rfl)) (sgK.rf0 0 9 (by decide)) (fun j => sgK.rf0 6 j (by rfl)), rLs.fr hR.2.2.2.2.2.2.2.2.1 (sgK.rf0 4 2 (by decide)) (sgK.rf0 4 9 (by decide)) (fun j => sgK.rf0 7 j (by rfl)) (sgK.rf0 1 3 (by decide)) (fun j => sgK.rf0 2 j (by rfl)) (sgK.rf0 32 4 (by decide)) (fun j => sgK.rf0 33 j (by rfl)) (fun j => sgK.rf0 34 j (by rfl)) (fun j => sgK.rf0 35 j (by rfl)) (fun j => sgK.rf0 9 j (by rfl)) (sgK.rf0 0 11 (by decide)) (fun j => sgK.rf0 7 j (by rfl)), rSt.fr hR.2.2.2.2.2.2.2.2.2.1 (fun j => sgK.rf0 3 j (by rfl)) (fun j => sgK.rf0 5 j (by rfl)), rIdle.fr hR.2.2.2.2.2.2.2.2.2.2.1 (sgK.rf0 13 7 (by decide)) (sgK.rf0 13 9 (by decide)) (sgK.rf0 0 20 (by decide)) (sgK.rf0 0 22 (by decide)) (sgK.rf0 0 23 (by decide)) (sgK.rf0 0 24 (by decide)) (fun j => sgK.rf0 11 j (by rfl)), rIm.fr hR.2.2.2.2.2.2.2.2.2.2.2 (sgK.rf0 29 0 (by decide)) (sgK.rf0 28 5 (by decide)) (sgK.rf0 30 0 (by decide)) (fun j => sgK.rf0 31 j (by rfl)) (sgK.rf0 0 38 (by decide)) (sgK.rf0 0 43 (by decide)) (fun j => sgK.rf0 19 j (by rfl))⟩⟩ hPX hPM hS (lv_sub hl [0, 1, 2, 3] rfl)

set_option maxHeartbeats 4000000 in
set_option maxRecDepth 100000 in
theorem lc_4 {p : Program} {e : Env} {s : State} {m : MethodId} {below : List Frame} {meth : Method} {cd : Code} {Qz : State → Prop} (l : Launch) {b : Nat} {N : Nat} {xs : Nat → Int32} {D : va_G} {ca : Nat → ClassId} {za hX hM : Nat → Nat} {cells slots : Nat} {H : Heap} {locs : List Loc} {ls : Array Slot} {i : Int32} {fX fM : sg_F} {LX LM : sg_L} {QX QM : sg_Q} (hx : p.tables.exec = Jvm.exec) (hb : cd.code = code) (hml : cd.maxLocals = 4) (hown : s.vm.findClass R_law = some m.cls) (hts : ∀ w ∈ gwL, w.before #[Value.ref b] s = true) (hXs : va_X b N xs s s.heap) (hN : N ≤ 3072) (hi : 0 ≤ i.toInt ∧ i.toInt + 6 ≤ (N : Int)) (hbl : b < s.heap.size) (hK : va_K D vwCl (tyX ca) s) (hZ : sgZ zcX za (fun q => s.heap.size ≤ q) s.heap.size s) (hhX : sgH 52 hX) (hhM : sgH 26 hM) (hAX : sgY (fun q => s.heap.size ≤ q) 52 hX s.heap.size) (hAM : sgY (fun q => s.heap.size ≤ q) 26 hM s.heap.size) (hdis : ∀ i j : Nat, i < 52 → j < 26 → hX i ≠ hM j) (hdis2 : ∀ i j : Nat, i < 26 → j < 52 → hM i ≠ hX j) (hcl : cells ≤ room_1.cells ∧ slots ≤ room_1.slots) (hV : lwInv fX LX QX fM LM QM) (hPX : va_P D vwCl (sgw 52 hX (eX ca hX) fX LX QX) H) (hPM : va_P D vwCl (sgw 26 hM (eM ca hM) fM LM QM) H) (hS : va_S (fun q => s.heap.size ≤ q) s.heap H locs) (hl : lv_has ls 4 [(0, .ref b), (1, .ref (hX 0)), (2, .ref (hM 0)), (3, .int i)]) (hJ : ∀ (fX : sg_F) (LX : sg_L) (QX : sg_Q) (fM : sg_F) (LM : sg_L) (QM : sg_Q) (H : Heap) (locs : List Loc) (ls : Array Slot), lwInv fX LX QX fM LM QM → va_P D vwCl (sgw 52 hX (eX ca hX) fX LX QX) H → va_P D vwCl (sgw 26 hM (eM ca hM) fM LM QM) H → va_S (fun q => s.heap.size ≤ q) s.heap H locs → lv_has ls 4 [(0, .ref b), (1, .ref (hX 0)), (2, .ref (hM 0)), (3, .int i)] → W p l e room_1 s m #[Value.ref b] below meth cd H locs cells slots Qz (F0 m 1578 ls [])) : W p l e room_1 s m #[Value.ref b] below meth cd H locs cells slots Qz (F0 m 360 ls []) := by
  have hbA : ¬ (fun q => s.heap.size ≤ q) b := Nat.not_le.mpr hbl
  have hown : s.vm.findClass RL = some m.cls := hown
  obtain ⟨hIX, hJX, hIM, hJM, hR⟩ := hV
  have hIX0 := hIX; have hIM0 := hIM; have hJM0 := hJM
  refine lv_aload_n hx hb dL_law_360 rfl (lv_at hl 1 rfl) ?_
  refine lv_aload_n hx hb dL_law_361 rfl (lv_at hl 0 rfl) ?_
  refine lv_iload_n hx hb dL_law_362 rfl (lv_at hl 3 rfl) ?_
  refine lv_iconst (v := 1) hx hb dL_law_363 (by decide) ?_
  refine lv_iadd hx hb dL_law_364 ?_
  refine lv_topi (fun v_1 ev_1 => ?_)
  have q_2 : v_1.toInt = i.toInt + 1 := by rw [ev_1]; have k1 : (1 : Int32).toInt = 1 := (by decide); exact (bn_addI (by omega) (by omega)).trans (by omega)
  refine va_sld hx hb hXs hbl hbA hS (i := v_1) (vp_in_iff.mpr ⟨by omega, by omega⟩) dL_law_365 ?_
  refine lv_topi (fun v_3 ev_3 => ?_)
  refine lw_callI (va_runV (As := [.int v_3]) (rest := []) ⟨hx, hb, hml, hown, hts⟩ (kX11_feed l D ca za hX hhX fX LX QX hIX (v_3) H.size) (cwV 1 hts (gw_V (fun _ h => h) mw_1002 mw_1003 mw_1004 mw_37 mw_1001) rfl rfl rfl (by decide +kernel) ⟨Nat.le_of_ble_eq_true rfl, Nat.le_of_ble_eq_true rfl⟩) (sg_preV (ci := 11) (C := RX11) (T := TX11) (N := 10) hAX hK hPX hS hZ 0 (by decide) rfl rfl) rfl rfl hl.1 rfl (lv_room (Nat.le_of_ble_eq_true rfl)) dL_law_366 hcl) hAX hS (fun r1 fX1 LX1 QX1 H locs hqr1 hP1 hkr1 hS => ?_)
  have hPX := hP1
  have hPM := lw_kept hPM hdis hkr1
  obtain ⟨⟨hIX, hkX, eLX, eQX⟩, hvr1, hur1⟩ := hqr1
  rw [eLX, eQX] at hPX
  have hJX : JX fX1 := JX.fr hJX hkX (fun _ => rfl) (fun _ => rfl) (fun _ => rfl) (by intro t j ht; rcases (show t = 0 ∨ t = 1 ∨ t = 2 ∨ t = 3 ∨ t = 4 ∨ t = 5 by omega) with rfl | rfl | rfl | rfl | rfl | rfl <;> rfl)
  refine lv_pop hx hb dL_law_369 rfl ?_
  refine lv_aload_n hx hb dL_law_370 rfl (lv_at hl 2 rfl) ?_
  refine lv_aload_n hx hb dL_law_371 rfl (lv_at hl 0 rfl) ?_
  refine lv_iload_n hx hb dL_law_372 rfl (lv_at hl 3 rfl) ?_
  refine lv_iconst (v := 1) hx hb dL_law_373 (by decide) ?_
  refine lv_iadd hx hb dL_law_374 ?_
  rw [← ev_1]
  refine va_sld hx hb hXs hbl hbA hS (i := v_1) (vp_in_iff.mpr ⟨by omega, by omega⟩) dL_law_375 ?_
  rw [← ev_3]
  refine lw_callI (va_runV (As := [.int v_3]) (rest := []) ⟨hx, hb, hml, hown, hts⟩ (kX12_feed l D ca za hM hhM fM LM QM hIM (v_3) H.size) (cwV 1 hts (gw_V (fun _ h => h) mw_1006 mw_1007 mw_1008 mw_619 mw_1005) rfl rfl rfl (by decide +kernel) ⟨Nat.le_of_ble_eq_true rfl, Nat.le_of_ble_eq_true rfl⟩) (sg_preV (ci := 12) (C := RX12) (T := TX12) (N := 55) hAM hK hPM hS (show sgZ zcM za (fun q => s.heap.size ≤ q) s.heap.size s from fun i q h => by simp [zcM] at h) 0 (by decide) rfl rfl) rfl rfl hl.1 rfl (lv_room (Nat.le_of_ble_eq_true rfl)) dL_law_376 hcl) hAM hS (fun r2 fM1 LM1 QM1 H locs hqr2 hP1 hkr2 hS => ?_)
  have hPM := hP1
  have hPX := lw_kept hPX hdis2 hkr2
  obtain ⟨⟨hIM, hkM, eLM, eQM⟩, hvr2, hur2⟩ := hqr2
  rw [eLM, eQM] at hPM
  have hJM : JM fM1 := JM.fr hJM hkM (fun _ => rfl) (fun _ => rfl) (fun _ => rfl) rfl rfl
  refine lv_pop hx hb dL_law_379 rfl ?_
  refine lv_goto (tgt := 1578) hx hb dL_law_380 (by decide) ?_
  exact hJ _ _ _ _ _ _ _ _ _ ⟨hIX, hJX, hIM, hJM, ⟨rDesk.fr hR.1 (hkX 36 2 (by decide)) (fun j => hkX 37 j (by rfl)) (hkM 0 45 (by decide)) (fun j => hkM 20 j (by rfl)), rTrace.fr hR.2.1 (hkX 36 3 (by decide)) (fun j => hkX 38 j (by rfl)) (hkM 0 48 (by decide)) (fun j => hkM 21 j (by rfl)), rShelf.fr hR.2.2.1 (fun t j => hkX _ _ (sgin_lo (c := 40) (by decide) (by omega))) (hkX 36 2 (by decide)) (fun j => hkM 22 j (by rfl)) (fun j => hkM 23 j (by rfl)), rEl.fr hR.2.2.2.1 (fun t j => hkX _ _ (sgin_lo (c := 40) (by decide) (by omega))), rNum.fr hR.2.2.2.2.1 (hkX 1 3 (by decide)) (fun j => hkX 2 j (by rfl)) (hkM 0 6 (by decide)) (fun j => hkM 1 j (by rfl)), rChg.fr hR.2.2.2.2.2.1 (hkX 1 3 (by decide)) (hkX 32 3 (by decide)) (hkX 32 4 (by decide)) (fun j => hkX 33 j (by rfl)) (fun j => hkX 34 j (by rfl)) (fun j => hkX 35 j (by rfl)) (hkM 0 5 (by decide)) (hkM 0 4 (by decide)) (fun j => hkM 2 j (by rfl)) (fun j => hkM 3 j (by rfl)) (fun j => hkM 4 j (by rfl)), rByte.fr hR.2.2.2.2.2.2.1 (fun t j => hkX _ _ (sgin_lo (c := 40) (by decide) (by omega))), ((hR.2.2.2.2.2.2.2.1.feed hIX0 hur1 hur2).2), rLs.fr hR.2.2.2.2.2.2.2.2.1 (hkX 4 2 (by decide)) (hkX 4 9 (by decide)) (fun j => hkX 7 j (by rfl)) (hkX 1 3 (by decide)) (fun j => hkX 2 j (by rfl)) (hkX 32 4 (by decide)) (fun j => hkX 33 j (by rfl)) (fun j => hkX 34 j (by rfl)) (fun j => hkX 35 j (by rfl)) (fun j => hkX 9 j (by rfl)) (hkM 0 11 (by decide)) (fun j => hkM 7 j (by rfl)), rSt.fr hR.2.2.2.2.2.2.2.2.2.1 (fun j => hkX 3 j (by rfl)) (fun j => hkM 5 j (by rfl)), rIdle.fr hR.2.2.2.2.2.2.2.2.2.2.1 (hkX 13 7 (by decide)) (hkX 13 9 (by decide)) (hkM 0 20 (by decide)) (hkM 0 22 (by decide)) (hkM 0 23 (by decide)) (hkM 0 24 (by decide)) (fun j => hkM 11 j (by rfl)), rIm.fr hR.2.2.2.2.2.2.2.2.2.2.2 (hkX 29 0 (by decide)) (hkX 28 5 (by decide)) (hkX 30 0 (by decide)) (fun j => hkX 31 j (by rfl)) (hkM 0 38 (by decide)) (hkM 0 43 (by decide)) (fun j => hkM 19 j (by rfl))⟩⟩ hPX hPM hS (lv_sub hl [0, 1, 2, 3] rfl)

set_option maxHeartbeats 4000000 in
set_option maxRecDepth 100000 in
theorem lc_5 {p : Program} {e : Env} {s : State} {m : MethodId} {below : List Frame} {meth : Method} {cd : Code} {Qz : State → Prop} (l : Launch) {b : Nat} {N : Nat} {xs : Nat → Int32} {D : va_G} {ca : Nat → ClassId} {za hX hM : Nat → Nat} {cells slots : Nat} {H : Heap} {locs : List Loc} {ls : Array Slot} {i : Int32} {fX fM : sg_F} {LX LM : sg_L} {QX QM : sg_Q} (hx : p.tables.exec = Jvm.exec) (hb : cd.code = code) (hml : cd.maxLocals = 4) (hown : s.vm.findClass R_law = some m.cls) (hts : ∀ w ∈ gwL, w.before #[Value.ref b] s = true) (hXs : va_X b N xs s s.heap) (hN : N ≤ 3072) (hi : 0 ≤ i.toInt ∧ i.toInt + 6 ≤ (N : Int)) (hbl : b < s.heap.size) (hK : va_K D vwCl (tyX ca) s) (hZ : sgZ zcX za (fun q => s.heap.size ≤ q) s.heap.size s) (hhX : sgH 52 hX) (hhM : sgH 26 hM) (hAX : sgY (fun q => s.heap.size ≤ q) 52 hX s.heap.size) (hAM : sgY (fun q => s.heap.size ≤ q) 26 hM s.heap.size) (hdis : ∀ i j : Nat, i < 52 → j < 26 → hX i ≠ hM j) (hdis2 : ∀ i j : Nat, i < 26 → j < 52 → hM i ≠ hX j) (hcl : cells ≤ room_1.cells ∧ slots ≤ room_1.slots) (hV : lwInv fX LX QX fM LM QM) (hPX : va_P D vwCl (sgw 52 hX (eX ca hX) fX LX QX) H) (hPM : va_P D vwCl (sgw 26 hM (eM ca hM) fM LM QM) H) (hS : va_S (fun q => s.heap.size ≤ q) s.heap H locs) (hl : lv_has ls 4 [(0, .ref b), (1, .ref (hX 0)), (2, .ref (hM 0)), (3, .int i)]) (hJ : ∀ (fX : sg_F) (LX : sg_L) (QX : sg_Q) (fM : sg_F) (LM : sg_L) (QM : sg_Q) (H : Heap) (locs : List Loc) (ls : Array Slot), lwInv fX LX QX fM LM QM → va_P D vwCl (sgw 52 hX (eX ca hX) fX LX QX) H → va_P D vwCl (sgw 26 hM (eM ca hM) fM LM QM) H → va_S (fun q => s.heap.size ≤ q) s.heap H locs → lv_has ls 4 [(0, .ref b), (1, .ref (hX 0)), (2, .ref (hM 0)), (3, .int i)] → W p l e room_1 s m #[Value.ref b] below meth cd H locs cells slots Qz (F0 m 1578 ls [])) : W p l e room_1 s m #[Value.ref b] below meth cd H locs cells slots Qz (F0 m 383 ls []) := by
  have hbA : ¬ (fun q => s.heap.size ≤ q) b := Nat.not_le.mpr hbl
  have hown : s.vm.findClass RL = some m.cls := hown
  obtain ⟨hIX, hJX, hIM, hJM, hR⟩ := hV
  have hIX0 := hIX; have hIM0 := hIM; have hJM0 := hJM
  refine lv_aload_n hx hb dL_law_383 rfl (lv_at hl 1 rfl) ?_
  refine lw_callI (va_runV (As := []) (rest := []) ⟨hx, hb, hml, hown, hts⟩ (kX11_law l D ca za hX hhX fX LX QX hIX  H.size) (cwV 0 hts (gw_V (fun _ h => h) mw_1010 mw_1011 mw_1012 mw_37 mw_1009) rfl rfl rfl (by decide +kernel) ⟨Nat.le_of_ble_eq_true rfl, Nat.le_of_ble_eq_true rfl⟩) (sg_preV (ci := 11) (C := RX11) (T := TX11) (N := 10) hAX hK hPX hS hZ 0 (by decide) rfl rfl) rfl rfl hl.1 rfl (lv_room (Nat.le_of_ble_eq_true rfl)) dL_law_384 hcl) hAX hS (fun r1 fX1 LX1 QX1 H locs hqr1 hP1 hkr1 hS => ?_)
  have hPX := hP1
  have hPM := lw_kept hPM hdis hkr1
  obtain ⟨⟨hIX, hkX, eLX, eQX⟩, hvr1, hur1⟩ := hqr1
  rw [eLX, eQX] at hPX
  have hJX : JX fX1 := JX.fr hJX hkX (fun _ => rfl) (fun _ => rfl) (fun _ => rfl) (by intro t j ht; rcases (show t = 0 ∨ t = 1 ∨ t = 2 ∨ t = 3 ∨ t = 4 ∨ t = 5 by omega) with rfl | rfl | rfl | rfl | rfl | rfl <;> rfl)
  refine lv_pop hx hb dL_law_387 rfl ?_
  refine lv_aload_n hx hb dL_law_388 rfl (lv_at hl 2 rfl) ?_
  refine lw_callI (va_runV (As := []) (rest := []) ⟨hx, hb, hml, hown, hts⟩ (kX12_law l D ca za hM hhM fM LM QM hIM  H.size) (cwV 0 hts (gw_V (fun _ h => h) mw_1014 mw_1015 mw_1016 mw_619 mw_1013) rfl rfl rfl (by decide +kernel) ⟨Nat.le_of_ble_eq_true rfl, Nat.le_of_ble_eq_true rfl⟩) (sg_preV (ci := 12) (C := RX12) (T := TX12) (N := 55) hAM hK hPM hS (show sgZ zcM za (fun q => s.heap.size ≤ q) s.heap.size s from fun i q h => by simp [zcM] at h) 0 (by decide) rfl rfl) rfl rfl hl.1 rfl (lv_room (Nat.le_of_ble_eq_true rfl)) dL_law_389 hcl) hAM hS (fun r2 fM1 LM1 QM1 H locs hqr2 hP1 hkr2 hS => ?_)
  have hPM := hP1
  have hPX := lw_kept hPX hdis2 hkr2
  obtain ⟨⟨hIM, hkM, eLM, eQM⟩, hvr2, hur2⟩ := hqr2
  rw [eLM, eQM] at hPM
  have hJM : JM fM1 := JM.fr hJM hkM (fun _ => rfl) (fun _ => rfl) (fun _ => rfl) rfl rfl
  refine lv_pop hx hb dL_law_392 rfl ?_
  refine lv_goto (tgt := 1578) hx hb dL_law_393 (by decide) ?_
  exact hJ _ _ _ _ _ _ _ _ _ ⟨hIX, hJX, hIM, hJM, ⟨rDesk.fr hR.1 (hkX 36 2 (by decide)) (fun j => hkX 37 j (by rfl)) (hkM 0 45 (by decide)) (fun j => hkM 20 j (by rfl)), rTrace.fr hR.2.1 (hkX 36 3 (by decide)) (fun j => hkX 38 j (by rfl)) (hkM 0 48 (by decide)) (fun j => hkM 21 j (by rfl)), rShelf.fr hR.2.2.1 (fun t j => hkX _ _ (sgin_lo (c := 40) (by decide) (by omega))) (hkX 36 2 (by decide)) (fun j => hkM 22 j (by rfl)) (fun j => hkM 23 j (by rfl)), rEl.fr hR.2.2.2.1 (fun t j => hkX _ _ (sgin_lo (c := 40) (by decide) (by omega))), rNum.fr hR.2.2.2.2.1 (hkX 1 3 (by decide)) (fun j => hkX 2 j (by rfl)) (hkM 0 6 (by decide)) (fun j => hkM 1 j (by rfl)), rChg.fr hR.2.2.2.2.2.1 (hkX 1 3 (by decide)) (hkX 32 3 (by decide)) (hkX 32 4 (by decide)) (fun j => hkX 33 j (by rfl)) (fun j => hkX 34 j (by rfl)) (fun j => hkX 35 j (by rfl)) (hkM 0 5 (by decide)) (hkM 0 4 (by decide)) (fun j => hkM 2 j (by rfl)) (fun j => hkM 3 j (by rfl)) (fun j => hkM 4 j (by rfl)), rByte.fr hR.2.2.2.2.2.2.1 (fun t j => hkX _ _ (sgin_lo (c := 40) (by decide) (by omega))), (rTape.law hur1 hur2), ((hR.2.2.2.2.2.2.2.2.1.law hR.2.2.2.2.2.2.2.1 hIX0 hur1 hur2).2), rSt.fr hR.2.2.2.2.2.2.2.2.2.1 (fun j => hkX 3 j (by rfl)) (fun j => hkM 5 j (by rfl)), rIdle.fr hR.2.2.2.2.2.2.2.2.2.2.1 (hkX 13 7 (by decide)) (hkX 13 9 (by decide)) (hkM 0 20 (by decide)) (hkM 0 22 (by decide)) (hkM 0 23 (by decide)) (hkM 0 24 (by decide)) (fun j => hkM 11 j (by rfl)), rIm.fr hR.2.2.2.2.2.2.2.2.2.2.2 (hkX 29 0 (by decide)) (hkX 28 5 (by decide)) (hkX 30 0 (by decide)) (fun j => hkX 31 j (by rfl)) (hkM 0 38 (by decide)) (hkM 0 43 (by decide)) (fun j => hkM 19 j (by rfl))⟩⟩ hPX hPM hS (lv_sub hl [0, 1, 2, 3] rfl)

set_option maxHeartbeats 4000000 in
set_option maxRecDepth 100000 in
theorem lc_6 {p : Program} {e : Env} {s : State} {m : MethodId} {below : List Frame} {meth : Method} {cd : Code} {Qz : State → Prop} (l : Launch) {b : Nat} {N : Nat} {xs : Nat → Int32} {D : va_G} {ca : Nat → ClassId} {za hX hM : Nat → Nat} {cells slots : Nat} {H : Heap} {locs : List Loc} {ls : Array Slot} {i : Int32} {fX fM : sg_F} {LX LM : sg_L} {QX QM : sg_Q} (hx : p.tables.exec = Jvm.exec) (hb : cd.code = code) (hml : cd.maxLocals = 4) (hown : s.vm.findClass R_law = some m.cls) (hts : ∀ w ∈ gwL, w.before #[Value.ref b] s = true) (hXs : va_X b N xs s s.heap) (hN : N ≤ 3072) (hi : 0 ≤ i.toInt ∧ i.toInt + 6 ≤ (N : Int)) (hbl : b < s.heap.size) (hK : va_K D vwCl (tyX ca) s) (hZ : sgZ zcX za (fun q => s.heap.size ≤ q) s.heap.size s) (hhX : sgH 52 hX) (hhM : sgH 26 hM) (hAX : sgY (fun q => s.heap.size ≤ q) 52 hX s.heap.size) (hAM : sgY (fun q => s.heap.size ≤ q) 26 hM s.heap.size) (hdis : ∀ i j : Nat, i < 52 → j < 26 → hX i ≠ hM j) (hdis2 : ∀ i j : Nat, i < 26 → j < 52 → hM i ≠ hX j) (hcl : cells ≤ room_1.cells ∧ slots ≤ room_1.slots) (hV : lwInv fX LX QX fM LM QM) (hPX : va_P D vwCl (sgw 52 hX (eX ca hX) fX LX QX) H) (hPM : va_P D vwCl (sgw 26 hM (eM ca hM) fM LM QM) H) (hS : va_S (fun q => s.heap.size ≤ q) s.heap H locs) (hl : lv_has ls 4 [(0, .ref b), (1, .ref (hX 0)), (2, .ref (hM 0)), (3, .int i)]) (hJ : ∀ (fX : sg_F) (LX : sg_L) (QX : sg_Q) (fM : sg_F) (LM : sg_L) (QM : sg_Q) (H : Heap) (locs : List Loc) (ls : Array Slot), lwInv fX LX QX fM LM QM → va_P D vwCl (sgw 52 hX (eX ca hX) fX LX QX) H → va_P D vwCl (sgw 26 hM (eM ca hM) fM LM QM) H → va_S (fun q => s.heap.size ≤ q) s.heap H locs → lv_has ls 4 [(0, .ref b), (1, .ref (hX 0)), (2, .ref (hM 0)), (3, .int i)] → W p l e room_1 s m #[Value.ref b] below meth cd H locs cells slots Qz (F0 m 1578 ls [])) : W p l e room_1 s m #[Value.ref b] below meth cd H locs cells slots Qz (F0 m 396 ls []) := by
  have hbA : ¬ (fun q => s.heap.size ≤ q) b := Nat.not_le.mpr hbl
  have hown : s.vm.findClass RL = some m.cls := hown
  obtain ⟨hIX, hJX, hIM, hJM, hR⟩ := hV
  have hIX0 := hIX; have hIM0 := hIM; have hJM0 := hJM
  refine lv_aload_n hx hb dL_law_396 rfl (lv_at hl 1 rfl) ?_
  refine lv_aload_n hx hb dL_law_397 rfl (lv_at hl 0 rfl) ?_
  refine lv_iload_n hx hb dL_law_398 rfl (lv_at hl 3 rfl) ?_
  refine lv_iconst (v := 1) hx hb dL_law_399 (by decide) ?_
  refine lv_iadd hx hb dL_law_400 ?_
  refine lv_topi (fun v_1 ev_1 => ?_)
  have q_2 : v_1.toInt = i.toInt + 1 := by rw [ev_1]; have k1 : (1 : Int32).toInt = 1 := (by decide); exact (bn_addI (by omega) (by omega)).trans (by omega)
  refine va_sld hx hb hXs hbl hbA hS (i := v_1) (vp_in_iff.mpr ⟨by omega, by omega⟩) dL_law_401 ?_
  refine lv_topi (fun v_3 ev_3 => ?_)
  refine lv_aload_n hx hb dL_law_402 rfl (lv_at hl 0 rfl) ?_
  refine lv_iload_n hx hb dL_law_403 rfl (lv_at hl 3 rfl) ?_
  refine lv_iconst (v := 2) hx hb dL_law_404 (by decide) ?_
  refine lv_iadd hx hb dL_law_405 ?_
  refine lv_topi (fun v_4 ev_4 => ?_)
  have q_5 : v_4.toInt = i.toInt + 2 := by rw [ev_4]; have k1 : (2 : Int32).toInt = 2 := (by decide); exact (bn_addI (by omega) (by omega)).trans (by omega)
  refine va_sld hx hb hXs hbl hbA hS (i := v_4) (vp_in_iff.mpr ⟨by omega, by omega⟩) dL_law_406 ?_
  refine lv_topi (fun v_6 ev_6 => ?_)
  refine lv_aload_n hx hb dL_law_407 rfl (lv_at hl 0 rfl) ?_
  refine lv_iload_n hx hb dL_law_408 rfl (lv_at hl 3 rfl) ?_
  refine lv_iconst (v := 3) hx hb dL_law_409 (by decide) ?_
  refine lv_iadd hx hb dL_law_410 ?_
  refine lv_topi (fun v_7 ev_7 => ?_)
  have q_8 : v_7.toInt = i.toInt + 3 := by rw [ev_7]; have k1 : (3 : Int32).toInt = 3 := (by decide); exact (bn_addI (by omega) (by omega)).trans (by omega)
  refine va_sld hx hb hXs hbl hbA hS (i := v_7) (vp_in_iff.mpr ⟨by omega, by omega⟩) dL_law_411 ?_
  refine lv_topi (fun v_9 ev_9 => ?_)
  refine lw_callI (va_runV (As := [.int v_3, .int v_6, .int v_9]) (rest := []) ⟨hx, hb, hml, hown, hts⟩ (kX11_loss l D ca za hX hhX fX LX QX hIX (v_3) (v_6) (v_9) H.size) (cwV 3 hts (gw_V (fun _ h => h) mw_1018 mw_1019 mw_1020 mw_37 mw_1017) rfl rfl rfl (by decide +kernel) ⟨Nat.le_of_ble_eq_true rfl, Nat.le_of_ble_eq_true rfl⟩) (sg_preV (ci := 11) (C := RX11) (T := TX11) (N := 10) hAX hK hPX hS hZ 0 (by decide) rfl rfl) rfl rfl hl.1 rfl (lv_room (Nat.le_of_ble_eq_true rfl)) dL_law_412 hcl) hAX hS (fun r1 fX1 LX1 QX1 H locs hqr1 hP1 hkr1 hS => ?_)
  have hPX := hP1
  have hPM := lw_kept hPM hdis hkr1
  obtain ⟨⟨hIX, hkX, eLX, eQX⟩, hvr1, hur1⟩ := hqr1
  rw [eLX, eQX] at hPX
  have hJX : JX fX1 := JX.fr hJX hkX (fun _ => rfl) (fun _ => rfl) (fun _ => rfl) (by intro t j ht; rcases (show t = 0 ∨ t = 1 ∨ t = 2 ∨ t = 3 ∨ t = 4 ∨ t = 5 by omega) with rfl | rfl | rfl | rfl | rfl | rfl <;> rfl)
  refine lv_pop hx hb dL_law_415 rfl ?_
  refine lv_aload_n hx hb dL_law_416 rfl (lv_at hl 2 rfl) ?_
  refine lv_aload_n hx hb dL_law_417 rfl (lv_at hl 0 rfl) ?_
  refine lv_iload_n hx hb dL_law_418 rfl (lv_at hl 3 rfl) ?_
  refine lv_iconst (v := 1) hx hb dL_law_419 (by decide) ?_
  refine lv_iadd hx hb dL_law_420 ?_
  rw [← ev_1]
  refine va_sld hx hb hXs hbl hbA hS (i := v_1) (vp_in_iff.mpr ⟨by omega, by omega⟩) dL_law_421 ?_
  rw [← ev_3]
  refine lv_aload_n hx hb dL_law_422 rfl (lv_at hl 0 rfl) ?_
  refine lv_iload_n hx hb dL_law_423 rfl (lv_at hl 3 rfl) ?_
  refine lv_iconst (v := 2) hx hb dL_law_424 (by decide) ?_
  refine lv_iadd hx hb dL_law_425 ?_
  rw [← ev_4]
  refine va_sld hx hb hXs hbl hbA hS (i := v_4) (vp_in_iff.mpr ⟨by omega, by omega⟩) dL_law_426 ?_
  rw [← ev_6]
  refine lv_aload_n hx hb dL_law_427 rfl (lv_at hl 0 rfl) ?_
  refine lv_iload_n hx hb dL_law_428 rfl (lv_at hl 3 rfl) ?_
  refine lv_iconst (v := 3) hx hb dL_law_429 (by decide) ?_
  refine lv_iadd hx hb dL_law_430 ?_
  rw [← ev_7]
  refine va_sld hx hb hXs hbl hbA hS (i := v_7) (vp_in_iff.mpr ⟨by omega, by omega⟩) dL_law_431 ?_
  rw [← ev_9]
  refine lw_callI (va_runV (As := [.int v_3, .int v_6, .int v_9]) (rest := []) ⟨hx, hb, hml, hown, hts⟩ (kX12_loss l D ca za hM hhM fM LM QM hIM (v_3) (v_6) (v_9) H.size) (cwV 3 hts (gw_V (fun _ h => h) mw_1022 mw_1023 mw_1024 mw_619 mw_1021) rfl rfl rfl (by decide +kernel) ⟨Nat.le_of_ble_eq_true rfl, Nat.le_of_ble_eq_true rfl⟩) (sg_preV (ci := 12) (C := RX12) (T := TX12) (N := 55) hAM hK hPM hS (show sgZ zcM za (fun q => s.heap.size ≤ q) s.heap.size s from fun i q h => by simp [zcM] at h) 0 (by decide) rfl rfl) rfl rfl hl.1 rfl (lv_room (Nat.le_of_ble_eq_true rfl)) dL_law_432 hcl) hAM hS (fun r2 fM1 LM1 QM1 H locs hqr2 hP1 hkr2 hS => ?_)
  have hPM := hP1
  have hPX := lw_kept hPX hdis2 hkr2
  obtain ⟨⟨hIM, hkM, eLM, eQM⟩, hvr2, hur2⟩ := hqr2
  rw [eLM, eQM] at hPM
  have hJM : JM fM1 := JM.fr hJM hkM (fun _ => rfl) (fun _ => rfl) (fun _ => rfl) rfl rfl
  refine lv_pop hx hb dL_law_435 rfl ?_
  refine lv_goto (tgt := 1578) hx hb dL_law_436 (by decide) ?_
  exact hJ _ _ _ _ _ _ _ _ _ ⟨hIX, hJX, hIM, hJM, ⟨rDesk.fr hR.1 (hkX 36 2 (by decide)) (fun j => hkX 37 j (by rfl)) (hkM 0 45 (by decide)) (fun j => hkM 20 j (by rfl)), rTrace.fr hR.2.1 (hkX 36 3 (by decide)) (fun j => hkX 38 j (by rfl)) (hkM 0 48 (by decide)) (fun j => hkM 21 j (by rfl)), rShelf.fr hR.2.2.1 (fun t j => hkX _ _ (sgin_lo (c := 40) (by decide) (by omega))) (hkX 36 2 (by decide)) (fun j => hkM 22 j (by rfl)) (fun j => hkM 23 j (by rfl)), rEl.fr hR.2.2.2.1 (fun t j => hkX _ _ (sgin_lo (c := 40) (by decide) (by omega))), rNum.fr hR.2.2.2.2.1 (hkX 1 3 (by decide)) (fun j => hkX 2 j (by rfl)) (hkM 0 6 (by decide)) (fun j => hkM 1 j (by rfl)), rChg.fr hR.2.2.2.2.2.1 (hkX 1 3 (by decide)) (hkX 32 3 (by decide)) (hkX 32 4 (by decide)) (fun j => hkX 33 j (by rfl)) (fun j => hkX 34 j (by rfl)) (fun j => hkX 35 j (by rfl)) (hkM 0 5 (by decide)) (hkM 0 4 (by decide)) (fun j => hkM 2 j (by rfl)) (fun j => hkM 3 j (by rfl)) (fun j => hkM 4 j (by rfl)), rByte.fr hR.2.2.2.2.2.2.1 (fun t j => hkX _ _ (sgin_lo (c := 40) (by decide) (by omega))), rTape.fr hR.2.2.2.2.2.2.2.1 (hkX 4 1 (by decide)) (fun j => hkX 5 j (by rfl)) (hkM 0 9 (by decide)) (fun j => hkM 6 j (by rfl)), (hR.2.2.2.2.2.2.2.2.1.used hR.2.2.2.2.1 (fun hl T n hm hq hc hC => (t_loss ⟨hR.2.2.2.2.1, hR.2.2.1, hR.2.2.2.1, hR.2.2.2.2.2.2.1, hR.2.2.2.2.2.2.2.2.2.1, hR.2.2.2.2.2.2.2.2.2.2.1, hIX0⟩ hm hc hC hur1 hur2).2) (hkX 4 2 (by decide)) (hkX 4 9 (by decide)) (fun j => hkX 7 j (by rfl)) (hkX 1 3 (by decide)) (fun j => hkX 2 j (by rfl)) (hkX 32 4 (by decide)) (fun j => hkX 33 j (by rfl)) (fun j => hkX 34 j (by rfl)) (fun j => hkX 35 j (by rfl)) (hkM 0 11 (by decide)) (fun j => hkM 7 j (by rfl))), rSt.fr hR.2.2.2.2.2.2.2.2.2.1 (fun j => hkX 3 j (by rfl)) (fun j => hkM 5 j (by rfl)), rIdle.fr hR.2.2.2.2.2.2.2.2.2.2.1 (hkX 13 7 (by decide)) (hkX 13 9 (by decide)) (hkM 0 20 (by decide)) (hkM 0 22 (by decide)) (hkM 0 23 (by decide)) (hkM 0 24 (by decide)) (fun j => hkM 11 j (by rfl)), rIm.fr hR.2.2.2.2.2.2.2.2.2.2.2 (hkX 29 0 (by decide)) (hkX 28 5 (by decide)) (hkX 30 0 (by decide)) (fun j => hkX 31 j (by rfl)) (hkM 0 38 (by decide)) (hkM 0 43 (by decide)) (fun j => hkM 19 j (by rfl))⟩⟩ hPX hPM hS (lv_sub hl [0, 1, 2, 3] rfl)

set_option maxHeartbeats 4000000 in
set_option maxRecDepth 100000 in
theorem lc_7 {p : Program} {e : Env} {s : State} {m : MethodId} {below : List Frame} {meth : Method} {cd : Code} {Qz : State → Prop} (l : Launch) {b : Nat} {N : Nat} {xs : Nat → Int32} {D : va_G} {ca : Nat → ClassId} {za hX hM : Nat → Nat} {cells slots : Nat} {H : Heap} {locs : List Loc} {ls : Array Slot} {i : Int32} {fX fM : sg_F} {LX LM : sg_L} {QX QM : sg_Q} (hx : p.tables.exec = Jvm.exec) (hb : cd.code = code) (hml : cd.maxLocals = 4) (hown : s.vm.findClass R_law = some m.cls) (hts : ∀ w ∈ gwL, w.before #[Value.ref b] s = true) (hXs : va_X b N xs s s.heap) (hN : N ≤ 3072) (hi : 0 ≤ i.toInt ∧ i.toInt + 6 ≤ (N : Int)) (hbl : b < s.heap.size) (hK : va_K D vwCl (tyX ca) s) (hZ : sgZ zcX za (fun q => s.heap.size ≤ q) s.heap.size s) (hhX : sgH 52 hX) (hhM : sgH 26 hM) (hAX : sgY (fun q => s.heap.size ≤ q) 52 hX s.heap.size) (hAM : sgY (fun q => s.heap.size ≤ q) 26 hM s.heap.size) (hdis : ∀ i j : Nat, i < 52 → j < 26 → hX i ≠ hM j) (hdis2 : ∀ i j : Nat, i < 26 → j < 52 → hM i ≠ hX j) (hcl : cells ≤ room_1.cells ∧ slots ≤ room_1.slots) (hV : lwInv fX LX QX fM LM QM) (hPX : va_P D vwCl (sgw 52 hX (eX ca hX) fX LX QX) H) (hPM : va_P D vwCl (sgw 26 hM (eM ca hM) fM LM QM) H) (hS : va_S (fun q => s.heap.size ≤ q) s.heap H locs) (hl : lv_has ls 4 [(0, .ref b), (1, .ref (hX 0)), (2, .ref (hM 0)), (3, .int i)]) (hJ : ∀ (fX : sg_F) (LX : sg_L) (QX : sg_Q) (fM : sg_F) (LM : sg_L) (QM : sg_Q) (H : Heap) (locs : List Loc) (ls : Array Slot), lwInv fX LX QX fM LM QM → va_P D vwCl (sgw 52 hX (eX ca hX) fX LX QX) H → va_P D vwCl (sgw 26 hM (eM ca hM) fM LM QM) H → va_S (fun q => s.heap.size ≤ q) s.heap H locs → lv_has ls 4 [(0, .ref b), (1, .ref (hX 0)), (2, .ref (hM 0)), (3, .int i)] → W p l e room_1 s m #[Value.ref b] below meth cd H locs cells slots Qz (F0 m 1578 ls [])) : W p l e room_1 s m #[Value.ref b] below meth cd H locs cells slots Qz (F0 m 439 ls []) := by
  have hbA : ¬ (fun q => s.heap.size ≤ q) b := Nat.not_le.mpr hbl
  have hown : s.vm.findClass RL = some m.cls := hown
  obtain ⟨hIX, hJX, hIM, hJM, hR⟩ := hV
  have hIX0 := hIX; have hIM0 := hIM; have hJM0 := hJM
  refine lv_aload_n hx hb dL_law_439 rfl (lv_at hl 1 rfl) ?_
  refine lv_aload_n hx hb dL_law_440 rfl (lv_at hl 0 rfl) ?_
  refine lv_iload_n hx hb dL_law_441 rfl (lv_at hl 3 rfl) ?_
  refine lv_iconst (v := 1) hx hb dL_law_442 (by decide) ?_
  refine lv_iadd hx hb dL_law_443 ?_
  refine lv_topi (fun v_1 ev_1 => ?_)
  have q_2 : v_1.toInt = i.toInt + 1 := by rw [ev_1]; have k1 : (1 : Int32).toInt = 1 := (by decide); exact (bn_addI (by omega) (by omega)).trans (by omega)
  refine va_sld hx hb hXs hbl hbA hS (i := v_1) (vp_in_iff.mpr ⟨by omega, by omega⟩) dL_law_444 ?_
  refine lv_topi (fun v_3 ev_3 => ?_)
  refine lv_aload_n hx hb dL_law_445 rfl (lv_at hl 0 rfl) ?_
  refine lv_iload_n hx hb dL_law_446 rfl (lv_at hl 3 rfl) ?_
  refine lv_iconst (v := 2) hx hb dL_law_447 (by decide) ?_
  refine lv_iadd hx hb dL_law_448 ?_
  refine lv_topi (fun v_4 ev_4 => ?_)
  have q_5 : v_4.toInt = i.toInt + 2 := by rw [ev_4]; have k1 : (2 : Int32).toInt = 2 := (by decide); exact (bn_addI (by omega) (by omega)).trans (by omega)
  refine va_sld hx hb hXs hbl hbA hS (i := v_4) (vp_in_iff.mpr ⟨by omega, by omega⟩) dL_law_449 ?_
  refine lv_topi (fun v_6 ev_6 => ?_)
  refine lv_aload_n hx hb dL_law_450 rfl (lv_at hl 0 rfl) ?_
  refine lv_iload_n hx hb dL_law_451 rfl (lv_at hl 3 rfl) ?_
  refine lv_iconst (v := 3) hx hb dL_law_452 (by decide) ?_
  refine lv_iadd hx hb dL_law_453 ?_
  refine lv_topi (fun v_7 ev_7 => ?_)
  have q_8 : v_7.toInt = i.toInt + 3 := by rw [ev_7]; have k1 : (3 : Int32).toInt = 3 := (by decide); exact (bn_addI (by omega) (by omega)).trans (by omega)
  refine va_sld hx hb hXs hbl hbA hS (i := v_7) (vp_in_iff.mpr ⟨by omega, by omega⟩) dL_law_454 ?_
  refine lv_topi (fun v_9 ev_9 => ?_)
  refine lw_callI (va_runV (As := [.int v_3, .int v_6, .int v_9]) (rest := []) ⟨hx, hb, hml, hown, hts⟩ (kX11_never l D ca za hX hhX fX LX QX hIX (v_3) (v_6) (v_9) H.size) (cwV 3 hts (gw_V (fun _ h => h) mw_1026 mw_1027 mw_1028 mw_37 mw_1025) rfl rfl rfl (by decide +kernel) ⟨Nat.le_of_ble_eq_true rfl, Nat.le_of_ble_eq_true rfl⟩) (sg_preV (ci := 11) (C := RX11) (T := TX11) (N := 10) hAX hK hPX hS hZ 0 (by decide) rfl rfl) rfl rfl hl.1 rfl (lv_room (Nat.le_of_ble_eq_true rfl)) dL_law_455 hcl) hAX hS (fun r1 fX1 LX1 QX1 H locs hqr1 hP1 hkr1 hS => ?_)
  have hPX := hP1
  have hPM := lw_kept hPM hdis hkr1
  obtain ⟨⟨hIX, hkX, eLX, eQX⟩, hvr1, hur1⟩ := hqr1
  rw [eLX, eQX] at hPX
  have hJX : JX fX1 := JX.fr hJX hkX (fun _ => rfl) (fun _ => rfl) (fun _ => rfl) (by intro t j ht; rcases (show t = 0 ∨ t = 1 ∨ t = 2 ∨ t = 3 ∨ t = 4 ∨ t = 5 by omega) with rfl | rfl | rfl | rfl | rfl | rfl <;> rfl)
  refine lv_pop hx hb dL_law_458 rfl ?_
  refine lv_aload_n hx hb dL_law_459 rfl (lv_at hl 2 rfl) ?_
  refine lv_aload_n hx hb dL_law_460 rfl (lv_at hl 0 rfl) ?_
  refine lv_iload_n hx hb dL_law_461 rfl (lv_at hl 3 rfl) ?_
  refine lv_iconst (v := 1) hx hb dL_law_462 (by decide) ?_
  refine lv_iadd hx hb dL_law_463 ?_
  rw [← ev_1]
  refine va_sld hx hb hXs hbl hbA hS (i := v_1) (vp_in_iff.mpr ⟨by omega, by omega⟩) dL_law_464 ?_
  rw [← ev_3]
  refine lv_aload_n hx hb dL_law_465 rfl (lv_at hl 0 rfl) ?_
  refine lv_iload_n hx hb dL_law_466 rfl (lv_at hl 3 rfl) ?_
  refine lv_iconst (v := 2) hx hb dL_law_467 (by decide) ?_
  refine lv_iadd hx hb dL_law_468 ?_
  rw [← ev_4]
  refine va_sld hx hb hXs hbl hbA hS (i := v_4) (vp_in_iff.mpr ⟨by omega, by omega⟩) dL_law_469 ?_
  rw [← ev_6]
  refine lv_aload_n hx hb dL_law_470 rfl (lv_at hl 0 rfl) ?_
  refine lv_iload_n hx hb dL_law_471 rfl (lv_at hl 3 rfl) ?_
  refine lv_iconst (v := 3) hx hb dL_law_472 (by decide) ?_
  refine lv_iadd hx hb dL_law_473 ?_
  rw [← ev_7]
  refine va_sld hx hb hXs hbl hbA hS (i := v_7) (vp_in_iff.mpr ⟨by omega, by omega⟩) dL_law_474 ?_
  rw [← ev_9]
  refine lw_callI (va_runV (As := [.int v_3, .int v_6, .int v_9]) (rest := []) ⟨hx, hb, hml, hown, hts⟩ (kX12_never l D ca za hM hhM fM LM QM hIM (v_3) (v_6) (v_9) H.size) (cwV 3 hts (gw_V (fun _ h => h) mw_1030 mw_1031 mw_1032 mw_619 mw_1029) rfl rfl rfl (by decide +kernel) ⟨Nat.le_of_ble_eq_true rfl, Nat.le_of_ble_eq_true rfl⟩) (sg_preV (ci := 12) (C := RX12) (T := TX12) (N := 55) hAM hK hPM hS (show sgZ zcM za (fun q => s.heap.size ≤ q) s.heap.size s from fun i q h => by simp [zcM] at h) 0 (by decide) rfl rfl) rfl rfl hl.1 rfl (lv_room (Nat.le_of_ble_eq_true rfl)) dL_law_475 hcl) hAM hS (fun r2 fM1 LM1 QM1 H locs hqr2 hP1 hkr2 hS => ?_)
  have hPM := hP1
  have hPX := lw_kept hPX hdis2 hkr2
  obtain ⟨⟨hIM, hkM, eLM, eQM⟩, hvr2, hur2⟩ := hqr2
  rw [eLM, eQM] at hPM
  have hJM : JM fM1 := JM.fr hJM hkM (fun _ => rfl) (fun _ => rfl) (fun _ => rfl) rfl rfl
  refine lv_pop hx hb dL_law_478 rfl ?_
  refine lv_goto (tgt := 1578) hx hb dL_law_479 (by decide) ?_
  exact hJ _ _ _ _ _ _ _ _ _ ⟨hIX, hJX, hIM, hJM, ⟨rDesk.fr hR.1 (hkX 36 2 (by decide)) (fun j => hkX 37 j (by rfl)) (hkM 0 45 (by decide)) (fun j => hkM 20 j (by rfl)), rTrace.fr hR.2.1 (hkX 36 3 (by decide)) (fun j => hkX 38 j (by rfl)) (hkM 0 48 (by decide)) (fun j => hkM 21 j (by rfl)), rShelf.fr hR.2.2.1 (fun t j => hkX _ _ (sgin_lo (c := 40) (by decide) (by omega))) (hkX 36 2 (by decide)) (fun j => hkM 22 j (by rfl)) (fun j => hkM 23 j (by rfl)), rEl.fr hR.2.2.2.1 (fun t j => hkX _ _ (sgin_lo (c := 40) (by decide) (by omega))), rNum.fr hR.2.2.2.2.1 (hkX 1 3 (by decide)) (fun j => hkX 2 j (by rfl)) (hkM 0 6 (by decide)) (fun j => hkM 1 j (by rfl)), rChg.fr hR.2.2.2.2.2.1 (hkX 1 3 (by decide)) (hkX 32 3 (by decide)) (hkX 32 4 (by decide)) (fun j => hkX 33 j (by rfl)) (fun j => hkX 34 j (by rfl)) (fun j => hkX 35 j (by rfl)) (hkM 0 5 (by decide)) (hkM 0 4 (by decide)) (fun j => hkM 2 j (by rfl)) (fun j => hkM 3 j (by rfl)) (fun j => hkM 4 j (by rfl)), rByte.fr hR.2.2.2.2.2.2.1 (fun t j => hkX _ _ (sgin_lo (c := 40) (by decide) (by omega))), rTape.fr hR.2.2.2.2.2.2.2.1 (hkX 4 1 (by decide)) (fun j => hkX 5 j (by rfl)) (hkM 0 9 (by decide)) (fun j => hkM 6 j (by rfl)), (hR.2.2.2.2.2.2.2.2.1.used hR.2.2.2.2.1 (fun hl T n hm hq hc hC => (t_never ⟨hR.2.2.2.2.1, hR.2.2.1, hR.2.2.2.1, hR.2.2.2.2.2.2.1, hR.2.2.2.2.2.2.2.2.2.1, hR.2.2.2.2.2.2.2.2.2.2.1, hIX0⟩ hm hc hC hur1 hur2).2) (hkX 4 2 (by decide)) (hkX 4 9 (by decide)) (fun j => hkX 7 j (by rfl)) (hkX 1 3 (by decide)) (fun j => hkX 2 j (by rfl)) (hkX 32 4 (by decide)) (fun j => hkX 33 j (by rfl)) (fun j => hkX 34 j (by rfl)) (fun j => hkX 35 j (by rfl)) (hkM 0 11 (by decide)) (fun j => hkM 7 j (by rfl))), rSt.fr hR.2.2.2.2.2.2.2.2.2.1 (fun j => hkX 3 j (by rfl)) (fun j => hkM 5 j (by rfl)), rIdle.fr hR.2.2.2.2.2.2.2.2.2.2.1 (hkX 13 7 (by decide)) (hkX 13 9 (by decide)) (hkM 0 20 (by decide)) (hkM 0 22 (by decide)) (hkM 0 23 (by decide)) (hkM 0 24 (by decide)) (fun j => hkM 11 j (by rfl)), rIm.fr hR.2.2.2.2.2.2.2.2.2.2.2 (hkX 29 0 (by decide)) (hkX 28 5 (by decide)) (hkX 30 0 (by decide)) (fun j => hkX 31 j (by rfl)) (hkM 0 38 (by decide)) (hkM 0 43 (by decide)) (fun j => hkM 19 j (by rfl))⟩⟩ hPX hPM hS (lv_sub hl [0, 1, 2, 3] rfl)

set_option maxHeartbeats 4000000 in
set_option maxRecDepth 100000 in
theorem lc_8 {p : Program} {e : Env} {s : State} {m : MethodId} {below : List Frame} {meth : Method} {cd : Code} {Qz : State → Prop} (l : Launch) {b : Nat} {N : Nat} {xs : Nat → Int32} {D : va_G} {ca : Nat → ClassId} {za hX hM : Nat → Nat} {cells slots : Nat} {H : Heap} {locs : List Loc} {ls : Array Slot} {i : Int32} {fX fM : sg_F} {LX LM : sg_L} {QX QM : sg_Q} (hx : p.tables.exec = Jvm.exec) (hb : cd.code = code) (hml : cd.maxLocals = 4) (hown : s.vm.findClass R_law = some m.cls) (hts : ∀ w ∈ gwL, w.before #[Value.ref b] s = true) (hXs : va_X b N xs s s.heap) (hN : N ≤ 3072) (hi : 0 ≤ i.toInt ∧ i.toInt + 6 ≤ (N : Int)) (hbl : b < s.heap.size) (hK : va_K D vwCl (tyX ca) s) (hZ : sgZ zcX za (fun q => s.heap.size ≤ q) s.heap.size s) (hhX : sgH 52 hX) (hhM : sgH 26 hM) (hAX : sgY (fun q => s.heap.size ≤ q) 52 hX s.heap.size) (hAM : sgY (fun q => s.heap.size ≤ q) 26 hM s.heap.size) (hdis : ∀ i j : Nat, i < 52 → j < 26 → hX i ≠ hM j) (hdis2 : ∀ i j : Nat, i < 26 → j < 52 → hM i ≠ hX j) (hcl : cells ≤ room_1.cells ∧ slots ≤ room_1.slots) (hV : lwInv fX LX QX fM LM QM) (hPX : va_P D vwCl (sgw 52 hX (eX ca hX) fX LX QX) H) (hPM : va_P D vwCl (sgw 26 hM (eM ca hM) fM LM QM) H) (hS : va_S (fun q => s.heap.size ≤ q) s.heap H locs) (hl : lv_has ls 4 [(0, .ref b), (1, .ref (hX 0)), (2, .ref (hM 0)), (3, .int i)]) (hJ : ∀ (fX : sg_F) (LX : sg_L) (QX : sg_Q) (fM : sg_F) (LM : sg_L) (QM : sg_Q) (H : Heap) (locs : List Loc) (ls : Array Slot), lwInv fX LX QX fM LM QM → va_P D vwCl (sgw 52 hX (eX ca hX) fX LX QX) H → va_P D vwCl (sgw 26 hM (eM ca hM) fM LM QM) H → va_S (fun q => s.heap.size ≤ q) s.heap H locs → lv_has ls 4 [(0, .ref b), (1, .ref (hX 0)), (2, .ref (hM 0)), (3, .int i)] → W p l e room_1 s m #[Value.ref b] below meth cd H locs cells slots Qz (F0 m 1578 ls [])) : W p l e room_1 s m #[Value.ref b] below meth cd H locs cells slots Qz (F0 m 482 ls []) := by
  have hbA : ¬ (fun q => s.heap.size ≤ q) b := Nat.not_le.mpr hbl
  have hown : s.vm.findClass RL = some m.cls := hown
  obtain ⟨hIX, hJX, hIM, hJM, hR⟩ := hV
  have hIX0 := hIX; have hIM0 := hIM; have hJM0 := hJM
  refine lv_aload_n hx hb dL_law_482 rfl (lv_at hl 1 rfl) ?_
  refine lv_aload_n hx hb dL_law_483 rfl (lv_at hl 0 rfl) ?_
  refine lv_iload_n hx hb dL_law_484 rfl (lv_at hl 3 rfl) ?_
  refine lv_iconst (v := 1) hx hb dL_law_485 (by decide) ?_
  refine lv_iadd hx hb dL_law_486 ?_
  refine lv_topi (fun v_1 ev_1 => ?_)
  have q_2 : v_1.toInt = i.toInt + 1 := by rw [ev_1]; have k1 : (1 : Int32).toInt = 1 := (by decide); exact (bn_addI (by omega) (by omega)).trans (by omega)
  refine va_sld hx hb hXs hbl hbA hS (i := v_1) (vp_in_iff.mpr ⟨by omega, by omega⟩) dL_law_487 ?_
  refine lv_topi (fun v_3 ev_3 => ?_)
  refine lv_aload_n hx hb dL_law_488 rfl (lv_at hl 0 rfl) ?_
  refine lv_iload_n hx hb dL_law_489 rfl (lv_at hl 3 rfl) ?_
  refine lv_iconst (v := 2) hx hb dL_law_490 (by decide) ?_
  refine lv_iadd hx hb dL_law_491 ?_
  refine lv_topi (fun v_4 ev_4 => ?_)
  have q_5 : v_4.toInt = i.toInt + 2 := by rw [ev_4]; have k1 : (2 : Int32).toInt = 2 := (by decide); exact (bn_addI (by omega) (by omega)).trans (by omega)
  refine va_sld hx hb hXs hbl hbA hS (i := v_4) (vp_in_iff.mpr ⟨by omega, by omega⟩) dL_law_492 ?_
  refine lv_topi (fun v_6 ev_6 => ?_)
  refine lv_aload_n hx hb dL_law_493 rfl (lv_at hl 0 rfl) ?_
  refine lv_iload_n hx hb dL_law_494 rfl (lv_at hl 3 rfl) ?_
  refine lv_iconst (v := 3) hx hb dL_law_495 (by decide) ?_
  refine lv_iadd hx hb dL_law_496 ?_
  refine lv_topi (fun v_7 ev_7 => ?_)
  have q_8 : v_7.toInt = i.toInt + 3 := by rw [ev_7]; have k1 : (3 : Int32).toInt = 3 := (by decide); exact (bn_addI (by omega) (by omega)).trans (by omega)
  refine va_sld hx hb hXs hbl hbA hS (i := v_7) (vp_in_iff.mpr ⟨by omega, by omega⟩) dL_law_497 ?_
  refine lv_topi (fun v_9 ev_9 => ?_)
  refine lw_callI (va_runV (As := [.int v_3, .int v_6, .int v_9]) (rest := []) ⟨hx, hb, hml, hown, hts⟩ (kX11_best l D ca za hX hhX fX LX QX hIX (v_3) (v_6) (v_9) H.size) (cwV 3 hts (gw_V (fun _ h => h) mw_1034 mw_1035 mw_1036 mw_37 mw_1033) rfl rfl rfl (by decide +kernel) ⟨Nat.le_of_ble_eq_true rfl, Nat.le_of_ble_eq_true rfl⟩) (sg_preV (ci := 11) (C := RX11) (T := TX11) (N := 10) hAX hK hPX hS hZ 0 (by decide) rfl rfl) rfl rfl hl.1 rfl (lv_room (Nat.le_of_ble_eq_true rfl)) dL_law_498 hcl) hAX hS (fun r1 fX1 LX1 QX1 H locs hqr1 hP1 hkr1 hS => ?_)
  have hPX := hP1
  have hPM := lw_kept hPM hdis hkr1
  obtain ⟨⟨hIX, hkX, eLX, eQX⟩, hvr1, hur1⟩ := hqr1
  rw [eLX, eQX] at hPX
  have hJX : JX fX1 := JX.fr hJX hkX (fun _ => rfl) (fun _ => rfl) (fun _ => rfl) (by intro t j ht; rcases (show t = 0 ∨ t = 1 ∨ t = 2 ∨ t = 3 ∨ t = 4 ∨ t = 5 by omega) with rfl | rfl | rfl | rfl | rfl | rfl <;> rfl)
  refine lv_pop hx hb dL_law_501 rfl ?_
  refine lv_aload_n hx hb dL_law_502 rfl (lv_at hl 2 rfl) ?_
  refine lv_aload_n hx hb dL_law_503 rfl (lv_at hl 0 rfl) ?_
  refine lv_iload_n hx hb dL_law_504 rfl (lv_at hl 3 rfl) ?_
  refine lv_iconst (v := 1) hx hb dL_law_505 (by decide) ?_
  refine lv_iadd hx hb dL_law_506 ?_
  rw [← ev_1]
  refine va_sld hx hb hXs hbl hbA hS (i := v_1) (vp_in_iff.mpr ⟨by omega, by omega⟩) dL_law_507 ?_
  rw [← ev_3]
  refine lv_aload_n hx hb dL_law_508 rfl (lv_at hl 0 rfl) ?_
  refine lv_iload_n hx hb dL_law_509 rfl (lv_at hl 3 rfl) ?_
  refine lv_iconst (v := 2) hx hb dL_law_510 (by decide) ?_
  refine lv_iadd hx hb dL_law_511 ?_
  rw [← ev_4]
  refine va_sld hx hb hXs hbl hbA hS (i := v_4) (vp_in_iff.mpr ⟨by omega, by omega⟩) dL_law_512 ?_
  rw [← ev_6]
  refine lv_aload_n hx hb dL_law_513 rfl (lv_at hl 0 rfl) ?_
  refine lv_iload_n hx hb dL_law_514 rfl (lv_at hl 3 rfl) ?_
  refine lv_iconst (v := 3) hx hb dL_law_515 (by decide) ?_
  refine lv_iadd hx hb dL_law_516 ?_
  rw [← ev_7]
  refine va_sld hx hb hXs hbl hbA hS (i := v_7) (vp_in_iff.mpr ⟨by omega, by omega⟩) dL_law_517 ?_
  rw [← ev_9]
  refine lw_callI (va_runV (As := [.int v_3, .int v_6, .int v_9]) (rest := []) ⟨hx, hb, hml, hown, hts⟩ (kX12_best l D ca za hM hhM fM LM QM hIM (v_3) (v_6) (v_9) H.size) (cwV 3 hts (gw_V (fun _ h => h) mw_1038 mw_1039 mw_1040 mw_619 mw_1037) rfl rfl rfl (by decide +kernel) ⟨Nat.le_of_ble_eq_true rfl, Nat.le_of_ble_eq_true rfl⟩) (sg_preV (ci := 12) (C := RX12) (T := TX12) (N := 55) hAM hK hPM hS (show sgZ zcM za (fun q => s.heap.size ≤ q) s.heap.size s from fun i q h => by simp [zcM] at h) 0 (by decide) rfl rfl) rfl rfl hl.1 rfl (lv_room (Nat.le_of_ble_eq_true rfl)) dL_law_518 hcl) hAM hS (fun r2 fM1 LM1 QM1 H locs hqr2 hP1 hkr2 hS => ?_)
  have hPM := hP1
  have hPX := lw_kept hPX hdis2 hkr2
  obtain ⟨⟨hIM, hkM, eLM, eQM⟩, hvr2, hur2⟩ := hqr2
  rw [eLM, eQM] at hPM
  have hJM : JM fM1 := JM.fr hJM hkM (fun _ => rfl) (fun _ => rfl) (fun _ => rfl) rfl rfl
  refine lv_pop hx hb dL_law_521 rfl ?_
  refine lv_goto (tgt := 1578) hx hb dL_law_522 (by decide) ?_
  exact hJ _ _ _ _ _ _ _ _ _ ⟨hIX, hJX, hIM, hJM, ⟨rDesk.fr hR.1 (hkX 36 2 (by decide)) (fun j => hkX 37 j (by rfl)) (hkM 0 45 (by decide)) (fun j => hkM 20 j (by rfl)), rTrace.fr hR.2.1 (hkX 36 3 (by decide)) (fun j => hkX 38 j (by rfl)) (hkM 0 48 (by decide)) (fun j => hkM 21 j (by rfl)), rShelf.fr hR.2.2.1 (fun t j => hkX _ _ (sgin_lo (c := 40) (by decide) (by omega))) (hkX 36 2 (by decide)) (fun j => hkM 22 j (by rfl)) (fun j => hkM 23 j (by rfl)), rEl.fr hR.2.2.2.1 (fun t j => hkX _ _ (sgin_lo (c := 40) (by decide) (by omega))), rNum.fr hR.2.2.2.2.1 (hkX 1 3 (by decide)) (fun j => hkX 2 j (by rfl)) (hkM 0 6 (by decide)) (fun j => hkM 1 j (by rfl)), rChg.fr hR.2.2.2.2.2.1 (hkX 1 3 (by decide)) (hkX 32 3 (by decide)) (hkX 32 4 (by decide)) (fun j => hkX 33 j (by rfl)) (fun j => hkX 34 j (by rfl)) (fun j => hkX 35 j (by rfl)) (hkM 0 5 (by decide)) (hkM 0 4 (by decide)) (fun j => hkM 2 j (by rfl)) (fun j => hkM 3 j (by rfl)) (fun j => hkM 4 j (by rfl)), rByte.fr hR.2.2.2.2.2.2.1 (fun t j => hkX _ _ (sgin_lo (c := 40) (by decide) (by omega))), rTape.fr hR.2.2.2.2.2.2.2.1 (hkX 4 1 (by decide)) (fun j => hkX 5 j (by rfl)) (hkM 0 9 (by decide)) (fun j => hkM 6 j (by rfl)), (hR.2.2.2.2.2.2.2.2.1.used hR.2.2.2.2.1 (fun hl T n hm hq hc hC => (t_best ⟨hR.2.2.2.2.1, hR.2.2.1, hR.2.2.2.1, hR.2.2.2.2.2.2.1, hR.2.2.2.2.2.2.2.2.2.1, hR.2.2.2.2.2.2.2.2.2.2.1, hIX0⟩ hm hc hC hur1 hur2).2) (hkX 4 2 (by decide)) (hkX 4 9 (by decide)) (fun j => hkX 7 j (by rfl)) (hkX 1 3 (by decide)) (fun j => hkX 2 j (by rfl)) (hkX 32 4 (by decide)) (fun j => hkX 33 j (by rfl)) (fun j => hkX 34 j (by rfl)) (fun j => hkX 35 j (by rfl)) (hkM 0 11 (by decide)) (fun j => hkM 7 j (by rfl))), rSt.fr hR.2.2.2.2.2.2.2.2.2.1 (fun j => hkX 3 j (by rfl)) (fun j => hkM 5 j (by rfl)), rIdle.fr hR.2.2.2.2.2.2.2.2.2.2.1 (hkX 13 7 (by decide)) (hkX 13 9 (by decide)) (hkM 0 20 (by decide)) (hkM 0 22 (by decide)) (hkM 0 23 (by decide)) (hkM 0 24 (by decide)) (fun j => hkM 11 j (by rfl)), rIm.fr hR.2.2.2.2.2.2.2.2.2.2.2 (hkX 29 0 (by decide)) (hkX 28 5 (by decide)) (hkX 30 0 (by decide)) (fun j => hkX 31 j (by rfl)) (hkM 0 38 (by decide)) (hkM 0 43 (by decide)) (fun j => hkM 19 j (by rfl))⟩⟩ hPX hPM hS (lv_sub hl [0, 1, 2, 3] rfl)

set_option maxHeartbeats 4000000 in
set_option maxRecDepth 100000 in
theorem lc_9 {p : Program} {e : Env} {s : State} {m : MethodId} {below : List Frame} {meth : Method} {cd : Code} {Qz : State → Prop} (l : Launch) {b : Nat} {N : Nat} {xs : Nat → Int32} {D : va_G} {ca : Nat → ClassId} {za hX hM : Nat → Nat} {cells slots : Nat} {H : Heap} {locs : List Loc} {ls : Array Slot} {i : Int32} {fX fM : sg_F} {LX LM : sg_L} {QX QM : sg_Q} (hx : p.tables.exec = Jvm.exec) (hb : cd.code = code) (hml : cd.maxLocals = 4) (hown : s.vm.findClass R_law = some m.cls) (hts : ∀ w ∈ gwL, w.before #[Value.ref b] s = true) (hXs : va_X b N xs s s.heap) (hN : N ≤ 3072) (hi : 0 ≤ i.toInt ∧ i.toInt + 6 ≤ (N : Int)) (hbl : b < s.heap.size) (hK : va_K D vwCl (tyX ca) s) (hZ : sgZ zcX za (fun q => s.heap.size ≤ q) s.heap.size s) (hhX : sgH 52 hX) (hhM : sgH 26 hM) (hAX : sgY (fun q => s.heap.size ≤ q) 52 hX s.heap.size) (hAM : sgY (fun q => s.heap.size ≤ q) 26 hM s.heap.size) (hdis : ∀ i j : Nat, i < 52 → j < 26 → hX i ≠ hM j) (hdis2 : ∀ i j : Nat, i < 26 → j < 52 → hM i ≠ hX j) (hcl : cells ≤ room_1.cells ∧ slots ≤ room_1.slots) (hV : lwInv fX LX QX fM LM QM) (hPX : va_P D vwCl (sgw 52 hX (eX ca hX) fX LX QX) H) (hPM : va_P D vwCl (sgw 26 hM (eM ca hM) fM LM QM) H) (hS : va_S (fun q => s.heap.size ≤ q) s.heap H locs) (hl : lv_has ls 4 [(0, .ref b), (1, .ref (hX 0)), (2, .ref (hM 0)), (3, .int i)]) (hJ : ∀ (fX : sg_F) (LX : sg_L) (QX : sg_Q) (fM : sg_F) (LM : sg_L) (QM : sg_Q) (H : Heap) (locs : List Loc) (ls : Array Slot), lwInv fX LX QX fM LM QM → va_P D vwCl (sgw 52 hX (eX ca hX) fX LX QX) H → va_P D vwCl (sgw 26 hM (eM ca hM) fM LM QM) H → va_S (fun q => s.heap.size ≤ q) s.heap H locs → lv_has ls 4 [(0, .ref b), (1, .ref (hX 0)), (2, .ref (hM 0)), (3, .int i)] → W p l e room_1 s m #[Value.ref b] below meth cd H locs cells slots Qz (F0 m 1578 ls [])) : W p l e room_1 s m #[Value.ref b] below meth cd H locs cells slots Qz (F0 m 525 ls []) := by
  have hbA : ¬ (fun q => s.heap.size ≤ q) b := Nat.not_le.mpr hbl
  have hown : s.vm.findClass RL = some m.cls := hown
  obtain ⟨hIX, hJX, hIM, hJM, hR⟩ := hV
  have hIX0 := hIX; have hIM0 := hIM; have hJM0 := hJM
  refine lv_aload_n hx hb dL_law_525 rfl (lv_at hl 1 rfl) ?_
  refine lv_aload_n hx hb dL_law_526 rfl (lv_at hl 0 rfl) ?_
  refine lv_iload_n hx hb dL_law_527 rfl (lv_at hl 3 rfl) ?_
  refine lv_iconst (v := 1) hx hb dL_law_528 (by decide) ?_
  refine lv_iadd hx hb dL_law_529 ?_
  refine lv_topi (fun v_1 ev_1 => ?_)
  have q_2 : v_1.toInt = i.toInt + 1 := by rw [ev_1]; have k1 : (1 : Int32).toInt = 1 := (by decide); exact (bn_addI (by omega) (by omega)).trans (by omega)
  refine va_sld hx hb hXs hbl hbA hS (i := v_1) (vp_in_iff.mpr ⟨by omega, by omega⟩) dL_law_530 ?_
  refine lv_topi (fun v_3 ev_3 => ?_)
  refine lv_aload_n hx hb dL_law_531 rfl (lv_at hl 0 rfl) ?_
  refine lv_iload_n hx hb dL_law_532 rfl (lv_at hl 3 rfl) ?_
  refine lv_iconst (v := 2) hx hb dL_law_533 (by decide) ?_
  refine lv_iadd hx hb dL_law_534 ?_
  refine lv_topi (fun v_4 ev_4 => ?_)
  have q_5 : v_4.toInt = i.toInt + 2 := by rw [ev_4]; have k1 : (2 : Int32).toInt = 2 := (by decide); exact (bn_addI (by omega) (by omega)).trans (by omega)
  refine va_sld hx hb hXs hbl hbA hS (i := v_4) (vp_in_iff.mpr ⟨by omega, by omega⟩) dL_law_535 ?_
  refine lv_topi (fun v_6 ev_6 => ?_)
  refine lw_callI (va_runV (As := [.int v_3, .int v_6]) (rest := []) ⟨hx, hb, hml, hown, hts⟩ (kX11_middle l D ca za hX hhX fX LX QX hIX (v_3) (v_6) H.size) (cwV 2 hts (gw_V (fun _ h => h) mw_1042 mw_1043 mw_1044 mw_37 mw_1041) rfl rfl rfl (by decide +kernel) ⟨Nat.le_of_ble_eq_true rfl, Nat.le_of_ble_eq_true rfl⟩) (sg_preV (ci := 11) (C := RX11) (T := TX11) (N := 10) hAX hK hPX hS hZ 0 (by decide) rfl rfl) rfl rfl hl.1 rfl (lv_room (Nat.le_of_ble_eq_true rfl)) dL_law_536 hcl) hAX hS (fun r1 fX1 LX1 QX1 H locs hqr1 hP1 hkr1 hS => ?_)
  have hPX := hP1
  have hPM := lw_kept hPM hdis hkr1
  obtain ⟨⟨hIX, hkX, eLX, eQX⟩, hvr1, hur1⟩ := hqr1
  rw [eLX, eQX] at hPX
  have hJX : JX fX1 := JX.fr hJX hkX (fun _ => rfl) (fun _ => rfl) (fun _ => rfl) (by intro t j ht; rcases (show t = 0 ∨ t = 1 ∨ t = 2 ∨ t = 3 ∨ t = 4 ∨ t = 5 by omega) with rfl | rfl | rfl | rfl | rfl | rfl <;> rfl)
  refine lv_pop hx hb dL_law_539 rfl ?_
  refine lv_aload_n hx hb dL_law_540 rfl (lv_at hl 2 rfl) ?_
  refine lv_aload_n hx hb dL_law_541 rfl (lv_at hl 0 rfl) ?_
  refine lv_iload_n hx hb dL_law_542 rfl (lv_at hl 3 rfl) ?_
  refine lv_iconst (v := 1) hx hb dL_law_543 (by decide) ?_
  refine lv_iadd hx hb dL_law_544 ?_
  rw [← ev_1]
  refine va_sld hx hb hXs hbl hbA hS (i := v_1) (vp_in_iff.mpr ⟨by omega, by omega⟩) dL_law_545 ?_
  rw [← ev_3]
  refine lv_aload_n hx hb dL_law_546 rfl (lv_at hl 0 rfl) ?_
  refine lv_iload_n hx hb dL_law_547 rfl (lv_at hl 3 rfl) ?_
  refine lv_iconst (v := 2) hx hb dL_law_548 (by decide) ?_
  refine lv_iadd hx hb dL_law_549 ?_
  rw [← ev_4]
  refine va_sld hx hb hXs hbl hbA hS (i := v_4) (vp_in_iff.mpr ⟨by omega, by omega⟩) dL_law_550 ?_
  rw [← ev_6]
  refine lw_callI (va_runV (As := [.int v_3, .int v_6]) (rest := []) ⟨hx, hb, hml, hown, hts⟩ (kX12_middle l D ca za hM hhM fM LM QM hIM (v_3) (v_6) H.size) (cwV 2 hts (gw_V (fun _ h => h) mw_1046 mw_1047 mw_1048 mw_619 mw_1045) rfl rfl rfl (by decide +kernel) ⟨Nat.le_of_ble_eq_true rfl, Nat.le_of_ble_eq_true rfl⟩) (sg_preV (ci := 12) (C := RX12) (T := TX12) (N := 55) hAM hK hPM hS (show sgZ zcM za (fun q => s.heap.size ≤ q) s.heap.size s from fun i q h => by simp [zcM] at h) 0 (by decide) rfl rfl) rfl rfl hl.1 rfl (lv_room (Nat.le_of_ble_eq_true rfl)) dL_law_551 hcl) hAM hS (fun r2 fM1 LM1 QM1 H locs hqr2 hP1 hkr2 hS => ?_)
  have hPM := hP1
  have hPX := lw_kept hPX hdis2 hkr2
  obtain ⟨⟨efM, eLM, eQM⟩, hvr2, hur2⟩ := hqr2
  rw [efM, eLM, eQM] at hPM
  refine lv_pop hx hb dL_law_554 rfl ?_
  refine lv_goto (tgt := 1578) hx hb dL_law_555 (by decide) ?_
  exact hJ _ _ _ _ _ _ _ _ _ ⟨hIX, hJX, hIM, hJM, ⟨rDesk.fr hR.1 (hkX 36 2 (by decide)) (fun j => hkX 37 j (by rfl)) (sgK.rf0 0 45 (by decide)) (fun j => sgK.rf0 20 j (by rfl)), rTrace.fr hR.2.1 (hkX 36 3 (by decide)) (fun j => hkX 38 j (by rfl)) (sgK.rf0 0 48 (by decide)) (fun j => sgK.rf0 21 j (by rfl)), rShelf.fr hR.2.2.1 (fun t j => hkX _ _ (sgin_lo (c := 40) (by decide) (by omega))) (hkX 36 2 (by decide)) (fun j => sgK.rf0 22 j (by rfl)) (fun j => sgK.rf0 23 j (by rfl)), rEl.fr hR.2.2.2.1 (fun t j => hkX _ _ (sgin_lo (c := 40) (by decide) (by omega))), rNum.fr hR.2.2.2.2.1 (hkX 1 3 (by decide)) (fun j => hkX 2 j (by rfl)) (sgK.rf0 0 6 (by decide)) (fun j => sgK.rf0 1 j (by rfl)), rChg.fr hR.2.2.2.2.2.1 (hkX 1 3 (by decide)) (hkX 32 3 (by decide)) (hkX 32 4 (by decide)) (fun j => hkX 33 j (by rfl)) (fun j => hkX 34 j (by rfl)) (fun j => hkX 35 j (by rfl)) (sgK.rf0 0 5 (by decide)) (sgK.rf0 0 4 (by decide)) (fun j => sgK.rf0 2 j (by rfl)) (fun j => sgK.rf0 3 j (by rfl)) (fun j => sgK.rf0 4 j (by rfl)), rByte.fr hR.2.2.2.2.2.2.1 (fun t j => hkX _ _ (sgin_lo (c := 40) (by decide) (by omega))), rTape.fr hR.2.2.2.2.2.2.2.1 (hkX 4 1 (by decide)) (fun j => hkX 5 j (by rfl)) (sgK.rf0 0 9 (by decide)) (fun j => sgK.rf0 6 j (by rfl)), rLs.fr hR.2.2.2.2.2.2.2.2.1 (hkX 4 2 (by decide)) (hkX 4 9 (by decide)) (fun j => hkX 7 j (by rfl)) (hkX 1 3 (by decide)) (fun j => hkX 2 j (by rfl)) (hkX 32 4 (by decide)) (fun j => hkX 33 j (by rfl)) (fun j => hkX 34 j (by rfl)) (fun j => hkX 35 j (by rfl)) (fun j => hkX 9 j (by rfl)) (sgK.rf0 0 11 (by decide)) (fun j => sgK.rf0 7 j (by rfl)), rSt.fr hR.2.2.2.2.2.2.2.2.2.1 (fun j => hkX 3 j (by rfl)) (fun j => sgK.rf0 5 j (by rfl)), rIdle.fr hR.2.2.2.2.2.2.2.2.2.2.1 (hkX 13 7 (by decide)) (hkX 13 9 (by decide)) (sgK.rf0 0 20 (by decide)) (sgK.rf0 0 22 (by decide)) (sgK.rf0 0 23 (by decide)) (sgK.rf0 0 24 (by decide)) (fun j => sgK.rf0 11 j (by rfl)), rIm.fr hR.2.2.2.2.2.2.2.2.2.2.2 (hkX 29 0 (by decide)) (hkX 28 5 (by decide)) (hkX 30 0 (by decide)) (fun j => hkX 31 j (by rfl)) (sgK.rf0 0 38 (by decide)) (sgK.rf0 0 43 (by decide)) (fun j => sgK.rf0 19 j (by rfl))⟩⟩ hPX hPM hS (lv_sub hl [0, 1, 2, 3] rfl)

set_option maxHeartbeats 4000000 in
set_option maxRecDepth 100000 in
theorem lc_10 {p : Program} {e : Env} {s : State} {m : MethodId} {below : List Frame} {meth : Method} {cd : Code} {Qz : State → Prop} (l : Launch) {b : Nat} {N : Nat} {xs : Nat → Int32} {D : va_G} {ca : Nat → ClassId} {za hX hM : Nat → Nat} {cells slots : Nat} {H : Heap} {locs : List Loc} {ls : Array Slot} {i : Int32} {fX fM : sg_F} {LX LM : sg_L} {QX QM : sg_Q} (hx : p.tables.exec = Jvm.exec) (hb : cd.code = code) (hml : cd.maxLocals = 4) (hown : s.vm.findClass R_law = some m.cls) (hts : ∀ w ∈ gwL, w.before #[Value.ref b] s = true) (hXs : va_X b N xs s s.heap) (hN : N ≤ 3072) (hi : 0 ≤ i.toInt ∧ i.toInt + 6 ≤ (N : Int)) (hbl : b < s.heap.size) (hK : va_K D vwCl (tyX ca) s) (hZ : sgZ zcX za (fun q => s.heap.size ≤ q) s.heap.size s) (hhX : sgH 52 hX) (hhM : sgH 26 hM) (hAX : sgY (fun q => s.heap.size ≤ q) 52 hX s.heap.size) (hAM : sgY (fun q => s.heap.size ≤ q) 26 hM s.heap.size) (hdis : ∀ i j : Nat, i < 52 → j < 26 → hX i ≠ hM j) (hdis2 : ∀ i j : Nat, i < 26 → j < 52 → hM i ≠ hX j) (hcl : cells ≤ room_1.cells ∧ slots ≤ room_1.slots) (hV : lwInv fX LX QX fM LM QM) (hPX : va_P D vwCl (sgw 52 hX (eX ca hX) fX LX QX) H) (hPM : va_P D vwCl (sgw 26 hM (eM ca hM) fM LM QM) H) (hS : va_S (fun q => s.heap.size ≤ q) s.heap H locs) (hl : lv_has ls 4 [(0, .ref b), (1, .ref (hX 0)), (2, .ref (hM 0)), (3, .int i)]) (hJ : ∀ (fX : sg_F) (LX : sg_L) (QX : sg_Q) (fM : sg_F) (LM : sg_L) (QM : sg_Q) (H : Heap) (locs : List Loc) (ls : Array Slot), lwInv fX LX QX fM LM QM → va_P D vwCl (sgw 52 hX (eX ca hX) fX LX QX) H → va_P D vwCl (sgw 26 hM (eM ca hM) fM LM QM) H → va_S (fun q => s.heap.size ≤ q) s.heap H locs → lv_has ls 4 [(0, .ref b), (1, .ref (hX 0)), (2, .ref (hM 0)), (3, .int i)] → W p l e room_1 s m #[Value.ref b] below meth cd H locs cells slots Qz (F0 m 1578 ls [])) : W p l e room_1 s m #[Value.ref b] below meth cd H locs cells slots Qz (F0 m 558 ls []) := by
  have hbA : ¬ (fun q => s.heap.size ≤ q) b := Nat.not_le.mpr hbl
  have hown : s.vm.findClass RL = some m.cls := hown
  obtain ⟨hIX, hJX, hIM, hJM, hR⟩ := hV
  have hIX0 := hIX; have hIM0 := hIM; have hJM0 := hJM
  refine lv_aload_n hx hb dL_law_558 rfl (lv_at hl 1 rfl) ?_
  refine lv_aload_n hx hb dL_law_559 rfl (lv_at hl 0 rfl) ?_
  refine lv_iload_n hx hb dL_law_560 rfl (lv_at hl 3 rfl) ?_
  refine lv_iconst (v := 1) hx hb dL_law_561 (by decide) ?_
  refine lv_iadd hx hb dL_law_562 ?_
  refine lv_topi (fun v_1 ev_1 => ?_)
  have q_2 : v_1.toInt = i.toInt + 1 := by rw [ev_1]; have k1 : (1 : Int32).toInt = 1 := (by decide); exact (bn_addI (by omega) (by omega)).trans (by omega)
  refine va_sld hx hb hXs hbl hbA hS (i := v_1) (vp_in_iff.mpr ⟨by omega, by omega⟩) dL_law_563 ?_
  refine lv_topi (fun v_3 ev_3 => ?_)
  refine lv_aload_n hx hb dL_law_564 rfl (lv_at hl 0 rfl) ?_
  refine lv_iload_n hx hb dL_law_565 rfl (lv_at hl 3 rfl) ?_
  refine lv_iconst (v := 2) hx hb dL_law_566 (by decide) ?_
  refine lv_iadd hx hb dL_law_567 ?_
  refine lv_topi (fun v_4 ev_4 => ?_)
  have q_5 : v_4.toInt = i.toInt + 2 := by rw [ev_4]; have k1 : (2 : Int32).toInt = 2 := (by decide); exact (bn_addI (by omega) (by omega)).trans (by omega)
  refine va_sld hx hb hXs hbl hbA hS (i := v_4) (vp_in_iff.mpr ⟨by omega, by omega⟩) dL_law_568 ?_
  refine lv_topi (fun v_6 ev_6 => ?_)
  refine lv_aload_n hx hb dL_law_569 rfl (lv_at hl 0 rfl) ?_
  refine lv_iload_n hx hb dL_law_570 rfl (lv_at hl 3 rfl) ?_
  refine lv_iconst (v := 3) hx hb dL_law_571 (by decide) ?_
  refine lv_iadd hx hb dL_law_572 ?_
  refine lv_topi (fun v_7 ev_7 => ?_)
  have q_8 : v_7.toInt = i.toInt + 3 := by rw [ev_7]; have k1 : (3 : Int32).toInt = 3 := (by decide); exact (bn_addI (by omega) (by omega)).trans (by omega)
  refine va_sld hx hb hXs hbl hbA hS (i := v_7) (vp_in_iff.mpr ⟨by omega, by omega⟩) dL_law_573 ?_
  refine lv_topi (fun v_9 ev_9 => ?_)
  refine lw_callI (va_runV (As := [.int v_3, .int v_6, .int v_9]) (rest := []) ⟨hx, hb, hml, hown, hts⟩ (kX11_shifts l D ca za hX hhX fX LX QX hIX (v_3) (v_6) (v_9) H.size) (cwV 3 hts (gw_V (fun _ h => h) mw_1050 mw_1051 mw_1052 mw_37 mw_1049) rfl rfl rfl (by decide +kernel) ⟨Nat.le_of_ble_eq_true rfl, Nat.le_of_ble_eq_true rfl⟩) (sg_preV (ci := 11) (C := RX11) (T := TX11) (N := 10) hAX hK hPX hS hZ 0 (by decide) rfl rfl) rfl rfl hl.1 rfl (lv_room (Nat.le_of_ble_eq_true rfl)) dL_law_574 hcl) hAX hS (fun r1 fX1 LX1 QX1 H locs hqr1 hP1 hkr1 hS => ?_)
  have hPX := hP1
  have hPM := lw_kept hPM hdis hkr1
  obtain ⟨⟨hIX, hkX, eLX, eQX⟩, hvr1, hur1⟩ := hqr1
  rw [eLX, eQX] at hPX
  have hJX : JX fX1 := JX.fr hJX hkX (fun _ => rfl) (fun _ => rfl) (fun _ => rfl) (by intro t j ht; rcases (show t = 0 ∨ t = 1 ∨ t = 2 ∨ t = 3 ∨ t = 4 ∨ t = 5 by omega) with rfl | rfl | rfl | rfl | rfl | rfl <;> rfl)
  refine lv_pop hx hb dL_law_577 rfl ?_
  refine lv_aload_n hx hb dL_law_578 rfl (lv_at hl 2 rfl) ?_
  refine lv_aload_n hx hb dL_law_579 rfl (lv_at hl 0 rfl) ?_
  refine lv_iload_n hx hb dL_law_580 rfl (lv_at hl 3 rfl) ?_
  refine lv_iconst (v := 1) hx hb dL_law_581 (by decide) ?_
  refine lv_iadd hx hb dL_law_582 ?_
  rw [← ev_1]
  refine va_sld hx hb hXs hbl hbA hS (i := v_1) (vp_in_iff.mpr ⟨by omega, by omega⟩) dL_law_583 ?_
  rw [← ev_3]
  refine lv_aload_n hx hb dL_law_584 rfl (lv_at hl 0 rfl) ?_
  refine lv_iload_n hx hb dL_law_585 rfl (lv_at hl 3 rfl) ?_
  refine lv_iconst (v := 2) hx hb dL_law_586 (by decide) ?_
  refine lv_iadd hx hb dL_law_587 ?_
  rw [← ev_4]
  refine va_sld hx hb hXs hbl hbA hS (i := v_4) (vp_in_iff.mpr ⟨by omega, by omega⟩) dL_law_588 ?_
  rw [← ev_6]
  refine lv_aload_n hx hb dL_law_589 rfl (lv_at hl 0 rfl) ?_
  refine lv_iload_n hx hb dL_law_590 rfl (lv_at hl 3 rfl) ?_
  refine lv_iconst (v := 3) hx hb dL_law_591 (by decide) ?_
  refine lv_iadd hx hb dL_law_592 ?_
  rw [← ev_7]
  refine va_sld hx hb hXs hbl hbA hS (i := v_7) (vp_in_iff.mpr ⟨by omega, by omega⟩) dL_law_593 ?_
  rw [← ev_9]
  refine lw_callI (va_runV (As := [.int v_3, .int v_6, .int v_9]) (rest := []) ⟨hx, hb, hml, hown, hts⟩ (kX12_shifts l D ca za hM hhM fM LM QM hIM (v_3) (v_6) (v_9) H.size) (cwV 3 hts (gw_V (fun _ h => h) mw_1054 mw_1055 mw_1056 mw_619 mw_1053) rfl rfl rfl (by decide +kernel) ⟨Nat.le_of_ble_eq_true rfl, Nat.le_of_ble_eq_true rfl⟩) (sg_preV (ci := 12) (C := RX12) (T := TX12) (N := 55) hAM hK hPM hS (show sgZ zcM za (fun q => s.heap.size ≤ q) s.heap.size s from fun i q h => by simp [zcM] at h) 0 (by decide) rfl rfl) rfl rfl hl.1 rfl (lv_room (Nat.le_of_ble_eq_true rfl)) dL_law_594 hcl) hAM hS (fun r2 fM1 LM1 QM1 H locs hqr2 hP1 hkr2 hS => ?_)
  have hPM := hP1
  have hPX := lw_kept hPX hdis2 hkr2
  obtain ⟨⟨hIM, hkM, eLM, eQM⟩, hvr2, hur2⟩ := hqr2
  rw [eLM, eQM] at hPM
  have hJM : JM fM1 := JM.fr hJM hkM (fun _ => rfl) (fun _ => rfl) (fun _ => rfl) rfl rfl
  refine lv_pop hx hb dL_law_597 rfl ?_
  refine lv_goto (tgt := 1578) hx hb dL_law_598 (by decide) ?_
  exact hJ _ _ _ _ _ _ _ _ _ ⟨hIX, hJX, hIM, hJM, ⟨rDesk.fr hR.1 (hkX 36 2 (by decide)) (fun j => hkX 37 j (by rfl)) (hkM 0 45 (by decide)) (fun j => hkM 20 j (by rfl)), rTrace.fr hR.2.1 (hkX 36 3 (by decide)) (fun j => hkX 38 j (by rfl)) (hkM 0 48 (by decide)) (fun j => hkM 21 j (by rfl)), rShelf.fr hR.2.2.1 (fun t j => hkX _ _ (sgin_lo (c := 40) (by decide) (by omega))) (hkX 36 2 (by decide)) (fun j => hkM 22 j (by rfl)) (fun j => hkM 23 j (by rfl)), rEl.fr hR.2.2.2.1 (fun t j => hkX _ _ (sgin_lo (c := 40) (by decide) (by omega))), rNum.fr hR.2.2.2.2.1 (hkX 1 3 (by decide)) (fun j => hkX 2 j (by rfl)) (hkM 0 6 (by decide)) (fun j => hkM 1 j (by rfl)), rChg.fr hR.2.2.2.2.2.1 (hkX 1 3 (by decide)) (hkX 32 3 (by decide)) (hkX 32 4 (by decide)) (fun j => hkX 33 j (by rfl)) (fun j => hkX 34 j (by rfl)) (fun j => hkX 35 j (by rfl)) (hkM 0 5 (by decide)) (hkM 0 4 (by decide)) (fun j => hkM 2 j (by rfl)) (fun j => hkM 3 j (by rfl)) (fun j => hkM 4 j (by rfl)), rByte.fr hR.2.2.2.2.2.2.1 (fun t j => hkX _ _ (sgin_lo (c := 40) (by decide) (by omega))), rTape.fr hR.2.2.2.2.2.2.2.1 (hkX 4 1 (by decide)) (fun j => hkX 5 j (by rfl)) (hkM 0 9 (by decide)) (fun j => hkM 6 j (by rfl)), (hR.2.2.2.2.2.2.2.2.1.used hR.2.2.2.2.1 (fun hl T n hm hq hc hC => k_shifts ⟨hR.2.2.2.2.1, hR.2.2.1, hR.2.2.2.1, hR.2.2.2.2.2.2.1, hR.2.2.2.2.2.2.2.2.2.1, hR.2.2.2.2.2.2.2.2.2.2.1, hIX0⟩ hq hc hC hur1) (hkX 4 2 (by decide)) (hkX 4 9 (by decide)) (fun j => hkX 7 j (by rfl)) (hkX 1 3 (by decide)) (fun j => hkX 2 j (by rfl)) (hkX 32 4 (by decide)) (fun j => hkX 33 j (by rfl)) (fun j => hkX 34 j (by rfl)) (fun j => hkX 35 j (by rfl)) (hkM 0 11 (by decide)) (fun j => hkM 7 j (by rfl))), rSt.fr hR.2.2.2.2.2.2.2.2.2.1 (fun j => hkX 3 j (by rfl)) (fun j => hkM 5 j (by rfl)), rIdle.fr hR.2.2.2.2.2.2.2.2.2.2.1 (hkX 13 7 (by decide)) (hkX 13 9 (by decide)) (hkM 0 20 (by decide)) (hkM 0 22 (by decide)) (hkM 0 23 (by decide)) (hkM 0 24 (by decide)) (fun j => hkM 11 j (by rfl)), rIm.fr hR.2.2.2.2.2.2.2.2.2.2.2 (hkX 29 0 (by decide)) (hkX 28 5 (by decide)) (hkX 30 0 (by decide)) (fun j => hkX 31 j (by rfl)) (hkM 0 38 (by decide)) (hkM 0 43 (by decide)) (fun j => hkM 19 j (by rfl))⟩⟩ hPX hPM hS (lv_sub hl [0, 1, 2, 3] rfl)

set_option maxHeartbeats 4000000 in
set_option maxRecDepth 100000 in
theorem lc_11 {p : Program} {e : Env} {s : State} {m : MethodId} {below : List Frame} {meth : Method} {cd : Code} {Qz : State → Prop} (l : Launch) {b : Nat} {N : Nat} {xs : Nat → Int32} {D : va_G} {ca : Nat → ClassId} {za hX hM : Nat → Nat} {cells slots : Nat} {H : Heap} {locs : List Loc} {ls : Array Slot} {i : Int32} {fX fM : sg_F} {LX LM : sg_L} {QX QM : sg_Q} (hx : p.tables.exec = Jvm.exec) (hb : cd.code = code) (hml : cd.maxLocals = 4) (hown : s.vm.findClass R_law = some m.cls) (hts : ∀ w ∈ gwL, w.before #[Value.ref b] s = true) (hXs : va_X b N xs s s.heap) (hN : N ≤ 3072) (hi : 0 ≤ i.toInt ∧ i.toInt + 6 ≤ (N : Int)) (hbl : b < s.heap.size) (hK : va_K D vwCl (tyX ca) s) (hZ : sgZ zcX za (fun q => s.heap.size ≤ q) s.heap.size s) (hhX : sgH 52 hX) (hhM : sgH 26 hM) (hAX : sgY (fun q => s.heap.size ≤ q) 52 hX s.heap.size) (hAM : sgY (fun q => s.heap.size ≤ q) 26 hM s.heap.size) (hdis : ∀ i j : Nat, i < 52 → j < 26 → hX i ≠ hM j) (hdis2 : ∀ i j : Nat, i < 26 → j < 52 → hM i ≠ hX j) (hcl : cells ≤ room_1.cells ∧ slots ≤ room_1.slots) (hV : lwInv fX LX QX fM LM QM) (hPX : va_P D vwCl (sgw 52 hX (eX ca hX) fX LX QX) H) (hPM : va_P D vwCl (sgw 26 hM (eM ca hM) fM LM QM) H) (hS : va_S (fun q => s.heap.size ≤ q) s.heap H locs) (hl : lv_has ls 4 [(0, .ref b), (1, .ref (hX 0)), (2, .ref (hM 0)), (3, .int i)]) (hJ : ∀ (fX : sg_F) (LX : sg_L) (QX : sg_Q) (fM : sg_F) (LM : sg_L) (QM : sg_Q) (H : Heap) (locs : List Loc) (ls : Array Slot), lwInv fX LX QX fM LM QM → va_P D vwCl (sgw 52 hX (eX ca hX) fX LX QX) H → va_P D vwCl (sgw 26 hM (eM ca hM) fM LM QM) H → va_S (fun q => s.heap.size ≤ q) s.heap H locs → lv_has ls 4 [(0, .ref b), (1, .ref (hX 0)), (2, .ref (hM 0)), (3, .int i)] → W p l e room_1 s m #[Value.ref b] below meth cd H locs cells slots Qz (F0 m 1578 ls [])) : W p l e room_1 s m #[Value.ref b] below meth cd H locs cells slots Qz (F0 m 601 ls []) := by
  have hbA : ¬ (fun q => s.heap.size ≤ q) b := Nat.not_le.mpr hbl
  have hown : s.vm.findClass RL = some m.cls := hown
  obtain ⟨hIX, hJX, hIM, hJM, hR⟩ := hV
  have hIX0 := hIX; have hIM0 := hIM; have hJM0 := hJM
  refine lv_aload_n hx hb dL_law_601 rfl (lv_at hl 1 rfl) ?_
  refine lv_aload_n hx hb dL_law_602 rfl (lv_at hl 0 rfl) ?_
  refine lv_iload_n hx hb dL_law_603 rfl (lv_at hl 3 rfl) ?_
  refine lv_iconst (v := 1) hx hb dL_law_604 (by decide) ?_
  refine lv_iadd hx hb dL_law_605 ?_
  refine lv_topi (fun v_1 ev_1 => ?_)
  have q_2 : v_1.toInt = i.toInt + 1 := by rw [ev_1]; have k1 : (1 : Int32).toInt = 1 := (by decide); exact (bn_addI (by omega) (by omega)).trans (by omega)
  refine va_sld hx hb hXs hbl hbA hS (i := v_1) (vp_in_iff.mpr ⟨by omega, by omega⟩) dL_law_606 ?_
  refine lv_topi (fun v_3 ev_3 => ?_)
  refine lv_aload_n hx hb dL_law_607 rfl (lv_at hl 0 rfl) ?_
  refine lv_iload_n hx hb dL_law_608 rfl (lv_at hl 3 rfl) ?_
  refine lv_iconst (v := 2) hx hb dL_law_609 (by decide) ?_
  refine lv_iadd hx hb dL_law_610 ?_
  refine lv_topi (fun v_4 ev_4 => ?_)
  have q_5 : v_4.toInt = i.toInt + 2 := by rw [ev_4]; have k1 : (2 : Int32).toInt = 2 := (by decide); exact (bn_addI (by omega) (by omega)).trans (by omega)
  refine va_sld hx hb hXs hbl hbA hS (i := v_4) (vp_in_iff.mpr ⟨by omega, by omega⟩) dL_law_611 ?_
  refine lv_topi (fun v_6 ev_6 => ?_)
  refine lv_aload_n hx hb dL_law_612 rfl (lv_at hl 0 rfl) ?_
  refine lv_iload_n hx hb dL_law_613 rfl (lv_at hl 3 rfl) ?_
  refine lv_iconst (v := 3) hx hb dL_law_614 (by decide) ?_
  refine lv_iadd hx hb dL_law_615 ?_
  refine lv_topi (fun v_7 ev_7 => ?_)
  have q_8 : v_7.toInt = i.toInt + 3 := by rw [ev_7]; have k1 : (3 : Int32).toInt = 3 := (by decide); exact (bn_addI (by omega) (by omega)).trans (by omega)
  refine va_sld hx hb hXs hbl hbA hS (i := v_7) (vp_in_iff.mpr ⟨by omega, by omega⟩) dL_law_616 ?_
  refine lv_topi (fun v_9 ev_9 => ?_)
  refine lw_callI (va_runV (As := [.int v_3, .int v_6, .int v_9]) (rest := []) ⟨hx, hb, hml, hown, hts⟩ (kX11_once l D ca za hX hhX fX LX QX hIX (v_3) (v_6) (v_9) H.size) (cwV 3 hts (gw_V (fun _ h => h) mw_1058 mw_1059 mw_1060 mw_37 mw_1057) rfl rfl rfl (by decide +kernel) ⟨Nat.le_of_ble_eq_true rfl, Nat.le_of_ble_eq_true rfl⟩) (sg_preV (ci := 11) (C := RX11) (T := TX11) (N := 10) hAX hK hPX hS hZ 0 (by decide) rfl rfl) rfl rfl hl.1 rfl (lv_room (Nat.le_of_ble_eq_true rfl)) dL_law_617 hcl) hAX hS (fun r1 fX1 LX1 QX1 H locs hqr1 hP1 hkr1 hS => ?_)
  have hPX := hP1
  have hPM := lw_kept hPM hdis hkr1
  obtain ⟨⟨hIX, hkX, eLX, eQX⟩, hvr1, hur1⟩ := hqr1
  rw [eLX, eQX] at hPX
  have hJX : JX fX1 := JX.fr hJX hkX (fun _ => rfl) (fun _ => rfl) (fun _ => rfl) (by intro t j ht; rcases (show t = 0 ∨ t = 1 ∨ t = 2 ∨ t = 3 ∨ t = 4 ∨ t = 5 by omega) with rfl | rfl | rfl | rfl | rfl | rfl <;> rfl)
  refine lv_pop hx hb dL_law_620 rfl ?_
  refine lv_aload_n hx hb dL_law_621 rfl (lv_at hl 2 rfl) ?_
  refine lv_aload_n hx hb dL_law_622 rfl (lv_at hl 0 rfl) ?_
  refine lv_iload_n hx hb dL_law_623 rfl (lv_at hl 3 rfl) ?_
  refine lv_iconst (v := 1) hx hb dL_law_624 (by decide) ?_
  refine lv_iadd hx hb dL_law_625 ?_
  rw [← ev_1]
  refine va_sld hx hb hXs hbl hbA hS (i := v_1) (vp_in_iff.mpr ⟨by omega, by omega⟩) dL_law_626 ?_
  rw [← ev_3]
  refine lv_aload_n hx hb dL_law_627 rfl (lv_at hl 0 rfl) ?_
  refine lv_iload_n hx hb dL_law_628 rfl (lv_at hl 3 rfl) ?_
  refine lv_iconst (v := 2) hx hb dL_law_629 (by decide) ?_
  refine lv_iadd hx hb dL_law_630 ?_
  rw [← ev_4]
  refine va_sld hx hb hXs hbl hbA hS (i := v_4) (vp_in_iff.mpr ⟨by omega, by omega⟩) dL_law_631 ?_
  rw [← ev_6]
  refine lv_aload_n hx hb dL_law_632 rfl (lv_at hl 0 rfl) ?_
  refine lv_iload_n hx hb dL_law_633 rfl (lv_at hl 3 rfl) ?_
  refine lv_iconst (v := 3) hx hb dL_law_634 (by decide) ?_
  refine lv_iadd hx hb dL_law_635 ?_
  rw [← ev_7]
  refine va_sld hx hb hXs hbl hbA hS (i := v_7) (vp_in_iff.mpr ⟨by omega, by omega⟩) dL_law_636 ?_
  rw [← ev_9]
  refine lw_callI (va_runV (As := [.int v_3, .int v_6, .int v_9]) (rest := []) ⟨hx, hb, hml, hown, hts⟩ (kX12_once l D ca za hM hhM fM LM QM hIM (v_3) (v_6) (v_9) H.size) (cwV 3 hts (gw_V (fun _ h => h) mw_1062 mw_1063 mw_1064 mw_619 mw_1061) rfl rfl rfl (by decide +kernel) ⟨Nat.le_of_ble_eq_true rfl, Nat.le_of_ble_eq_true rfl⟩) (sg_preV (ci := 12) (C := RX12) (T := TX12) (N := 55) hAM hK hPM hS (show sgZ zcM za (fun q => s.heap.size ≤ q) s.heap.size s from fun i q h => by simp [zcM] at h) 0 (by decide) rfl rfl) rfl rfl hl.1 rfl (lv_room (Nat.le_of_ble_eq_true rfl)) dL_law_637 hcl) hAM hS (fun r2 fM1 LM1 QM1 H locs hqr2 hP1 hkr2 hS => ?_)
  have hPM := hP1
  have hPX := lw_kept hPX hdis2 hkr2
  obtain ⟨⟨hIM, hkM, eLM, eQM⟩, hvr2, hur2⟩ := hqr2
  rw [eLM, eQM] at hPM
  have hJM : JM fM1 := JM.fr hJM hkM (fun _ => rfl) (fun _ => rfl) (fun _ => rfl) rfl rfl
  refine lv_pop hx hb dL_law_640 rfl ?_
  refine lv_goto (tgt := 1578) hx hb dL_law_641 (by decide) ?_
  exact hJ _ _ _ _ _ _ _ _ _ ⟨hIX, hJX, hIM, hJM, ⟨rDesk.fr hR.1 (hkX 36 2 (by decide)) (fun j => hkX 37 j (by rfl)) (hkM 0 45 (by decide)) (fun j => hkM 20 j (by rfl)), rTrace.fr hR.2.1 (hkX 36 3 (by decide)) (fun j => hkX 38 j (by rfl)) (hkM 0 48 (by decide)) (fun j => hkM 21 j (by rfl)), rShelf.fr hR.2.2.1 (fun t j => hkX _ _ (sgin_lo (c := 40) (by decide) (by omega))) (hkX 36 2 (by decide)) (fun j => hkM 22 j (by rfl)) (fun j => hkM 23 j (by rfl)), rEl.fr hR.2.2.2.1 (fun t j => hkX _ _ (sgin_lo (c := 40) (by decide) (by omega))), rNum.fr hR.2.2.2.2.1 (hkX 1 3 (by decide)) (fun j => hkX 2 j (by rfl)) (hkM 0 6 (by decide)) (fun j => hkM 1 j (by rfl)), rChg.fr hR.2.2.2.2.2.1 (hkX 1 3 (by decide)) (hkX 32 3 (by decide)) (hkX 32 4 (by decide)) (fun j => hkX 33 j (by rfl)) (fun j => hkX 34 j (by rfl)) (fun j => hkX 35 j (by rfl)) (hkM 0 5 (by decide)) (hkM 0 4 (by decide)) (fun j => hkM 2 j (by rfl)) (fun j => hkM 3 j (by rfl)) (fun j => hkM 4 j (by rfl)), rByte.fr hR.2.2.2.2.2.2.1 (fun t j => hkX _ _ (sgin_lo (c := 40) (by decide) (by omega))), rTape.fr hR.2.2.2.2.2.2.2.1 (hkX 4 1 (by decide)) (fun j => hkX 5 j (by rfl)) (hkM 0 9 (by decide)) (fun j => hkM 6 j (by rfl)), (hR.2.2.2.2.2.2.2.2.1.used hR.2.2.2.2.1 (fun hl T n hm hq hc hC => k_once ⟨hR.2.2.2.2.1, hR.2.2.1, hR.2.2.2.1, hR.2.2.2.2.2.2.1, hR.2.2.2.2.2.2.2.2.2.1, hR.2.2.2.2.2.2.2.2.2.2.1, hIX0⟩ hq hc hC hur1) (hkX 4 2 (by decide)) (hkX 4 9 (by decide)) (fun j => hkX 7 j (by rfl)) (hkX 1 3 (by decide)) (fun j => hkX 2 j (by rfl)) (hkX 32 4 (by decide)) (fun j => hkX 33 j (by rfl)) (fun j => hkX 34 j (by rfl)) (fun j => hkX 35 j (by rfl)) (hkM 0 11 (by decide)) (fun j => hkM 7 j (by rfl))), rSt.fr hR.2.2.2.2.2.2.2.2.2.1 (fun j => hkX 3 j (by rfl)) (fun j => hkM 5 j (by rfl)), rIdle.fr hR.2.2.2.2.2.2.2.2.2.2.1 (hkX 13 7 (by decide)) (hkX 13 9 (by decide)) (hkM 0 20 (by decide)) (hkM 0 22 (by decide)) (hkM 0 23 (by decide)) (hkM 0 24 (by decide)) (fun j => hkM 11 j (by rfl)), rIm.fr hR.2.2.2.2.2.2.2.2.2.2.2 (hkX 29 0 (by decide)) (hkX 28 5 (by decide)) (hkX 30 0 (by decide)) (fun j => hkX 31 j (by rfl)) (hkM 0 38 (by decide)) (hkM 0 43 (by decide)) (fun j => hkM 19 j (by rfl))⟩⟩ hPX hPM hS (lv_sub hl [0, 1, 2, 3] rfl)

set_option maxHeartbeats 4000000 in
set_option maxRecDepth 100000 in
theorem lc_12 {p : Program} {e : Env} {s : State} {m : MethodId} {below : List Frame} {meth : Method} {cd : Code} {Qz : State → Prop} (l : Launch) {b : Nat} {N : Nat} {xs : Nat → Int32} {D : va_G} {ca : Nat → ClassId} {za hX hM : Nat → Nat} {cells slots : Nat} {H : Heap} {locs : List Loc} {ls : Array Slot} {i : Int32} {fX fM : sg_F} {LX LM : sg_L} {QX QM : sg_Q} (hx : p.tables.exec = Jvm.exec) (hb : cd.code = code) (hml : cd.maxLocals = 4) (hown : s.vm.findClass R_law = some m.cls) (hts : ∀ w ∈ gwL, w.before #[Value.ref b] s = true) (hXs : va_X b N xs s s.heap) (hN : N ≤ 3072) (hi : 0 ≤ i.toInt ∧ i.toInt + 6 ≤ (N : Int)) (hbl : b < s.heap.size) (hK : va_K D vwCl (tyX ca) s) (hZ : sgZ zcX za (fun q => s.heap.size ≤ q) s.heap.size s) (hhX : sgH 52 hX) (hhM : sgH 26 hM) (hAX : sgY (fun q => s.heap.size ≤ q) 52 hX s.heap.size) (hAM : sgY (fun q => s.heap.size ≤ q) 26 hM s.heap.size) (hdis : ∀ i j : Nat, i < 52 → j < 26 → hX i ≠ hM j) (hdis2 : ∀ i j : Nat, i < 26 → j < 52 → hM i ≠ hX j) (hcl : cells ≤ room_1.cells ∧ slots ≤ room_1.slots) (hV : lwInv fX LX QX fM LM QM) (hPX : va_P D vwCl (sgw 52 hX (eX ca hX) fX LX QX) H) (hPM : va_P D vwCl (sgw 26 hM (eM ca hM) fM LM QM) H) (hS : va_S (fun q => s.heap.size ≤ q) s.heap H locs) (hl : lv_has ls 4 [(0, .ref b), (1, .ref (hX 0)), (2, .ref (hM 0)), (3, .int i)]) (hJ : ∀ (fX : sg_F) (LX : sg_L) (QX : sg_Q) (fM : sg_F) (LM : sg_L) (QM : sg_Q) (H : Heap) (locs : List Loc) (ls : Array Slot), lwInv fX LX QX fM LM QM → va_P D vwCl (sgw 52 hX (eX ca hX) fX LX QX) H → va_P D vwCl (sgw 26 hM (eM ca hM) fM LM QM) H → va_S (fun q => s.heap.size ≤ q) s.heap H locs → lv_has ls 4 [(0, .ref b), (1, .ref (hX 0)), (2, .ref (hM 0)), (3, .int i)] → W p l e room_1 s m #[Value.ref b] below meth cd H locs cells slots Qz (F0 m 1578 ls [])) : W p l e room_1 s m #[Value.ref b] below meth cd H locs cells slots Qz (F0 m 644 ls []) := by
  have hbA : ¬ (fun q => s.heap.size ≤ q) b := Nat.not_le.mpr hbl
  have hown : s.vm.findClass RL = some m.cls := hown
  obtain ⟨hIX, hJX, hIM, hJM, hR⟩ := hV
  have hIX0 := hIX; have hIM0 := hIM; have hJM0 := hJM
  refine lv_aload_n hx hb dL_law_644 rfl (lv_at hl 1 rfl) ?_
  refine lv_aload_n hx hb dL_law_645 rfl (lv_at hl 0 rfl) ?_
  refine lv_iload_n hx hb dL_law_646 rfl (lv_at hl 3 rfl) ?_
  refine lv_iconst (v := 1) hx hb dL_law_647 (by decide) ?_
  refine lv_iadd hx hb dL_law_648 ?_
  refine lv_topi (fun v_1 ev_1 => ?_)
  have q_2 : v_1.toInt = i.toInt + 1 := by rw [ev_1]; have k1 : (1 : Int32).toInt = 1 := (by decide); exact (bn_addI (by omega) (by omega)).trans (by omega)
  refine va_sld hx hb hXs hbl hbA hS (i := v_1) (vp_in_iff.mpr ⟨by omega, by omega⟩) dL_law_649 ?_
  refine lv_topi (fun v_3 ev_3 => ?_)
  refine lv_aload_n hx hb dL_law_650 rfl (lv_at hl 0 rfl) ?_
  refine lv_iload_n hx hb dL_law_651 rfl (lv_at hl 3 rfl) ?_
  refine lv_iconst (v := 2) hx hb dL_law_652 (by decide) ?_
  refine lv_iadd hx hb dL_law_653 ?_
  refine lv_topi (fun v_4 ev_4 => ?_)
  have q_5 : v_4.toInt = i.toInt + 2 := by rw [ev_4]; have k1 : (2 : Int32).toInt = 2 := (by decide); exact (bn_addI (by omega) (by omega)).trans (by omega)
  refine va_sld hx hb hXs hbl hbA hS (i := v_4) (vp_in_iff.mpr ⟨by omega, by omega⟩) dL_law_654 ?_
  refine lv_topi (fun v_6 ev_6 => ?_)
  refine lw_callI (va_runV (As := [.int v_3, .int v_6]) (rest := []) ⟨hx, hb, hml, hown, hts⟩ (kX11_week l D ca za hX hhX fX LX QX hIX (v_3) (v_6) H.size) (cwV 2 hts (gw_V (fun _ h => h) mw_1066 mw_1067 mw_1068 mw_37 mw_1065) rfl rfl rfl (by decide +kernel) ⟨Nat.le_of_ble_eq_true rfl, Nat.le_of_ble_eq_true rfl⟩) (sg_preV (ci := 11) (C := RX11) (T := TX11) (N := 10) hAX hK hPX hS hZ 0 (by decide) rfl rfl) rfl rfl hl.1 rfl (lv_room (Nat.le_of_ble_eq_true rfl)) dL_law_655 hcl) hAX hS (fun r1 fX1 LX1 QX1 H locs hqr1 hP1 hkr1 hS => ?_)
  have hPX := hP1
  have hPM := lw_kept hPM hdis hkr1
  obtain ⟨⟨hIX, hkX, eLX, eQX⟩, hvr1, hur1⟩ := hqr1
  rw [eLX, eQX] at hPX
  have hJX : JX fX1 := JX.fr hJX hkX (fun _ => rfl) (fun _ => rfl) (fun _ => rfl) (by intro t j ht; rcases (show t = 0 ∨ t = 1 ∨ t = 2 ∨ t = 3 ∨ t = 4 ∨ t = 5 by omega) with rfl | rfl | rfl | rfl | rfl | rfl <;> rfl)
  refine lv_pop hx hb dL_law_658 rfl ?_
  refine lv_aload_n hx hb dL_law_659 rfl (lv_at hl 2 rfl) ?_
  refine lv_aload_n hx hb dL_law_660 rfl (lv_at hl 0 rfl) ?_
  refine lv_iload_n hx hb dL_law_661 rfl (lv_at hl 3 rfl) ?_
  refine lv_iconst (v := 1) hx hb dL_law_662 (by decide) ?_
  refine lv_iadd hx hb dL_law_663 ?_
  rw [← ev_1]
  refine va_sld hx hb hXs hbl hbA hS (i := v_1) (vp_in_iff.mpr ⟨by omega, by omega⟩) dL_law_664 ?_
  rw [← ev_3]
  refine lv_aload_n hx hb dL_law_665 rfl (lv_at hl 0 rfl) ?_
  refine lv_iload_n hx hb dL_law_666 rfl (lv_at hl 3 rfl) ?_
  refine lv_iconst (v := 2) hx hb dL_law_667 (by decide) ?_
  refine lv_iadd hx hb dL_law_668 ?_
  rw [← ev_4]
  refine va_sld hx hb hXs hbl hbA hS (i := v_4) (vp_in_iff.mpr ⟨by omega, by omega⟩) dL_law_669 ?_
  rw [← ev_6]
  refine lw_callI (va_runV (As := [.int v_3, .int v_6]) (rest := []) ⟨hx, hb, hml, hown, hts⟩ (kX12_week l D ca za hM hhM fM LM QM hIM (v_3) (v_6) H.size) (cwV 2 hts (gw_V (fun _ h => h) mw_1070 mw_1071 mw_1072 mw_619 mw_1069) rfl rfl rfl (by decide +kernel) ⟨Nat.le_of_ble_eq_true rfl, Nat.le_of_ble_eq_true rfl⟩) (sg_preV (ci := 12) (C := RX12) (T := TX12) (N := 55) hAM hK hPM hS (show sgZ zcM za (fun q => s.heap.size ≤ q) s.heap.size s from fun i q h => by simp [zcM] at h) 0 (by decide) rfl rfl) rfl rfl hl.1 rfl (lv_room (Nat.le_of_ble_eq_true rfl)) dL_law_670 hcl) hAM hS (fun r2 fM1 LM1 QM1 H locs hqr2 hP1 hkr2 hS => ?_)
  have hPM := hP1
  have hPX := lw_kept hPX hdis2 hkr2
  obtain ⟨⟨hIM, hkM, eLM, eQM⟩, hvr2, hur2⟩ := hqr2
  rw [eLM, eQM] at hPM
  have hJM : JM fM1 := JM.fr hJM hkM (fun _ => rfl) (fun _ => rfl) (fun _ => rfl) rfl rfl
  refine lv_pop hx hb dL_law_673 rfl ?_
  refine lv_goto (tgt := 1578) hx hb dL_law_674 (by decide) ?_
  exact hJ _ _ _ _ _ _ _ _ _ ⟨hIX, hJX, hIM, hJM, ⟨rDesk.fr hR.1 (hkX 36 2 (by decide)) (fun j => hkX 37 j (by rfl)) (hkM 0 45 (by decide)) (fun j => hkM 20 j (by rfl)), rTrace.fr hR.2.1 (hkX 36 3 (by decide)) (fun j => hkX 38 j (by rfl)) (hkM 0 48 (by decide)) (fun j => hkM 21 j (by rfl)), rShelf.fr hR.2.2.1 (fun t j => hkX _ _ (sgin_lo (c := 40) (by decide) (by omega))) (hkX 36 2 (by decide)) (fun j => hkM 22 j (by rfl)) (fun j => hkM 23 j (by rfl)), rEl.fr hR.2.2.2.1 (fun t j => hkX _ _ (sgin_lo (c := 40) (by decide) (by omega))), rNum.fr hR.2.2.2.2.1 (hkX 1 3 (by decide)) (fun j => hkX 2 j (by rfl)) (hkM 0 6 (by decide)) (fun j => hkM 1 j (by rfl)), rChg.fr hR.2.2.2.2.2.1 (hkX 1 3 (by decide)) (hkX 32 3 (by decide)) (hkX 32 4 (by decide)) (fun j => hkX 33 j (by rfl)) (fun j => hkX 34 j (by rfl)) (fun j => hkX 35 j (by rfl)) (hkM 0 5 (by decide)) (hkM 0 4 (by decide)) (fun j => hkM 2 j (by rfl)) (fun j => hkM 3 j (by rfl)) (fun j => hkM 4 j (by rfl)), rByte.fr hR.2.2.2.2.2.2.1 (fun t j => hkX _ _ (sgin_lo (c := 40) (by decide) (by omega))), rTape.fr hR.2.2.2.2.2.2.2.1 (hkX 4 1 (by decide)) (fun j => hkX 5 j (by rfl)) (hkM 0 9 (by decide)) (fun j => hkM 6 j (by rfl)), (hR.2.2.2.2.2.2.2.2.1.used hR.2.2.2.2.1 (fun hl T n hm hq hc hC => (t_week ⟨hR.2.2.2.2.1, hR.2.2.1, hR.2.2.2.1, hR.2.2.2.2.2.2.1, hR.2.2.2.2.2.2.2.2.2.1, hR.2.2.2.2.2.2.2.2.2.2.1, hIX0⟩ hm hq hc hC hur1 hur2).2) (hkX 4 2 (by decide)) (hkX 4 9 (by decide)) (fun j => hkX 7 j (by rfl)) (hkX 1 3 (by decide)) (fun j => hkX 2 j (by rfl)) (hkX 32 4 (by decide)) (fun j => hkX 33 j (by rfl)) (fun j => hkX 34 j (by rfl)) (fun j => hkX 35 j (by rfl)) (hkM 0 11 (by decide)) (fun j => hkM 7 j (by rfl))), rSt.fr hR.2.2.2.2.2.2.2.2.2.1 (fun j => hkX 3 j (by rfl)) (fun j => hkM 5 j (by rfl)), rIdle.fr hR.2.2.2.2.2.2.2.2.2.2.1 (hkX 13 7 (by decide)) (hkX 13 9 (by decide)) (hkM 0 20 (by decide)) (hkM 0 22 (by decide)) (hkM 0 23 (by decide)) (hkM 0 24 (by decide)) (fun j => hkM 11 j (by rfl)), rIm.fr hR.2.2.2.2.2.2.2.2.2.2.2 (hkX 29 0 (by decide)) (hkX 28 5 (by decide)) (hkX 30 0 (by decide)) (fun j => hkX 31 j (by rfl)) (hkM 0 38 (by decide)) (hkM 0 43 (by decide)) (fun j => hkM 19 j (by rfl))⟩⟩ hPX hPM hS (lv_sub hl [0, 1, 2, 3] rfl)

set_option maxHeartbeats 4000000 in
set_option maxRecDepth 100000 in
theorem lc_13 {p : Program} {e : Env} {s : State} {m : MethodId} {below : List Frame} {meth : Method} {cd : Code} {Qz : State → Prop} (l : Launch) {b : Nat} {N : Nat} {xs : Nat → Int32} {D : va_G} {ca : Nat → ClassId} {za hX hM : Nat → Nat} {cells slots : Nat} {H : Heap} {locs : List Loc} {ls : Array Slot} {i : Int32} {fX fM : sg_F} {LX LM : sg_L} {QX QM : sg_Q} (hx : p.tables.exec = Jvm.exec) (hb : cd.code = code) (hml : cd.maxLocals = 4) (hown : s.vm.findClass R_law = some m.cls) (hts : ∀ w ∈ gwL, w.before #[Value.ref b] s = true) (hXs : va_X b N xs s s.heap) (hN : N ≤ 3072) (hi : 0 ≤ i.toInt ∧ i.toInt + 6 ≤ (N : Int)) (hbl : b < s.heap.size) (hK : va_K D vwCl (tyX ca) s) (hZ : sgZ zcX za (fun q => s.heap.size ≤ q) s.heap.size s) (hhX : sgH 52 hX) (hhM : sgH 26 hM) (hAX : sgY (fun q => s.heap.size ≤ q) 52 hX s.heap.size) (hAM : sgY (fun q => s.heap.size ≤ q) 26 hM s.heap.size) (hdis : ∀ i j : Nat, i < 52 → j < 26 → hX i ≠ hM j) (hdis2 : ∀ i j : Nat, i < 26 → j < 52 → hM i ≠ hX j) (hcl : cells ≤ room_1.cells ∧ slots ≤ room_1.slots) (hV : lwInv fX LX QX fM LM QM) (hPX : va_P D vwCl (sgw 52 hX (eX ca hX) fX LX QX) H) (hPM : va_P D vwCl (sgw 26 hM (eM ca hM) fM LM QM) H) (hS : va_S (fun q => s.heap.size ≤ q) s.heap H locs) (hl : lv_has ls 4 [(0, .ref b), (1, .ref (hX 0)), (2, .ref (hM 0)), (3, .int i)]) (hJ : ∀ (fX : sg_F) (LX : sg_L) (QX : sg_Q) (fM : sg_F) (LM : sg_L) (QM : sg_Q) (H : Heap) (locs : List Loc) (ls : Array Slot), lwInv fX LX QX fM LM QM → va_P D vwCl (sgw 52 hX (eX ca hX) fX LX QX) H → va_P D vwCl (sgw 26 hM (eM ca hM) fM LM QM) H → va_S (fun q => s.heap.size ≤ q) s.heap H locs → lv_has ls 4 [(0, .ref b), (1, .ref (hX 0)), (2, .ref (hM 0)), (3, .int i)] → W p l e room_1 s m #[Value.ref b] below meth cd H locs cells slots Qz (F0 m 1578 ls [])) : W p l e room_1 s m #[Value.ref b] below meth cd H locs cells slots Qz (F0 m 677 ls []) := by
  have hbA : ¬ (fun q => s.heap.size ≤ q) b := Nat.not_le.mpr hbl
  have hown : s.vm.findClass RL = some m.cls := hown
  obtain ⟨hIX, hJX, hIM, hJM, hR⟩ := hV
  have hIX0 := hIX; have hIM0 := hIM; have hJM0 := hJM
  refine lv_aload_n hx hb dL_law_677 rfl (lv_at hl 1 rfl) ?_
  refine lv_aload_n hx hb dL_law_678 rfl (lv_at hl 0 rfl) ?_
  refine lv_iload_n hx hb dL_law_679 rfl (lv_at hl 3 rfl) ?_
  refine lv_iconst (v := 1) hx hb dL_law_680 (by decide) ?_
  refine lv_iadd hx hb dL_law_681 ?_
  refine lv_topi (fun v_1 ev_1 => ?_)
  have q_2 : v_1.toInt = i.toInt + 1 := by rw [ev_1]; have k1 : (1 : Int32).toInt = 1 := (by decide); exact (bn_addI (by omega) (by omega)).trans (by omega)
  refine va_sld hx hb hXs hbl hbA hS (i := v_1) (vp_in_iff.mpr ⟨by omega, by omega⟩) dL_law_682 ?_
  refine lv_topi (fun v_3 ev_3 => ?_)
  refine lv_aload_n hx hb dL_law_683 rfl (lv_at hl 0 rfl) ?_
  refine lv_iload_n hx hb dL_law_684 rfl (lv_at hl 3 rfl) ?_
  refine lv_iconst (v := 2) hx hb dL_law_685 (by decide) ?_
  refine lv_iadd hx hb dL_law_686 ?_
  refine lv_topi (fun v_4 ev_4 => ?_)
  have q_5 : v_4.toInt = i.toInt + 2 := by rw [ev_4]; have k1 : (2 : Int32).toInt = 2 := (by decide); exact (bn_addI (by omega) (by omega)).trans (by omega)
  refine va_sld hx hb hXs hbl hbA hS (i := v_4) (vp_in_iff.mpr ⟨by omega, by omega⟩) dL_law_687 ?_
  refine lv_topi (fun v_6 ev_6 => ?_)
  refine lv_aload_n hx hb dL_law_688 rfl (lv_at hl 0 rfl) ?_
  refine lv_iload_n hx hb dL_law_689 rfl (lv_at hl 3 rfl) ?_
  refine lv_iconst (v := 3) hx hb dL_law_690 (by decide) ?_
  refine lv_iadd hx hb dL_law_691 ?_
  refine lv_topi (fun v_7 ev_7 => ?_)
  have q_8 : v_7.toInt = i.toInt + 3 := by rw [ev_7]; have k1 : (3 : Int32).toInt = 3 := (by decide); exact (bn_addI (by omega) (by omega)).trans (by omega)
  refine va_sld hx hb hXs hbl hbA hS (i := v_7) (vp_in_iff.mpr ⟨by omega, by omega⟩) dL_law_692 ?_
  refine lv_topi (fun v_9 ev_9 => ?_)
  refine lw_callI (va_runV (As := [.int v_3, .int v_6, .int v_9]) (rest := []) ⟨hx, hb, hml, hown, hts⟩ (kX11_stands l D ca za hX hhX fX LX QX hIX (v_3) (v_6) (v_9) H.size) (cwV 3 hts (gw_V (fun _ h => h) mw_1074 mw_1075 mw_1076 mw_37 mw_1073) rfl rfl rfl (by decide +kernel) ⟨Nat.le_of_ble_eq_true rfl, Nat.le_of_ble_eq_true rfl⟩) (sg_preV (ci := 11) (C := RX11) (T := TX11) (N := 10) hAX hK hPX hS hZ 0 (by decide) rfl rfl) rfl rfl hl.1 rfl (lv_room (Nat.le_of_ble_eq_true rfl)) dL_law_693 hcl) hAX hS (fun r1 fX1 LX1 QX1 H locs hqr1 hP1 hkr1 hS => ?_)
  have hPX := hP1
  have hPM := lw_kept hPM hdis hkr1
  obtain ⟨⟨hIX, hkX, eLX, eQX⟩, hvr1, hur1⟩ := hqr1
  rw [eLX, eQX] at hPX
  have hJX : JX fX1 := JX.fr hJX hkX (fun _ => rfl) (fun _ => rfl) (fun _ => rfl) (by intro t j ht; rcases (show t = 0 ∨ t = 1 ∨ t = 2 ∨ t = 3 ∨ t = 4 ∨ t = 5 by omega) with rfl | rfl | rfl | rfl | rfl | rfl <;> rfl)
  refine lv_pop hx hb dL_law_696 rfl ?_
  refine lv_aload_n hx hb dL_law_697 rfl (lv_at hl 2 rfl) ?_
  refine lv_aload_n hx hb dL_law_698 rfl (lv_at hl 0 rfl) ?_
  refine lv_iload_n hx hb dL_law_699 rfl (lv_at hl 3 rfl) ?_
  refine lv_iconst (v := 1) hx hb dL_law_700 (by decide) ?_
  refine lv_iadd hx hb dL_law_701 ?_
  rw [← ev_1]
  refine va_sld hx hb hXs hbl hbA hS (i := v_1) (vp_in_iff.mpr ⟨by omega, by omega⟩) dL_law_702 ?_
  rw [← ev_3]
  refine lv_aload_n hx hb dL_law_703 rfl (lv_at hl 0 rfl) ?_
  refine lv_iload_n hx hb dL_law_704 rfl (lv_at hl 3 rfl) ?_
  refine lv_iconst (v := 2) hx hb dL_law_705 (by decide) ?_
  refine lv_iadd hx hb dL_law_706 ?_
  rw [← ev_4]
  refine va_sld hx hb hXs hbl hbA hS (i := v_4) (vp_in_iff.mpr ⟨by omega, by omega⟩) dL_law_707 ?_
  rw [← ev_6]
  refine lv_aload_n hx hb dL_law_708 rfl (lv_at hl 0 rfl) ?_
  refine lv_iload_n hx hb dL_law_709 rfl (lv_at hl 3 rfl) ?_
  refine lv_iconst (v := 3) hx hb dL_law_710 (by decide) ?_
  refine lv_iadd hx hb dL_law_711 ?_
  rw [← ev_7]
  refine va_sld hx hb hXs hbl hbA hS (i := v_7) (vp_in_iff.mpr ⟨by omega, by omega⟩) dL_law_712 ?_
  rw [← ev_9]
  refine lw_callI (va_runV (As := [.int v_3, .int v_6, .int v_9]) (rest := []) ⟨hx, hb, hml, hown, hts⟩ (kX12_stands l D ca za hM hhM fM LM QM hIM (v_3) (v_6) (v_9) H.size) (cwV 3 hts (gw_V (fun _ h => h) mw_1078 mw_1079 mw_1080 mw_619 mw_1077) rfl rfl rfl (by decide +kernel) ⟨Nat.le_of_ble_eq_true rfl, Nat.le_of_ble_eq_true rfl⟩) (sg_preV (ci := 12) (C := RX12) (T := TX12) (N := 55) hAM hK hPM hS (show sgZ zcM za (fun q => s.heap.size ≤ q) s.heap.size s from fun i q h => by simp [zcM] at h) 0 (by decide) rfl rfl) rfl rfl hl.1 rfl (lv_room (Nat.le_of_ble_eq_true rfl)) dL_law_713 hcl) hAM hS (fun r2 fM1 LM1 QM1 H locs hqr2 hP1 hkr2 hS => ?_)
  have hPM := hP1
  have hPX := lw_kept hPX hdis2 hkr2
  obtain ⟨⟨hIM, hkM, eLM, eQM⟩, hvr2, hur2⟩ := hqr2
  rw [eLM, eQM] at hPM
  have hJM : JM fM1 := JM.fr hJM hkM (fun _ => rfl) (fun _ => rfl) (fun _ => rfl) rfl rfl
  refine lv_pop hx hb dL_law_716 rfl ?_
  refine lv_goto (tgt := 1578) hx hb dL_law_717 (by decide) ?_
  exact hJ _ _ _ _ _ _ _ _ _ ⟨hIX, hJX, hIM, hJM, ⟨rDesk.fr hR.1 (hkX 36 2 (by decide)) (fun j => hkX 37 j (by rfl)) (hkM 0 45 (by decide)) (fun j => hkM 20 j (by rfl)), rTrace.fr hR.2.1 (hkX 36 3 (by decide)) (fun j => hkX 38 j (by rfl)) (hkM 0 48 (by decide)) (fun j => hkM 21 j (by rfl)), rShelf.fr hR.2.2.1 (fun t j => hkX _ _ (sgin_lo (c := 40) (by decide) (by omega))) (hkX 36 2 (by decide)) (fun j => hkM 22 j (by rfl)) (fun j => hkM 23 j (by rfl)), rEl.fr hR.2.2.2.1 (fun t j => hkX _ _ (sgin_lo (c := 40) (by decide) (by omega))), rNum.fr hR.2.2.2.2.1 (hkX 1 3 (by decide)) (fun j => hkX 2 j (by rfl)) (hkM 0 6 (by decide)) (fun j => hkM 1 j (by rfl)), rChg.fr hR.2.2.2.2.2.1 (hkX 1 3 (by decide)) (hkX 32 3 (by decide)) (hkX 32 4 (by decide)) (fun j => hkX 33 j (by rfl)) (fun j => hkX 34 j (by rfl)) (fun j => hkX 35 j (by rfl)) (hkM 0 5 (by decide)) (hkM 0 4 (by decide)) (fun j => hkM 2 j (by rfl)) (fun j => hkM 3 j (by rfl)) (fun j => hkM 4 j (by rfl)), rByte.fr hR.2.2.2.2.2.2.1 (fun t j => hkX _ _ (sgin_lo (c := 40) (by decide) (by omega))), rTape.fr hR.2.2.2.2.2.2.2.1 (hkX 4 1 (by decide)) (fun j => hkX 5 j (by rfl)) (hkM 0 9 (by decide)) (fun j => hkM 6 j (by rfl)), (hR.2.2.2.2.2.2.2.2.1.used hR.2.2.2.2.1 (fun hl T n hm hq hc hC => (t_stands ⟨hR.2.2.2.2.1, hR.2.2.1, hR.2.2.2.1, hR.2.2.2.2.2.2.1, hR.2.2.2.2.2.2.2.2.2.1, hR.2.2.2.2.2.2.2.2.2.2.1, hIX0⟩ hm hq hc hC hur1 hur2).2) (hkX 4 2 (by decide)) (hkX 4 9 (by decide)) (fun j => hkX 7 j (by rfl)) (hkX 1 3 (by decide)) (fun j => hkX 2 j (by rfl)) (hkX 32 4 (by decide)) (fun j => hkX 33 j (by rfl)) (fun j => hkX 34 j (by rfl)) (fun j => hkX 35 j (by rfl)) (hkM 0 11 (by decide)) (fun j => hkM 7 j (by rfl))), rSt.fr hR.2.2.2.2.2.2.2.2.2.1 (fun j => hkX 3 j (by rfl)) (fun j => hkM 5 j (by rfl)), rIdle.fr hR.2.2.2.2.2.2.2.2.2.2.1 (hkX 13 7 (by decide)) (hkX 13 9 (by decide)) (hkM 0 20 (by decide)) (hkM 0 22 (by decide)) (hkM 0 23 (by decide)) (hkM 0 24 (by decide)) (fun j => hkM 11 j (by rfl)), rIm.fr hR.2.2.2.2.2.2.2.2.2.2.2 (hkX 29 0 (by decide)) (hkX 28 5 (by decide)) (hkX 30 0 (by decide)) (fun j => hkX 31 j (by rfl)) (hkM 0 38 (by decide)) (hkM 0 43 (by decide)) (fun j => hkM 19 j (by rfl))⟩⟩ hPX hPM hS (lv_sub hl [0, 1, 2, 3] rfl)

set_option maxHeartbeats 4000000 in
set_option maxRecDepth 100000 in
theorem lc_14 {p : Program} {e : Env} {s : State} {m : MethodId} {below : List Frame} {meth : Method} {cd : Code} {Qz : State → Prop} (l : Launch) {b : Nat} {N : Nat} {xs : Nat → Int32} {D : va_G} {ca : Nat → ClassId} {za hX hM : Nat → Nat} {cells slots : Nat} {H : Heap} {locs : List Loc} {ls : Array Slot} {i : Int32} {fX fM : sg_F} {LX LM : sg_L} {QX QM : sg_Q} (hx : p.tables.exec = Jvm.exec) (hb : cd.code = code) (hml : cd.maxLocals = 4) (hown : s.vm.findClass R_law = some m.cls) (hts : ∀ w ∈ gwL, w.before #[Value.ref b] s = true) (hXs : va_X b N xs s s.heap) (hN : N ≤ 3072) (hi : 0 ≤ i.toInt ∧ i.toInt + 6 ≤ (N : Int)) (hbl : b < s.heap.size) (hK : va_K D vwCl (tyX ca) s) (hZ : sgZ zcX za (fun q => s.heap.size ≤ q) s.heap.size s) (hhX : sgH 52 hX) (hhM : sgH 26 hM) (hAX : sgY (fun q => s.heap.size ≤ q) 52 hX s.heap.size) (hAM : sgY (fun q => s.heap.size ≤ q) 26 hM s.heap.size) (hdis : ∀ i j : Nat, i < 52 → j < 26 → hX i ≠ hM j) (hdis2 : ∀ i j : Nat, i < 26 → j < 52 → hM i ≠ hX j) (hcl : cells ≤ room_1.cells ∧ slots ≤ room_1.slots) (hV : lwInv fX LX QX fM LM QM) (hPX : va_P D vwCl (sgw 52 hX (eX ca hX) fX LX QX) H) (hPM : va_P D vwCl (sgw 26 hM (eM ca hM) fM LM QM) H) (hS : va_S (fun q => s.heap.size ≤ q) s.heap H locs) (hl : lv_has ls 4 [(0, .ref b), (1, .ref (hX 0)), (2, .ref (hM 0)), (3, .int i)]) (hJ : ∀ (fX : sg_F) (LX : sg_L) (QX : sg_Q) (fM : sg_F) (LM : sg_L) (QM : sg_Q) (H : Heap) (locs : List Loc) (ls : Array Slot), lwInv fX LX QX fM LM QM → va_P D vwCl (sgw 52 hX (eX ca hX) fX LX QX) H → va_P D vwCl (sgw 26 hM (eM ca hM) fM LM QM) H → va_S (fun q => s.heap.size ≤ q) s.heap H locs → lv_has ls 4 [(0, .ref b), (1, .ref (hX 0)), (2, .ref (hM 0)), (3, .int i)] → W p l e room_1 s m #[Value.ref b] below meth cd H locs cells slots Qz (F0 m 1578 ls [])) : W p l e room_1 s m #[Value.ref b] below meth cd H locs cells slots Qz (F0 m 720 ls []) := by
  have hbA : ¬ (fun q => s.heap.size ≤ q) b := Nat.not_le.mpr hbl
  have hown : s.vm.findClass RL = some m.cls := hown
  obtain ⟨hIX, hJX, hIM, hJM, hR⟩ := hV
  have hIX0 := hIX; have hIM0 := hIM; have hJM0 := hJM
  refine lv_aload_n hx hb dL_law_720 rfl (lv_at hl 1 rfl) ?_
  refine lv_aload_n hx hb dL_law_721 rfl (lv_at hl 0 rfl) ?_
  refine lv_iload_n hx hb dL_law_722 rfl (lv_at hl 3 rfl) ?_
  refine lv_iconst (v := 1) hx hb dL_law_723 (by decide) ?_
  refine lv_iadd hx hb dL_law_724 ?_
  refine lv_topi (fun v_1 ev_1 => ?_)
  have q_2 : v_1.toInt = i.toInt + 1 := by rw [ev_1]; have k1 : (1 : Int32).toInt = 1 := (by decide); exact (bn_addI (by omega) (by omega)).trans (by omega)
  refine va_sld hx hb hXs hbl hbA hS (i := v_1) (vp_in_iff.mpr ⟨by omega, by omega⟩) dL_law_725 ?_
  refine lv_topi (fun v_3 ev_3 => ?_)
  refine lv_aload_n hx hb dL_law_726 rfl (lv_at hl 0 rfl) ?_
  refine lv_iload_n hx hb dL_law_727 rfl (lv_at hl 3 rfl) ?_
  refine lv_iconst (v := 2) hx hb dL_law_728 (by decide) ?_
  refine lv_iadd hx hb dL_law_729 ?_
  refine lv_topi (fun v_4 ev_4 => ?_)
  have q_5 : v_4.toInt = i.toInt + 2 := by rw [ev_4]; have k1 : (2 : Int32).toInt = 2 := (by decide); exact (bn_addI (by omega) (by omega)).trans (by omega)
  refine va_sld hx hb hXs hbl hbA hS (i := v_4) (vp_in_iff.mpr ⟨by omega, by omega⟩) dL_law_730 ?_
  refine lv_topi (fun v_6 ev_6 => ?_)
  refine lv_aload_n hx hb dL_law_731 rfl (lv_at hl 0 rfl) ?_
  refine lv_iload_n hx hb dL_law_732 rfl (lv_at hl 3 rfl) ?_
  refine lv_iconst (v := 3) hx hb dL_law_733 (by decide) ?_
  refine lv_iadd hx hb dL_law_734 ?_
  refine lv_topi (fun v_7 ev_7 => ?_)
  have q_8 : v_7.toInt = i.toInt + 3 := by rw [ev_7]; have k1 : (3 : Int32).toInt = 3 := (by decide); exact (bn_addI (by omega) (by omega)).trans (by omega)
  refine va_sld hx hb hXs hbl hbA hS (i := v_7) (vp_in_iff.mpr ⟨by omega, by omega⟩) dL_law_735 ?_
  refine lv_topi (fun v_9 ev_9 => ?_)
  refine lw_callI (va_runV (As := [.int v_3, .int v_6, .int v_9]) (rest := []) ⟨hx, hb, hml, hown, hts⟩ (kX11_pays l D ca za hX hhX fX LX QX hIX (v_3) (v_6) (v_9) H.size) (cwV 3 hts (gw_V (fun _ h => h) mw_1082 mw_1083 mw_1084 mw_37 mw_1081) rfl rfl rfl (by decide +kernel) ⟨Nat.le_of_ble_eq_true rfl, Nat.le_of_ble_eq_true rfl⟩) (sg_preV (ci := 11) (C := RX11) (T := TX11) (N := 10) hAX hK hPX hS hZ 0 (by decide) rfl rfl) rfl rfl hl.1 rfl (lv_room (Nat.le_of_ble_eq_true rfl)) dL_law_736 hcl) hAX hS (fun r1 fX1 LX1 QX1 H locs hqr1 hP1 hkr1 hS => ?_)
  have hPX := hP1
  have hPM := lw_kept hPM hdis hkr1
  obtain ⟨⟨hIX, hkX, eLX, eQX⟩, hvr1, hur1⟩ := hqr1
  rw [eLX, eQX] at hPX
  have hJX : JX fX1 := JX.fr hJX hkX (fun _ => rfl) (fun _ => rfl) (fun _ => rfl) (by intro t j ht; rcases (show t = 0 ∨ t = 1 ∨ t = 2 ∨ t = 3 ∨ t = 4 ∨ t = 5 by omega) with rfl | rfl | rfl | rfl | rfl | rfl <;> rfl)
  refine lv_pop hx hb dL_law_739 rfl ?_
  refine lv_aload_n hx hb dL_law_740 rfl (lv_at hl 2 rfl) ?_
  refine lv_aload_n hx hb dL_law_741 rfl (lv_at hl 0 rfl) ?_
  refine lv_iload_n hx hb dL_law_742 rfl (lv_at hl 3 rfl) ?_
  refine lv_iconst (v := 1) hx hb dL_law_743 (by decide) ?_
  refine lv_iadd hx hb dL_law_744 ?_
  rw [← ev_1]
  refine va_sld hx hb hXs hbl hbA hS (i := v_1) (vp_in_iff.mpr ⟨by omega, by omega⟩) dL_law_745 ?_
  rw [← ev_3]
  refine lv_aload_n hx hb dL_law_746 rfl (lv_at hl 0 rfl) ?_
  refine lv_iload_n hx hb dL_law_747 rfl (lv_at hl 3 rfl) ?_
  refine lv_iconst (v := 2) hx hb dL_law_748 (by decide) ?_
  refine lv_iadd hx hb dL_law_749 ?_
  rw [← ev_4]
  refine va_sld hx hb hXs hbl hbA hS (i := v_4) (vp_in_iff.mpr ⟨by omega, by omega⟩) dL_law_750 ?_
  rw [← ev_6]
  refine lv_aload_n hx hb dL_law_751 rfl (lv_at hl 0 rfl) ?_
  refine lv_iload_n hx hb dL_law_752 rfl (lv_at hl 3 rfl) ?_
  refine lv_iconst (v := 3) hx hb dL_law_753 (by decide) ?_
  refine lv_iadd hx hb dL_law_754 ?_
  rw [← ev_7]
  refine va_sld hx hb hXs hbl hbA hS (i := v_7) (vp_in_iff.mpr ⟨by omega, by omega⟩) dL_law_755 ?_
  rw [← ev_9]
  refine lw_callI (va_runV (As := [.int v_3, .int v_6, .int v_9]) (rest := []) ⟨hx, hb, hml, hown, hts⟩ (kX12_pays l D ca za hM hhM fM LM QM hIM (v_3) (v_6) (v_9) H.size) (cwV 3 hts (gw_V (fun _ h => h) mw_1086 mw_1087 mw_1088 mw_619 mw_1085) rfl rfl rfl (by decide +kernel) ⟨Nat.le_of_ble_eq_true rfl, Nat.le_of_ble_eq_true rfl⟩) (sg_preV (ci := 12) (C := RX12) (T := TX12) (N := 55) hAM hK hPM hS (show sgZ zcM za (fun q => s.heap.size ≤ q) s.heap.size s from fun i q h => by simp [zcM] at h) 0 (by decide) rfl rfl) rfl rfl hl.1 rfl (lv_room (Nat.le_of_ble_eq_true rfl)) dL_law_756 hcl) hAM hS (fun r2 fM1 LM1 QM1 H locs hqr2 hP1 hkr2 hS => ?_)
  have hPM := hP1
  have hPX := lw_kept hPX hdis2 hkr2
  obtain ⟨⟨hIM, hkM, eLM, eQM⟩, hvr2, hur2⟩ := hqr2
  rw [eLM, eQM] at hPM
  have hJM : JM fM1 := JM.fr hJM hkM (fun _ => rfl) (fun _ => rfl) (fun _ => rfl) rfl rfl
  refine lv_pop hx hb dL_law_759 rfl ?_
  refine lv_goto (tgt := 1578) hx hb dL_law_760 (by decide) ?_
  exact hJ _ _ _ _ _ _ _ _ _ ⟨hIX, hJX, hIM, hJM, ⟨rDesk.fr hR.1 (hkX 36 2 (by decide)) (fun j => hkX 37 j (by rfl)) (hkM 0 45 (by decide)) (fun j => hkM 20 j (by rfl)), rTrace.fr hR.2.1 (hkX 36 3 (by decide)) (fun j => hkX 38 j (by rfl)) (hkM 0 48 (by decide)) (fun j => hkM 21 j (by rfl)), rShelf.fr hR.2.2.1 (fun t j => hkX _ _ (sgin_lo (c := 40) (by decide) (by omega))) (hkX 36 2 (by decide)) (fun j => hkM 22 j (by rfl)) (fun j => hkM 23 j (by rfl)), rEl.fr hR.2.2.2.1 (fun t j => hkX _ _ (sgin_lo (c := 40) (by decide) (by omega))), rNum.fr hR.2.2.2.2.1 (hkX 1 3 (by decide)) (fun j => hkX 2 j (by rfl)) (hkM 0 6 (by decide)) (fun j => hkM 1 j (by rfl)), rChg.fr hR.2.2.2.2.2.1 (hkX 1 3 (by decide)) (hkX 32 3 (by decide)) (hkX 32 4 (by decide)) (fun j => hkX 33 j (by rfl)) (fun j => hkX 34 j (by rfl)) (fun j => hkX 35 j (by rfl)) (hkM 0 5 (by decide)) (hkM 0 4 (by decide)) (fun j => hkM 2 j (by rfl)) (fun j => hkM 3 j (by rfl)) (fun j => hkM 4 j (by rfl)), rByte.fr hR.2.2.2.2.2.2.1 (fun t j => hkX _ _ (sgin_lo (c := 40) (by decide) (by omega))), rTape.fr hR.2.2.2.2.2.2.2.1 (hkX 4 1 (by decide)) (fun j => hkX 5 j (by rfl)) (hkM 0 9 (by decide)) (fun j => hkM 6 j (by rfl)), (hR.2.2.2.2.2.2.2.2.1.used hR.2.2.2.2.1 (fun hl T n hm hq hc hC => (t_pays ⟨hR.2.2.2.2.1, hR.2.2.1, hR.2.2.2.1, hR.2.2.2.2.2.2.1, hR.2.2.2.2.2.2.2.2.2.1, hR.2.2.2.2.2.2.2.2.2.2.1, hIX0⟩ hm hq hc hC hur1 hur2).2.1) (hkX 4 2 (by decide)) (hkX 4 9 (by decide)) (fun j => hkX 7 j (by rfl)) (hkX 1 3 (by decide)) (fun j => hkX 2 j (by rfl)) (hkX 32 4 (by decide)) (fun j => hkX 33 j (by rfl)) (fun j => hkX 34 j (by rfl)) (fun j => hkX 35 j (by rfl)) (hkM 0 11 (by decide)) (fun j => hkM 7 j (by rfl))), rSt.fr hR.2.2.2.2.2.2.2.2.2.1 (fun j => hkX 3 j (by rfl)) (fun j => hkM 5 j (by rfl)), (hR.2.2.2.2.2.2.2.2.1.two hR.2.2.2.2.1 (fun hl T n hm hq hc hC => (t_pays ⟨hR.2.2.2.2.1, hR.2.2.1, hR.2.2.2.1, hR.2.2.2.2.2.2.1, hR.2.2.2.2.2.2.2.2.2.1, hR.2.2.2.2.2.2.2.2.2.2.1, hIX0⟩ hm hq hc hC hur1 hur2).2.2)), rIm.fr hR.2.2.2.2.2.2.2.2.2.2.2 (hkX 29 0 (by decide)) (hkX 28 5 (by decide)) (hkX 30 0 (by decide)) (fun j => hkX 31 j (by rfl)) (hkM 0 38 (by decide)) (hkM 0 43 (by decide)) (fun j => hkM 19 j (by rfl))⟩⟩ hPX hPM hS (lv_sub hl [0, 1, 2, 3] rfl)

set_option maxHeartbeats 4000000 in
set_option maxRecDepth 100000 in
theorem lc_15 {p : Program} {e : Env} {s : State} {m : MethodId} {below : List Frame} {meth : Method} {cd : Code} {Qz : State → Prop} (l : Launch) {b : Nat} {N : Nat} {xs : Nat → Int32} {D : va_G} {ca : Nat → ClassId} {za hX hM : Nat → Nat} {cells slots : Nat} {H : Heap} {locs : List Loc} {ls : Array Slot} {i : Int32} {fX fM : sg_F} {LX LM : sg_L} {QX QM : sg_Q} (hx : p.tables.exec = Jvm.exec) (hb : cd.code = code) (hml : cd.maxLocals = 4) (hown : s.vm.findClass R_law = some m.cls) (hts : ∀ w ∈ gwL, w.before #[Value.ref b] s = true) (hXs : va_X b N xs s s.heap) (hN : N ≤ 3072) (hi : 0 ≤ i.toInt ∧ i.toInt + 6 ≤ (N : Int)) (hbl : b < s.heap.size) (hK : va_K D vwCl (tyX ca) s) (hZ : sgZ zcX za (fun q => s.heap.size ≤ q) s.heap.size s) (hhX : sgH 52 hX) (hhM : sgH 26 hM) (hAX : sgY (fun q => s.heap.size ≤ q) 52 hX s.heap.size) (hAM : sgY (fun q => s.heap.size ≤ q) 26 hM s.heap.size) (hdis : ∀ i j : Nat, i < 52 → j < 26 → hX i ≠ hM j) (hdis2 : ∀ i j : Nat, i < 26 → j < 52 → hM i ≠ hX j) (hcl : cells ≤ room_1.cells ∧ slots ≤ room_1.slots) (hV : lwInv fX LX QX fM LM QM) (hPX : va_P D vwCl (sgw 52 hX (eX ca hX) fX LX QX) H) (hPM : va_P D vwCl (sgw 26 hM (eM ca hM) fM LM QM) H) (hS : va_S (fun q => s.heap.size ≤ q) s.heap H locs) (hl : lv_has ls 4 [(0, .ref b), (1, .ref (hX 0)), (2, .ref (hM 0)), (3, .int i)]) (hJ : ∀ (fX : sg_F) (LX : sg_L) (QX : sg_Q) (fM : sg_F) (LM : sg_L) (QM : sg_Q) (H : Heap) (locs : List Loc) (ls : Array Slot), lwInv fX LX QX fM LM QM → va_P D vwCl (sgw 52 hX (eX ca hX) fX LX QX) H → va_P D vwCl (sgw 26 hM (eM ca hM) fM LM QM) H → va_S (fun q => s.heap.size ≤ q) s.heap H locs → lv_has ls 4 [(0, .ref b), (1, .ref (hX 0)), (2, .ref (hM 0)), (3, .int i)] → W p l e room_1 s m #[Value.ref b] below meth cd H locs cells slots Qz (F0 m 1578 ls [])) : W p l e room_1 s m #[Value.ref b] below meth cd H locs cells slots Qz (F0 m 763 ls []) := by
  have hbA : ¬ (fun q => s.heap.size ≤ q) b := Nat.not_le.mpr hbl
  have hown : s.vm.findClass RL = some m.cls := hown
  obtain ⟨hIX, hJX, hIM, hJM, hR⟩ := hV
  have hIX0 := hIX; have hIM0 := hIM; have hJM0 := hJM
  refine lv_aload_n hx hb dL_law_763 rfl (lv_at hl 1 rfl) ?_
  refine lv_aload_n hx hb dL_law_764 rfl (lv_at hl 0 rfl) ?_
  refine lv_iload_n hx hb dL_law_765 rfl (lv_at hl 3 rfl) ?_
  refine lv_iconst (v := 1) hx hb dL_law_766 (by decide) ?_
  refine lv_iadd hx hb dL_law_767 ?_
  refine lv_topi (fun v_1 ev_1 => ?_)
  have q_2 : v_1.toInt = i.toInt + 1 := by rw [ev_1]; have k1 : (1 : Int32).toInt = 1 := (by decide); exact (bn_addI (by omega) (by omega)).trans (by omega)
  refine va_sld hx hb hXs hbl hbA hS (i := v_1) (vp_in_iff.mpr ⟨by omega, by omega⟩) dL_law_768 ?_
  refine lv_topi (fun v_3 ev_3 => ?_)
  refine lv_aload_n hx hb dL_law_769 rfl (lv_at hl 0 rfl) ?_
  refine lv_iload_n hx hb dL_law_770 rfl (lv_at hl 3 rfl) ?_
  refine lv_iconst (v := 2) hx hb dL_law_771 (by decide) ?_
  refine lv_iadd hx hb dL_law_772 ?_
  refine lv_topi (fun v_4 ev_4 => ?_)
  have q_5 : v_4.toInt = i.toInt + 2 := by rw [ev_4]; have k1 : (2 : Int32).toInt = 2 := (by decide); exact (bn_addI (by omega) (by omega)).trans (by omega)
  refine va_sld hx hb hXs hbl hbA hS (i := v_4) (vp_in_iff.mpr ⟨by omega, by omega⟩) dL_law_773 ?_
  refine lv_topi (fun v_6 ev_6 => ?_)
  refine lv_aload_n hx hb dL_law_774 rfl (lv_at hl 0 rfl) ?_
  refine lv_iload_n hx hb dL_law_775 rfl (lv_at hl 3 rfl) ?_
  refine lv_iconst (v := 3) hx hb dL_law_776 (by decide) ?_
  refine lv_iadd hx hb dL_law_777 ?_
  refine lv_topi (fun v_7 ev_7 => ?_)
  have q_8 : v_7.toInt = i.toInt + 3 := by rw [ev_7]; have k1 : (3 : Int32).toInt = 3 := (by decide); exact (bn_addI (by omega) (by omega)).trans (by omega)
  refine va_sld hx hb hXs hbl hbA hS (i := v_7) (vp_in_iff.mpr ⟨by omega, by omega⟩) dL_law_778 ?_
  refine lv_topi (fun v_9 ev_9 => ?_)
  refine lw_callI (va_runV (As := [.int v_3, .int v_6, .int v_9]) (rest := []) ⟨hx, hb, hml, hown, hts⟩ (kX11_memories l D ca za hX hhX fX LX QX hIX (v_3) (v_6) (v_9) H.size) (cwV 3 hts (gw_V (fun _ h => h) mw_1090 mw_1091 mw_1092 mw_37 mw_1089) rfl rfl rfl (by decide +kernel) ⟨Nat.le_of_ble_eq_true rfl, Nat.le_of_ble_eq_true rfl⟩) (sg_preV (ci := 11) (C := RX11) (T := TX11) (N := 10) hAX hK hPX hS hZ 0 (by decide) rfl rfl) rfl rfl hl.1 rfl (lv_room (Nat.le_of_ble_eq_true rfl)) dL_law_779 hcl) hAX hS (fun r1 fX1 LX1 QX1 H locs hqr1 hP1 hkr1 hS => ?_)
  have hPX := hP1
  have hPM := lw_kept hPM hdis hkr1
  obtain ⟨⟨hIX, hkX, eLX, eQX⟩, hvr1, hur1⟩ := hqr1
  rw [eLX, eQX] at hPX
  have hJX : JX fX1 := JX.fr hJX hkX (fun _ => rfl) (fun _ => rfl) (fun _ => rfl) (by intro t j ht; rcases (show t = 0 ∨ t = 1 ∨ t = 2 ∨ t = 3 ∨ t = 4 ∨ t = 5 by omega) with rfl | rfl | rfl | rfl | rfl | rfl <;> rfl)
  refine lv_pop hx hb dL_law_782 rfl ?_
  refine lv_aload_n hx hb dL_law_783 rfl (lv_at hl 2 rfl) ?_
  refine lv_aload_n hx hb dL_law_784 rfl (lv_at hl 0 rfl) ?_
  refine lv_iload_n hx hb dL_law_785 rfl (lv_at hl 3 rfl) ?_
  refine lv_iconst (v := 1) hx hb dL_law_786 (by decide) ?_
  refine lv_iadd hx hb dL_law_787 ?_
  rw [← ev_1]
  refine va_sld hx hb hXs hbl hbA hS (i := v_1) (vp_in_iff.mpr ⟨by omega, by omega⟩) dL_law_788 ?_
  rw [← ev_3]
  refine lv_aload_n hx hb dL_law_789 rfl (lv_at hl 0 rfl) ?_
  refine lv_iload_n hx hb dL_law_790 rfl (lv_at hl 3 rfl) ?_
  refine lv_iconst (v := 2) hx hb dL_law_791 (by decide) ?_
  refine lv_iadd hx hb dL_law_792 ?_
  rw [← ev_4]
  refine va_sld hx hb hXs hbl hbA hS (i := v_4) (vp_in_iff.mpr ⟨by omega, by omega⟩) dL_law_793 ?_
  rw [← ev_6]
  refine lv_aload_n hx hb dL_law_794 rfl (lv_at hl 0 rfl) ?_
  refine lv_iload_n hx hb dL_law_795 rfl (lv_at hl 3 rfl) ?_
  refine lv_iconst (v := 3) hx hb dL_law_796 (by decide) ?_
  refine lv_iadd hx hb dL_law_797 ?_
  rw [← ev_7]
  refine va_sld hx hb hXs hbl hbA hS (i := v_7) (vp_in_iff.mpr ⟨by omega, by omega⟩) dL_law_798 ?_
  rw [← ev_9]
  refine lw_callI (va_runV (As := [.int v_3, .int v_6, .int v_9]) (rest := []) ⟨hx, hb, hml, hown, hts⟩ (kX12_memories l D ca za hM hhM fM LM QM hIM (v_3) (v_6) (v_9) H.size) (cwV 3 hts (gw_V (fun _ h => h) mw_1094 mw_1095 mw_1096 mw_619 mw_1093) rfl rfl rfl (by decide +kernel) ⟨Nat.le_of_ble_eq_true rfl, Nat.le_of_ble_eq_true rfl⟩) (sg_preV (ci := 12) (C := RX12) (T := TX12) (N := 55) hAM hK hPM hS (show sgZ zcM za (fun q => s.heap.size ≤ q) s.heap.size s from fun i q h => by simp [zcM] at h) 0 (by decide) rfl rfl) rfl rfl hl.1 rfl (lv_room (Nat.le_of_ble_eq_true rfl)) dL_law_799 hcl) hAM hS (fun r2 fM1 LM1 QM1 H locs hqr2 hP1 hkr2 hS => ?_)
  have hPM := hP1
  have hPX := lw_kept hPX hdis2 hkr2
  obtain ⟨⟨hIM, hkM, eLM, eQM⟩, hvr2, hur2⟩ := hqr2
  rw [eLM, eQM] at hPM
  have hJM : JM fM1 := JM.fr hJM hkM (fun _ => rfl) (fun _ => rfl) (fun _ => rfl) rfl rfl
  refine lv_pop hx hb dL_law_802 rfl ?_
  refine lv_goto (tgt := 1578) hx hb dL_law_803 (by decide) ?_
  exact hJ _ _ _ _ _ _ _ _ _ ⟨hIX, hJX, hIM, hJM, ⟨rDesk.fr hR.1 (hkX 36 2 (by decide)) (fun j => hkX 37 j (by rfl)) (hkM 0 45 (by decide)) (fun j => hkM 20 j (by rfl)), rTrace.fr hR.2.1 (hkX 36 3 (by decide)) (fun j => hkX 38 j (by rfl)) (hkM 0 48 (by decide)) (fun j => hkM 21 j (by rfl)), rShelf.fr hR.2.2.1 (fun t j => hkX _ _ (sgin_lo (c := 40) (by decide) (by omega))) (hkX 36 2 (by decide)) (fun j => hkM 22 j (by rfl)) (fun j => hkM 23 j (by rfl)), rEl.fr hR.2.2.2.1 (fun t j => hkX _ _ (sgin_lo (c := 40) (by decide) (by omega))), rNum.fr hR.2.2.2.2.1 (hkX 1 3 (by decide)) (fun j => hkX 2 j (by rfl)) (hkM 0 6 (by decide)) (fun j => hkM 1 j (by rfl)), rChg.fr hR.2.2.2.2.2.1 (hkX 1 3 (by decide)) (hkX 32 3 (by decide)) (hkX 32 4 (by decide)) (fun j => hkX 33 j (by rfl)) (fun j => hkX 34 j (by rfl)) (fun j => hkX 35 j (by rfl)) (hkM 0 5 (by decide)) (hkM 0 4 (by decide)) (fun j => hkM 2 j (by rfl)) (fun j => hkM 3 j (by rfl)) (fun j => hkM 4 j (by rfl)), rByte.fr hR.2.2.2.2.2.2.1 (fun t j => hkX _ _ (sgin_lo (c := 40) (by decide) (by omega))), rTape.fr hR.2.2.2.2.2.2.2.1 (hkX 4 1 (by decide)) (fun j => hkX 5 j (by rfl)) (hkM 0 9 (by decide)) (fun j => hkM 6 j (by rfl)), (hR.2.2.2.2.2.2.2.2.1.used hR.2.2.2.2.1 (fun hl T n hm hq hc hC => (t_memories ⟨hR.2.2.2.2.1, hR.2.2.1, hR.2.2.2.1, hR.2.2.2.2.2.2.1, hR.2.2.2.2.2.2.2.2.2.1, hR.2.2.2.2.2.2.2.2.2.2.1, hIX0⟩ hm hq hc hC hur1 hur2).2.1) (hkX 4 2 (by decide)) (hkX 4 9 (by decide)) (fun j => hkX 7 j (by rfl)) (hkX 1 3 (by decide)) (fun j => hkX 2 j (by rfl)) (hkX 32 4 (by decide)) (fun j => hkX 33 j (by rfl)) (fun j => hkX 34 j (by rfl)) (fun j => hkX 35 j (by rfl)) (hkM 0 11 (by decide)) (fun j => hkM 7 j (by rfl))), rSt.fr hR.2.2.2.2.2.2.2.2.2.1 (fun j => hkX 3 j (by rfl)) (fun j => hkM 5 j (by rfl)), (hR.2.2.2.2.2.2.2.2.1.two hR.2.2.2.2.1 (fun hl T n hm hq hc hC => (t_memories ⟨hR.2.2.2.2.1, hR.2.2.1, hR.2.2.2.1, hR.2.2.2.2.2.2.1, hR.2.2.2.2.2.2.2.2.2.1, hR.2.2.2.2.2.2.2.2.2.2.1, hIX0⟩ hm hq hc hC hur1 hur2).2.2)), rIm.fr hR.2.2.2.2.2.2.2.2.2.2.2 (hkX 29 0 (by decide)) (hkX 28 5 (by decide)) (hkX 30 0 (by decide)) (fun j => hkX 31 j (by rfl)) (hkM 0 38 (by decide)) (hkM 0 43 (by decide)) (fun j => hkM 19 j (by rfl))⟩⟩ hPX hPM hS (lv_sub hl [0, 1, 2, 3] rfl)

set_option maxHeartbeats 4000000 in
set_option maxRecDepth 100000 in
theorem lc_16 {p : Program} {e : Env} {s : State} {m : MethodId} {below : List Frame} {meth : Method} {cd : Code} {Qz : State → Prop} (l : Launch) {b : Nat} {N : Nat} {xs : Nat → Int32} {D : va_G} {ca : Nat → ClassId} {za hX hM : Nat → Nat} {cells slots : Nat} {H : Heap} {locs : List Loc} {ls : Array Slot} {i : Int32} {fX fM : sg_F} {LX LM : sg_L} {QX QM : sg_Q} (hx : p.tables.exec = Jvm.exec) (hb : cd.code = code) (hml : cd.maxLocals = 4) (hown : s.vm.findClass R_law = some m.cls) (hts : ∀ w ∈ gwL, w.before #[Value.ref b] s = true) (hXs : va_X b N xs s s.heap) (hN : N ≤ 3072) (hi : 0 ≤ i.toInt ∧ i.toInt + 6 ≤ (N : Int)) (hbl : b < s.heap.size) (hK : va_K D vwCl (tyX ca) s) (hZ : sgZ zcX za (fun q => s.heap.size ≤ q) s.heap.size s) (hhX : sgH 52 hX) (hhM : sgH 26 hM) (hAX : sgY (fun q => s.heap.size ≤ q) 52 hX s.heap.size) (hAM : sgY (fun q => s.heap.size ≤ q) 26 hM s.heap.size) (hdis : ∀ i j : Nat, i < 52 → j < 26 → hX i ≠ hM j) (hdis2 : ∀ i j : Nat, i < 26 → j < 52 → hM i ≠ hX j) (hcl : cells ≤ room_1.cells ∧ slots ≤ room_1.slots) (hV : lwInv fX LX QX fM LM QM) (hPX : va_P D vwCl (sgw 52 hX (eX ca hX) fX LX QX) H) (hPM : va_P D vwCl (sgw 26 hM (eM ca hM) fM LM QM) H) (hS : va_S (fun q => s.heap.size ≤ q) s.heap H locs) (hl : lv_has ls 4 [(0, .ref b), (1, .ref (hX 0)), (2, .ref (hM 0)), (3, .int i)]) (hJ : ∀ (fX : sg_F) (LX : sg_L) (QX : sg_Q) (fM : sg_F) (LM : sg_L) (QM : sg_Q) (H : Heap) (locs : List Loc) (ls : Array Slot), lwInv fX LX QX fM LM QM → va_P D vwCl (sgw 52 hX (eX ca hX) fX LX QX) H → va_P D vwCl (sgw 26 hM (eM ca hM) fM LM QM) H → va_S (fun q => s.heap.size ≤ q) s.heap H locs → lv_has ls 4 [(0, .ref b), (1, .ref (hX 0)), (2, .ref (hM 0)), (3, .int i)] → W p l e room_1 s m #[Value.ref b] below meth cd H locs cells slots Qz (F0 m 1578 ls [])) : W p l e room_1 s m #[Value.ref b] below meth cd H locs cells slots Qz (F0 m 806 ls []) := by
  have hbA : ¬ (fun q => s.heap.size ≤ q) b := Nat.not_le.mpr hbl
  have hown : s.vm.findClass RL = some m.cls := hown
  obtain ⟨hIX, hJX, hIM, hJM, hR⟩ := hV
  have hIX0 := hIX; have hIM0 := hIM; have hJM0 := hJM
  refine lv_aload_n hx hb dL_law_806 rfl (lv_at hl 1 rfl) ?_
  refine lv_aload_n hx hb dL_law_807 rfl (lv_at hl 0 rfl) ?_
  refine lv_iload_n hx hb dL_law_808 rfl (lv_at hl 3 rfl) ?_
  refine lv_iconst (v := 1) hx hb dL_law_809 (by decide) ?_
  refine lv_iadd hx hb dL_law_810 ?_
  refine lv_topi (fun v_1 ev_1 => ?_)
  have q_2 : v_1.toInt = i.toInt + 1 := by rw [ev_1]; have k1 : (1 : Int32).toInt = 1 := (by decide); exact (bn_addI (by omega) (by omega)).trans (by omega)
  refine va_sld hx hb hXs hbl hbA hS (i := v_1) (vp_in_iff.mpr ⟨by omega, by omega⟩) dL_law_811 ?_
  refine lv_topi (fun v_3 ev_3 => ?_)
  refine lw_callI (va_runV (As := [.int v_3]) (rest := []) ⟨hx, hb, hml, hown, hts⟩ (kX11_marked l D ca za hX hhX fX LX QX hIX (v_3) H.size) (cwV 1 hts (gw_V (fun _ h => h) mw_1098 mw_1099 mw_1100 mw_37 mw_1097) rfl rfl rfl (by decide +kernel) ⟨Nat.le_of_ble_eq_true rfl, Nat.le_of_ble_eq_true rfl⟩) (sg_preV (ci := 11) (C := RX11) (T := TX11) (N := 10) hAX hK hPX hS hZ 0 (by decide) rfl rfl) rfl rfl hl.1 rfl (lv_room (Nat.le_of_ble_eq_true rfl)) dL_law_812 hcl) hAX hS (fun r1 fX1 LX1 QX1 H locs hqr1 hP1 hkr1 hS => ?_)
  have hPX := hP1
  have hPM := lw_kept hPM hdis hkr1
  obtain ⟨⟨hIX, hkX, eLX, eQX⟩, hvr1, hur1⟩ := hqr1
  rw [eLX, eQX] at hPX
  have hJX : JX fX1 := JX.fr hJX hkX (fun _ => rfl) (fun _ => rfl) (fun _ => rfl) (by intro t j ht; rcases (show t = 0 ∨ t = 1 ∨ t = 2 ∨ t = 3 ∨ t = 4 ∨ t = 5 by omega) with rfl | rfl | rfl | rfl | rfl | rfl <;> rfl)
  refine lv_pop hx hb dL_law_815 rfl ?_
  refine lv_aload_n hx hb dL_law_816 rfl (lv_at hl 2 rfl) ?_
  refine lv_aload_n hx hb dL_law_817 rfl (lv_at hl 0 rfl) ?_
  refine lv_iload_n hx hb dL_law_818 rfl (lv_at hl 3 rfl) ?_
  refine lv_iconst (v := 1) hx hb dL_law_819 (by decide) ?_
  refine lv_iadd hx hb dL_law_820 ?_
  rw [← ev_1]
  refine va_sld hx hb hXs hbl hbA hS (i := v_1) (vp_in_iff.mpr ⟨by omega, by omega⟩) dL_law_821 ?_
  rw [← ev_3]
  refine lw_callI (va_runV (As := [.int v_3]) (rest := []) ⟨hx, hb, hml, hown, hts⟩ (kX12_marked l D ca za hM hhM fM LM QM hIM (v_3) H.size) (cwV 1 hts (gw_V (fun _ h => h) mw_1102 mw_1103 mw_1104 mw_619 mw_1101) rfl rfl rfl (by decide +kernel) ⟨Nat.le_of_ble_eq_true rfl, Nat.le_of_ble_eq_true rfl⟩) (sg_preV (ci := 12) (C := RX12) (T := TX12) (N := 55) hAM hK hPM hS (show sgZ zcM za (fun q => s.heap.size ≤ q) s.heap.size s from fun i q h => by simp [zcM] at h) 0 (by decide) rfl rfl) rfl rfl hl.1 rfl (lv_room (Nat.le_of_ble_eq_true rfl)) dL_law_822 hcl) hAM hS (fun r2 fM1 LM1 QM1 H locs hqr2 hP1 hkr2 hS => ?_)
  have hPM := hP1
  have hPX := lw_kept hPX hdis2 hkr2
  obtain ⟨⟨hIM, hkM, eLM, eQM⟩, hvr2, hur2⟩ := hqr2
  rw [eLM, eQM] at hPM
  have hJM : JM fM1 := JM.fr hJM hkM (fun _ => rfl) (fun _ => rfl) (fun _ => rfl) rfl rfl
  refine lv_pop hx hb dL_law_825 rfl ?_
  refine lv_goto (tgt := 1578) hx hb dL_law_826 (by decide) ?_
  exact hJ _ _ _ _ _ _ _ _ _ ⟨hIX, hJX, hIM, hJM, ⟨rDesk.fr hR.1 (hkX 36 2 (by decide)) (fun j => hkX 37 j (by rfl)) (hkM 0 45 (by decide)) (fun j => hkM 20 j (by rfl)), rTrace.fr hR.2.1 (hkX 36 3 (by decide)) (fun j => hkX 38 j (by rfl)) (hkM 0 48 (by decide)) (fun j => hkM 21 j (by rfl)), rShelf.fr hR.2.2.1 (fun t j => hkX _ _ (sgin_lo (c := 40) (by decide) (by omega))) (hkX 36 2 (by decide)) (fun j => hkM 22 j (by rfl)) (fun j => hkM 23 j (by rfl)), rEl.fr hR.2.2.2.1 (fun t j => hkX _ _ (sgin_lo (c := 40) (by decide) (by omega))), rNum.fr hR.2.2.2.2.1 (hkX 1 3 (by decide)) (fun j => hkX 2 j (by rfl)) (hkM 0 6 (by decide)) (fun j => hkM 1 j (by rfl)), rChg.fr hR.2.2.2.2.2.1 (hkX 1 3 (by decide)) (hkX 32 3 (by decide)) (hkX 32 4 (by decide)) (fun j => hkX 33 j (by rfl)) (fun j => hkX 34 j (by rfl)) (fun j => hkX 35 j (by rfl)) (hkM 0 5 (by decide)) (hkM 0 4 (by decide)) (fun j => hkM 2 j (by rfl)) (fun j => hkM 3 j (by rfl)) (fun j => hkM 4 j (by rfl)), rByte.fr hR.2.2.2.2.2.2.1 (fun t j => hkX _ _ (sgin_lo (c := 40) (by decide) (by omega))), rTape.fr hR.2.2.2.2.2.2.2.1 (hkX 4 1 (by decide)) (fun j => hkX 5 j (by rfl)) (hkM 0 9 (by decide)) (fun j => hkM 6 j (by rfl)), (hR.2.2.2.2.2.2.2.2.1.used hR.2.2.2.2.1 (fun hl T n hm hq hc hC => (t_marked ⟨hR.2.2.2.2.1, hR.2.2.1, hR.2.2.2.1, hR.2.2.2.2.2.2.1, hR.2.2.2.2.2.2.2.2.2.1, hR.2.2.2.2.2.2.2.2.2.2.1, hIX0⟩ hm hq hc hC hur1 hur2).2.1) (hkX 4 2 (by decide)) (hkX 4 9 (by decide)) (fun j => hkX 7 j (by rfl)) (hkX 1 3 (by decide)) (fun j => hkX 2 j (by rfl)) (hkX 32 4 (by decide)) (fun j => hkX 33 j (by rfl)) (fun j => hkX 34 j (by rfl)) (fun j => hkX 35 j (by rfl)) (hkM 0 11 (by decide)) (fun j => hkM 7 j (by rfl))), rSt.fr hR.2.2.2.2.2.2.2.2.2.1 (fun j => hkX 3 j (by rfl)) (fun j => hkM 5 j (by rfl)), (hR.2.2.2.2.2.2.2.2.1.two hR.2.2.2.2.1 (fun hl T n hm hq hc hC => (t_marked ⟨hR.2.2.2.2.1, hR.2.2.1, hR.2.2.2.1, hR.2.2.2.2.2.2.1, hR.2.2.2.2.2.2.2.2.2.1, hR.2.2.2.2.2.2.2.2.2.2.1, hIX0⟩ hm hq hc hC hur1 hur2).2.2)), rIm.fr hR.2.2.2.2.2.2.2.2.2.2.2 (hkX 29 0 (by decide)) (hkX 28 5 (by decide)) (hkX 30 0 (by decide)) (fun j => hkX 31 j (by rfl)) (hkM 0 38 (by decide)) (hkM 0 43 (by decide)) (fun j => hkM 19 j (by rfl))⟩⟩ hPX hPM hS (lv_sub hl [0, 1, 2, 3] rfl)

set_option maxHeartbeats 4000000 in
set_option maxRecDepth 100000 in
theorem lc_17 {p : Program} {e : Env} {s : State} {m : MethodId} {below : List Frame} {meth : Method} {cd : Code} {Qz : State → Prop} (l : Launch) {b : Nat} {N : Nat} {xs : Nat → Int32} {D : va_G} {ca : Nat → ClassId} {za hX hM : Nat → Nat} {cells slots : Nat} {H : Heap} {locs : List Loc} {ls : Array Slot} {i : Int32} {fX fM : sg_F} {LX LM : sg_L} {QX QM : sg_Q} (hx : p.tables.exec = Jvm.exec) (hb : cd.code = code) (hml : cd.maxLocals = 4) (hown : s.vm.findClass R_law = some m.cls) (hts : ∀ w ∈ gwL, w.before #[Value.ref b] s = true) (hXs : va_X b N xs s s.heap) (hN : N ≤ 3072) (hi : 0 ≤ i.toInt ∧ i.toInt + 6 ≤ (N : Int)) (hbl : b < s.heap.size) (hK : va_K D vwCl (tyX ca) s) (hZ : sgZ zcX za (fun q => s.heap.size ≤ q) s.heap.size s) (hhX : sgH 52 hX) (hhM : sgH 26 hM) (hAX : sgY (fun q => s.heap.size ≤ q) 52 hX s.heap.size) (hAM : sgY (fun q => s.heap.size ≤ q) 26 hM s.heap.size) (hdis : ∀ i j : Nat, i < 52 → j < 26 → hX i ≠ hM j) (hdis2 : ∀ i j : Nat, i < 26 → j < 52 → hM i ≠ hX j) (hcl : cells ≤ room_1.cells ∧ slots ≤ room_1.slots) (hV : lwInv fX LX QX fM LM QM) (hPX : va_P D vwCl (sgw 52 hX (eX ca hX) fX LX QX) H) (hPM : va_P D vwCl (sgw 26 hM (eM ca hM) fM LM QM) H) (hS : va_S (fun q => s.heap.size ≤ q) s.heap H locs) (hl : lv_has ls 4 [(0, .ref b), (1, .ref (hX 0)), (2, .ref (hM 0)), (3, .int i)]) (hJ : ∀ (fX : sg_F) (LX : sg_L) (QX : sg_Q) (fM : sg_F) (LM : sg_L) (QM : sg_Q) (H : Heap) (locs : List Loc) (ls : Array Slot), lwInv fX LX QX fM LM QM → va_P D vwCl (sgw 52 hX (eX ca hX) fX LX QX) H → va_P D vwCl (sgw 26 hM (eM ca hM) fM LM QM) H → va_S (fun q => s.heap.size ≤ q) s.heap H locs → lv_has ls 4 [(0, .ref b), (1, .ref (hX 0)), (2, .ref (hM 0)), (3, .int i)] → W p l e room_1 s m #[Value.ref b] below meth cd H locs cells slots Qz (F0 m 1578 ls [])) : W p l e room_1 s m #[Value.ref b] below meth cd H locs cells slots Qz (F0 m 829 ls []) := by
  have hbA : ¬ (fun q => s.heap.size ≤ q) b := Nat.not_le.mpr hbl
  have hown : s.vm.findClass RL = some m.cls := hown
  obtain ⟨hIX, hJX, hIM, hJM, hR⟩ := hV
  have hIX0 := hIX; have hIM0 := hIM; have hJM0 := hJM
  refine lv_aload_n hx hb dL_law_829 rfl (lv_at hl 1 rfl) ?_
  refine lv_aload_n hx hb dL_law_830 rfl (lv_at hl 0 rfl) ?_
  refine lv_iload_n hx hb dL_law_831 rfl (lv_at hl 3 rfl) ?_
  refine lv_iconst (v := 1) hx hb dL_law_832 (by decide) ?_
  refine lv_iadd hx hb dL_law_833 ?_
  refine lv_topi (fun v_1 ev_1 => ?_)
  have q_2 : v_1.toInt = i.toInt + 1 := by rw [ev_1]; have k1 : (1 : Int32).toInt = 1 := (by decide); exact (bn_addI (by omega) (by omega)).trans (by omega)
  refine va_sld hx hb hXs hbl hbA hS (i := v_1) (vp_in_iff.mpr ⟨by omega, by omega⟩) dL_law_834 ?_
  refine lv_topi (fun v_3 ev_3 => ?_)
  refine lv_aload_n hx hb dL_law_835 rfl (lv_at hl 0 rfl) ?_
  refine lv_iload_n hx hb dL_law_836 rfl (lv_at hl 3 rfl) ?_
  refine lv_iconst (v := 2) hx hb dL_law_837 (by decide) ?_
  refine lv_iadd hx hb dL_law_838 ?_
  refine lv_topi (fun v_4 ev_4 => ?_)
  have q_5 : v_4.toInt = i.toInt + 2 := by rw [ev_4]; have k1 : (2 : Int32).toInt = 2 := (by decide); exact (bn_addI (by omega) (by omega)).trans (by omega)
  refine va_sld hx hb hXs hbl hbA hS (i := v_4) (vp_in_iff.mpr ⟨by omega, by omega⟩) dL_law_839 ?_
  refine lv_topi (fun v_6 ev_6 => ?_)
  refine lv_aload_n hx hb dL_law_840 rfl (lv_at hl 0 rfl) ?_
  refine lv_iload_n hx hb dL_law_841 rfl (lv_at hl 3 rfl) ?_
  refine lv_iconst (v := 3) hx hb dL_law_842 (by decide) ?_
  refine lv_iadd hx hb dL_law_843 ?_
  refine lv_topi (fun v_7 ev_7 => ?_)
  have q_8 : v_7.toInt = i.toInt + 3 := by rw [ev_7]; have k1 : (3 : Int32).toInt = 3 := (by decide); exact (bn_addI (by omega) (by omega)).trans (by omega)
  refine va_sld hx hb hXs hbl hbA hS (i := v_7) (vp_in_iff.mpr ⟨by omega, by omega⟩) dL_law_844 ?_
  refine lv_topi (fun v_9 ev_9 => ?_)
  refine lw_callI (va_runV (As := [.int v_3, .int v_6, .int v_9]) (rest := []) ⟨hx, hb, hml, hown, hts⟩ (kX11_chairs l D ca za hX hhX fX LX QX hIX (v_3) (v_6) (v_9) H.size) (cwV 3 hts (gw_V (fun _ h => h) mw_1106 mw_1107 mw_1108 mw_37 mw_1105) rfl rfl rfl (by decide +kernel) ⟨Nat.le_of_ble_eq_true rfl, Nat.le_of_ble_eq_true rfl⟩) (sg_preV (ci := 11) (C := RX11) (T := TX11) (N := 10) hAX hK hPX hS hZ 0 (by decide) rfl rfl) rfl rfl hl.1 rfl (lv_room (Nat.le_of_ble_eq_true rfl)) dL_law_845 hcl) hAX hS (fun r1 fX1 LX1 QX1 H locs hqr1 hP1 hkr1 hS => ?_)
  have hPX := hP1
  have hPM := lw_kept hPM hdis hkr1
  obtain ⟨⟨hIX, hkX, eLX, eQX⟩, hvr1, hur1⟩ := hqr1
  rw [eLX, eQX] at hPX
  have hJX : JX fX1 := JX.fr hJX hkX (fun _ => rfl) (fun _ => rfl) (fun _ => rfl) (by intro t j ht; rcases (show t = 0 ∨ t = 1 ∨ t = 2 ∨ t = 3 ∨ t = 4 ∨ t = 5 by omega) with rfl | rfl | rfl | rfl | rfl | rfl <;> rfl)
  refine lv_pop hx hb dL_law_848 rfl ?_
  refine lv_aload_n hx hb dL_law_849 rfl (lv_at hl 2 rfl) ?_
  refine lv_aload_n hx hb dL_law_850 rfl (lv_at hl 0 rfl) ?_
  refine lv_iload_n hx hb dL_law_851 rfl (lv_at hl 3 rfl) ?_
  refine lv_iconst (v := 1) hx hb dL_law_852 (by decide) ?_
  refine lv_iadd hx hb dL_law_853 ?_
  rw [← ev_1]
  refine va_sld hx hb hXs hbl hbA hS (i := v_1) (vp_in_iff.mpr ⟨by omega, by omega⟩) dL_law_854 ?_
  rw [← ev_3]
  refine lv_aload_n hx hb dL_law_855 rfl (lv_at hl 0 rfl) ?_
  refine lv_iload_n hx hb dL_law_856 rfl (lv_at hl 3 rfl) ?_
  refine lv_iconst (v := 2) hx hb dL_law_857 (by decide) ?_
  refine lv_iadd hx hb dL_law_858 ?_
  rw [← ev_4]
  refine va_sld hx hb hXs hbl hbA hS (i := v_4) (vp_in_iff.mpr ⟨by omega, by omega⟩) dL_law_859 ?_
  rw [← ev_6]
  refine lv_aload_n hx hb dL_law_860 rfl (lv_at hl 0 rfl) ?_
  refine lv_iload_n hx hb dL_law_861 rfl (lv_at hl 3 rfl) ?_
  refine lv_iconst (v := 3) hx hb dL_law_862 (by decide) ?_
  refine lv_iadd hx hb dL_law_863 ?_
  rw [← ev_7]
  refine va_sld hx hb hXs hbl hbA hS (i := v_7) (vp_in_iff.mpr ⟨by omega, by omega⟩) dL_law_864 ?_
  rw [← ev_9]
  refine lw_callI (va_runV (As := [.int v_3, .int v_6, .int v_9]) (rest := []) ⟨hx, hb, hml, hown, hts⟩ (kX12_chairs l D ca za hM hhM fM LM QM hIM (v_3) (v_6) (v_9) H.size) (cwV 3 hts (gw_V (fun _ h => h) mw_1110 mw_1111 mw_1112 mw_619 mw_1109) rfl rfl rfl (by decide +kernel) ⟨Nat.le_of_ble_eq_true rfl, Nat.le_of_ble_eq_true rfl⟩) (sg_preV (ci := 12) (C := RX12) (T := TX12) (N := 55) hAM hK hPM hS (show sgZ zcM za (fun q => s.heap.size ≤ q) s.heap.size s from fun i q h => by simp [zcM] at h) 0 (by decide) rfl rfl) rfl rfl hl.1 rfl (lv_room (Nat.le_of_ble_eq_true rfl)) dL_law_865 hcl) hAM hS (fun r2 fM1 LM1 QM1 H locs hqr2 hP1 hkr2 hS => ?_)
  have hPM := hP1
  have hPX := lw_kept hPX hdis2 hkr2
  obtain ⟨⟨hIM, hkM, eLM, eQM⟩, hvr2, hur2⟩ := hqr2
  rw [eLM, eQM] at hPM
  have hJM : JM fM1 := JM.fr hJM hkM (fun _ => rfl) (fun _ => rfl) (fun _ => rfl) rfl rfl
  refine lv_pop hx hb dL_law_868 rfl ?_
  refine lv_goto (tgt := 1578) hx hb dL_law_869 (by decide) ?_
  exact hJ _ _ _ _ _ _ _ _ _ ⟨hIX, hJX, hIM, hJM, ⟨rDesk.fr hR.1 (hkX 36 2 (by decide)) (fun j => hkX 37 j (by rfl)) (hkM 0 45 (by decide)) (fun j => hkM 20 j (by rfl)), rTrace.fr hR.2.1 (hkX 36 3 (by decide)) (fun j => hkX 38 j (by rfl)) (hkM 0 48 (by decide)) (fun j => hkM 21 j (by rfl)), rShelf.fr hR.2.2.1 (fun t j => hkX _ _ (sgin_lo (c := 40) (by decide) (by omega))) (hkX 36 2 (by decide)) (fun j => hkM 22 j (by rfl)) (fun j => hkM 23 j (by rfl)), rEl.fr hR.2.2.2.1 (fun t j => hkX _ _ (sgin_lo (c := 40) (by decide) (by omega))), rNum.fr hR.2.2.2.2.1 (hkX 1 3 (by decide)) (fun j => hkX 2 j (by rfl)) (hkM 0 6 (by decide)) (fun j => hkM 1 j (by rfl)), rChg.fr hR.2.2.2.2.2.1 (hkX 1 3 (by decide)) (hkX 32 3 (by decide)) (hkX 32 4 (by decide)) (fun j => hkX 33 j (by rfl)) (fun j => hkX 34 j (by rfl)) (fun j => hkX 35 j (by rfl)) (hkM 0 5 (by decide)) (hkM 0 4 (by decide)) (fun j => hkM 2 j (by rfl)) (fun j => hkM 3 j (by rfl)) (fun j => hkM 4 j (by rfl)), rByte.fr hR.2.2.2.2.2.2.1 (fun t j => hkX _ _ (sgin_lo (c := 40) (by decide) (by omega))), rTape.fr hR.2.2.2.2.2.2.2.1 (hkX 4 1 (by decide)) (fun j => hkX 5 j (by rfl)) (hkM 0 9 (by decide)) (fun j => hkM 6 j (by rfl)), (hR.2.2.2.2.2.2.2.2.1.used hR.2.2.2.2.1 (fun hl T n hm hq hc hC => k_chairs ⟨hR.2.2.2.2.1, hR.2.2.1, hR.2.2.2.1, hR.2.2.2.2.2.2.1, hR.2.2.2.2.2.2.2.2.2.1, hR.2.2.2.2.2.2.2.2.2.2.1, hIX0⟩ hc hC hur1) (hkX 4 2 (by decide)) (hkX 4 9 (by decide)) (fun j => hkX 7 j (by rfl)) (hkX 1 3 (by decide)) (fun j => hkX 2 j (by rfl)) (hkX 32 4 (by decide)) (fun j => hkX 33 j (by rfl)) (fun j => hkX 34 j (by rfl)) (fun j => hkX 35 j (by rfl)) (hkM 0 11 (by decide)) (fun j => hkM 7 j (by rfl))), rSt.fr hR.2.2.2.2.2.2.2.2.2.1 (fun j => hkX 3 j (by rfl)) (fun j => hkM 5 j (by rfl)), rIdle.fr hR.2.2.2.2.2.2.2.2.2.2.1 (hkX 13 7 (by decide)) (hkX 13 9 (by decide)) (hkM 0 20 (by decide)) (hkM 0 22 (by decide)) (hkM 0 23 (by decide)) (hkM 0 24 (by decide)) (fun j => hkM 11 j (by rfl)), rIm.fr hR.2.2.2.2.2.2.2.2.2.2.2 (hkX 29 0 (by decide)) (hkX 28 5 (by decide)) (hkX 30 0 (by decide)) (fun j => hkX 31 j (by rfl)) (hkM 0 38 (by decide)) (hkM 0 43 (by decide)) (fun j => hkM 19 j (by rfl))⟩⟩ hPX hPM hS (lv_sub hl [0, 1, 2, 3] rfl)

set_option maxHeartbeats 4000000 in
set_option maxRecDepth 100000 in
theorem lc_18 {p : Program} {e : Env} {s : State} {m : MethodId} {below : List Frame} {meth : Method} {cd : Code} {Qz : State → Prop} (l : Launch) {b : Nat} {N : Nat} {xs : Nat → Int32} {D : va_G} {ca : Nat → ClassId} {za hX hM : Nat → Nat} {cells slots : Nat} {H : Heap} {locs : List Loc} {ls : Array Slot} {i : Int32} {fX fM : sg_F} {LX LM : sg_L} {QX QM : sg_Q} (hx : p.tables.exec = Jvm.exec) (hb : cd.code = code) (hml : cd.maxLocals = 4) (hown : s.vm.findClass R_law = some m.cls) (hts : ∀ w ∈ gwL, w.before #[Value.ref b] s = true) (hXs : va_X b N xs s s.heap) (hN : N ≤ 3072) (hi : 0 ≤ i.toInt ∧ i.toInt + 6 ≤ (N : Int)) (hbl : b < s.heap.size) (hK : va_K D vwCl (tyX ca) s) (hZ : sgZ zcX za (fun q => s.heap.size ≤ q) s.heap.size s) (hhX : sgH 52 hX) (hhM : sgH 26 hM) (hAX : sgY (fun q => s.heap.size ≤ q) 52 hX s.heap.size) (hAM : sgY (fun q => s.heap.size ≤ q) 26 hM s.heap.size) (hdis : ∀ i j : Nat, i < 52 → j < 26 → hX i ≠ hM j) (hdis2 : ∀ i j : Nat, i < 26 → j < 52 → hM i ≠ hX j) (hcl : cells ≤ room_1.cells ∧ slots ≤ room_1.slots) (hV : lwInv fX LX QX fM LM QM) (hPX : va_P D vwCl (sgw 52 hX (eX ca hX) fX LX QX) H) (hPM : va_P D vwCl (sgw 26 hM (eM ca hM) fM LM QM) H) (hS : va_S (fun q => s.heap.size ≤ q) s.heap H locs) (hl : lv_has ls 4 [(0, .ref b), (1, .ref (hX 0)), (2, .ref (hM 0)), (3, .int i)]) (hJ : ∀ (fX : sg_F) (LX : sg_L) (QX : sg_Q) (fM : sg_F) (LM : sg_L) (QM : sg_Q) (H : Heap) (locs : List Loc) (ls : Array Slot), lwInv fX LX QX fM LM QM → va_P D vwCl (sgw 52 hX (eX ca hX) fX LX QX) H → va_P D vwCl (sgw 26 hM (eM ca hM) fM LM QM) H → va_S (fun q => s.heap.size ≤ q) s.heap H locs → lv_has ls 4 [(0, .ref b), (1, .ref (hX 0)), (2, .ref (hM 0)), (3, .int i)] → W p l e room_1 s m #[Value.ref b] below meth cd H locs cells slots Qz (F0 m 1578 ls [])) : W p l e room_1 s m #[Value.ref b] below meth cd H locs cells slots Qz (F0 m 872 ls []) := by
  have hbA : ¬ (fun q => s.heap.size ≤ q) b := Nat.not_le.mpr hbl
  have hown : s.vm.findClass RL = some m.cls := hown
  obtain ⟨hIX, hJX, hIM, hJM, hR⟩ := hV
  have hIX0 := hIX; have hIM0 := hIM; have hJM0 := hJM
  refine lv_aload_n hx hb dL_law_872 rfl (lv_at hl 1 rfl) ?_
  refine lv_aload_n hx hb dL_law_873 rfl (lv_at hl 0 rfl) ?_
  refine lv_iload_n hx hb dL_law_874 rfl (lv_at hl 3 rfl) ?_
  refine lv_iconst (v := 1) hx hb dL_law_875 (by decide) ?_
  refine lv_iadd hx hb dL_law_876 ?_
  refine lv_topi (fun v_1 ev_1 => ?_)
  have q_2 : v_1.toInt = i.toInt + 1 := by rw [ev_1]; have k1 : (1 : Int32).toInt = 1 := (by decide); exact (bn_addI (by omega) (by omega)).trans (by omega)
  refine va_sld hx hb hXs hbl hbA hS (i := v_1) (vp_in_iff.mpr ⟨by omega, by omega⟩) dL_law_877 ?_
  refine lv_topi (fun v_3 ev_3 => ?_)
  refine lv_aload_n hx hb dL_law_878 rfl (lv_at hl 0 rfl) ?_
  refine lv_iload_n hx hb dL_law_879 rfl (lv_at hl 3 rfl) ?_
  refine lv_iconst (v := 2) hx hb dL_law_880 (by decide) ?_
  refine lv_iadd hx hb dL_law_881 ?_
  refine lv_topi (fun v_4 ev_4 => ?_)
  have q_5 : v_4.toInt = i.toInt + 2 := by rw [ev_4]; have k1 : (2 : Int32).toInt = 2 := (by decide); exact (bn_addI (by omega) (by omega)).trans (by omega)
  refine va_sld hx hb hXs hbl hbA hS (i := v_4) (vp_in_iff.mpr ⟨by omega, by omega⟩) dL_law_882 ?_
  refine lv_topi (fun v_6 ev_6 => ?_)
  refine lv_aload_n hx hb dL_law_883 rfl (lv_at hl 0 rfl) ?_
  refine lv_iload_n hx hb dL_law_884 rfl (lv_at hl 3 rfl) ?_
  refine lv_iconst (v := 3) hx hb dL_law_885 (by decide) ?_
  refine lv_iadd hx hb dL_law_886 ?_
  refine lv_topi (fun v_7 ev_7 => ?_)
  have q_8 : v_7.toInt = i.toInt + 3 := by rw [ev_7]; have k1 : (3 : Int32).toInt = 3 := (by decide); exact (bn_addI (by omega) (by omega)).trans (by omega)
  refine va_sld hx hb hXs hbl hbA hS (i := v_7) (vp_in_iff.mpr ⟨by omega, by omega⟩) dL_law_887 ?_
  refine lv_topi (fun v_9 ev_9 => ?_)
  refine lw_callI (va_runV (As := [.int v_3, .int v_6, .int v_9]) (rest := []) ⟨hx, hb, hml, hown, hts⟩ (kX11_wilful l D ca za hX hhX fX LX QX hIX (v_3) (v_6) (v_9) H.size) (cwV 3 hts (gw_V (fun _ h => h) mw_1114 mw_1115 mw_1116 mw_37 mw_1113) rfl rfl rfl (by decide +kernel) ⟨Nat.le_of_ble_eq_true rfl, Nat.le_of_ble_eq_true rfl⟩) (sg_preV (ci := 11) (C := RX11) (T := TX11) (N := 10) hAX hK hPX hS hZ 0 (by decide) rfl rfl) rfl rfl hl.1 rfl (lv_room (Nat.le_of_ble_eq_true rfl)) dL_law_888 hcl) hAX hS (fun r1 fX1 LX1 QX1 H locs hqr1 hP1 hkr1 hS => ?_)
  have hPX := hP1
  have hPM := lw_kept hPM hdis hkr1
  obtain ⟨⟨hIX, hkX, eLX, eQX⟩, hvr1, hur1⟩ := hqr1
  rw [eLX, eQX] at hPX
  have hJX : JX fX1 := JX.fr hJX hkX (fun _ => rfl) (fun _ => rfl) (fun _ => rfl) (by intro t j ht; rcases (show t = 0 ∨ t = 1 ∨ t = 2 ∨ t = 3 ∨ t = 4 ∨ t = 5 by omega) with rfl | rfl | rfl | rfl | rfl | rfl <;> rfl)
  refine lv_pop hx hb dL_law_891 rfl ?_
  refine lv_aload_n hx hb dL_law_892 rfl (lv_at hl 2 rfl) ?_
  refine lv_aload_n hx hb dL_law_893 rfl (lv_at hl 0 rfl) ?_
  refine lv_iload_n hx hb dL_law_894 rfl (lv_at hl 3 rfl) ?_
  refine lv_iconst (v := 1) hx hb dL_law_895 (by decide) ?_
  refine lv_iadd hx hb dL_law_896 ?_
  rw [← ev_1]
  refine va_sld hx hb hXs hbl hbA hS (i := v_1) (vp_in_iff.mpr ⟨by omega, by omega⟩) dL_law_897 ?_
  rw [← ev_3]
  refine lv_aload_n hx hb dL_law_898 rfl (lv_at hl 0 rfl) ?_
  refine lv_iload_n hx hb dL_law_899 rfl (lv_at hl 3 rfl) ?_
  refine lv_iconst (v := 2) hx hb dL_law_900 (by decide) ?_
  refine lv_iadd hx hb dL_law_901 ?_
  rw [← ev_4]
  refine va_sld hx hb hXs hbl hbA hS (i := v_4) (vp_in_iff.mpr ⟨by omega, by omega⟩) dL_law_902 ?_
  rw [← ev_6]
  refine lv_aload_n hx hb dL_law_903 rfl (lv_at hl 0 rfl) ?_
  refine lv_iload_n hx hb dL_law_904 rfl (lv_at hl 3 rfl) ?_
  refine lv_iconst (v := 3) hx hb dL_law_905 (by decide) ?_
  refine lv_iadd hx hb dL_law_906 ?_
  rw [← ev_7]
  refine va_sld hx hb hXs hbl hbA hS (i := v_7) (vp_in_iff.mpr ⟨by omega, by omega⟩) dL_law_907 ?_
  rw [← ev_9]
  refine lw_callI (va_runV (As := [.int v_3, .int v_6, .int v_9]) (rest := []) ⟨hx, hb, hml, hown, hts⟩ (kX12_wilful l D ca za hM hhM fM LM QM hIM (v_3) (v_6) (v_9) H.size) (cwV 3 hts (gw_V (fun _ h => h) mw_1118 mw_1119 mw_1120 mw_619 mw_1117) rfl rfl rfl (by decide +kernel) ⟨Nat.le_of_ble_eq_true rfl, Nat.le_of_ble_eq_true rfl⟩) (sg_preV (ci := 12) (C := RX12) (T := TX12) (N := 55) hAM hK hPM hS (show sgZ zcM za (fun q => s.heap.size ≤ q) s.heap.size s from fun i q h => by simp [zcM] at h) 0 (by decide) rfl rfl) rfl rfl hl.1 rfl (lv_room (Nat.le_of_ble_eq_true rfl)) dL_law_908 hcl) hAM hS (fun r2 fM1 LM1 QM1 H locs hqr2 hP1 hkr2 hS => ?_)
  have hPM := hP1
  have hPX := lw_kept hPX hdis2 hkr2
  obtain ⟨⟨hIM, hkM, eLM, eQM⟩, hvr2, hur2⟩ := hqr2
  rw [eLM, eQM] at hPM
  have hJM : JM fM1 := JM.fr hJM hkM (fun _ => rfl) (fun _ => rfl) (fun _ => rfl) rfl rfl
  refine lv_pop hx hb dL_law_911 rfl ?_
  refine lv_goto (tgt := 1578) hx hb dL_law_912 (by decide) ?_
  exact hJ _ _ _ _ _ _ _ _ _ ⟨hIX, hJX, hIM, hJM, ⟨rDesk.fr hR.1 (hkX 36 2 (by decide)) (fun j => hkX 37 j (by rfl)) (hkM 0 45 (by decide)) (fun j => hkM 20 j (by rfl)), rTrace.fr hR.2.1 (hkX 36 3 (by decide)) (fun j => hkX 38 j (by rfl)) (hkM 0 48 (by decide)) (fun j => hkM 21 j (by rfl)), rShelf.fr hR.2.2.1 (fun t j => hkX _ _ (sgin_lo (c := 40) (by decide) (by omega))) (hkX 36 2 (by decide)) (fun j => hkM 22 j (by rfl)) (fun j => hkM 23 j (by rfl)), rEl.fr hR.2.2.2.1 (fun t j => hkX _ _ (sgin_lo (c := 40) (by decide) (by omega))), rNum.fr hR.2.2.2.2.1 (hkX 1 3 (by decide)) (fun j => hkX 2 j (by rfl)) (hkM 0 6 (by decide)) (fun j => hkM 1 j (by rfl)), rChg.fr hR.2.2.2.2.2.1 (hkX 1 3 (by decide)) (hkX 32 3 (by decide)) (hkX 32 4 (by decide)) (fun j => hkX 33 j (by rfl)) (fun j => hkX 34 j (by rfl)) (fun j => hkX 35 j (by rfl)) (hkM 0 5 (by decide)) (hkM 0 4 (by decide)) (fun j => hkM 2 j (by rfl)) (fun j => hkM 3 j (by rfl)) (fun j => hkM 4 j (by rfl)), rByte.fr hR.2.2.2.2.2.2.1 (fun t j => hkX _ _ (sgin_lo (c := 40) (by decide) (by omega))), rTape.fr hR.2.2.2.2.2.2.2.1 (hkX 4 1 (by decide)) (fun j => hkX 5 j (by rfl)) (hkM 0 9 (by decide)) (fun j => hkM 6 j (by rfl)), (hR.2.2.2.2.2.2.2.2.1.used hR.2.2.2.2.1 (fun hl T n hm hq hc hC => (t_wilful ⟨hR.2.2.2.2.1, hR.2.2.1, hR.2.2.2.1, hR.2.2.2.2.2.2.1, hR.2.2.2.2.2.2.2.2.2.1, hR.2.2.2.2.2.2.2.2.2.2.1, hIX0⟩ hm hq hc hC hur1 hur2).2.1) (hkX 4 2 (by decide)) (hkX 4 9 (by decide)) (fun j => hkX 7 j (by rfl)) (hkX 1 3 (by decide)) (fun j => hkX 2 j (by rfl)) (hkX 32 4 (by decide)) (fun j => hkX 33 j (by rfl)) (fun j => hkX 34 j (by rfl)) (fun j => hkX 35 j (by rfl)) (hkM 0 11 (by decide)) (fun j => hkM 7 j (by rfl))), rSt.fr hR.2.2.2.2.2.2.2.2.2.1 (fun j => hkX 3 j (by rfl)) (fun j => hkM 5 j (by rfl)), (hR.2.2.2.2.2.2.2.2.1.two hR.2.2.2.2.1 (fun hl T n hm hq hc hC => (t_wilful ⟨hR.2.2.2.2.1, hR.2.2.1, hR.2.2.2.1, hR.2.2.2.2.2.2.1, hR.2.2.2.2.2.2.2.2.2.1, hR.2.2.2.2.2.2.2.2.2.2.1, hIX0⟩ hm hq hc hC hur1 hur2).2.2)), rIm.fr hR.2.2.2.2.2.2.2.2.2.2.2 (hkX 29 0 (by decide)) (hkX 28 5 (by decide)) (hkX 30 0 (by decide)) (fun j => hkX 31 j (by rfl)) (hkM 0 38 (by decide)) (hkM 0 43 (by decide)) (fun j => hkM 19 j (by rfl))⟩⟩ hPX hPM hS (lv_sub hl [0, 1, 2, 3] rfl)

set_option maxHeartbeats 4000000 in
set_option maxRecDepth 100000 in
theorem lc_19 {p : Program} {e : Env} {s : State} {m : MethodId} {below : List Frame} {meth : Method} {cd : Code} {Qz : State → Prop} (l : Launch) {b : Nat} {N : Nat} {xs : Nat → Int32} {D : va_G} {ca : Nat → ClassId} {za hX hM : Nat → Nat} {cells slots : Nat} {H : Heap} {locs : List Loc} {ls : Array Slot} {i : Int32} {fX fM : sg_F} {LX LM : sg_L} {QX QM : sg_Q} (hx : p.tables.exec = Jvm.exec) (hb : cd.code = code) (hml : cd.maxLocals = 4) (hown : s.vm.findClass R_law = some m.cls) (hts : ∀ w ∈ gwL, w.before #[Value.ref b] s = true) (hXs : va_X b N xs s s.heap) (hN : N ≤ 3072) (hi : 0 ≤ i.toInt ∧ i.toInt + 6 ≤ (N : Int)) (hbl : b < s.heap.size) (hK : va_K D vwCl (tyX ca) s) (hZ : sgZ zcX za (fun q => s.heap.size ≤ q) s.heap.size s) (hhX : sgH 52 hX) (hhM : sgH 26 hM) (hAX : sgY (fun q => s.heap.size ≤ q) 52 hX s.heap.size) (hAM : sgY (fun q => s.heap.size ≤ q) 26 hM s.heap.size) (hdis : ∀ i j : Nat, i < 52 → j < 26 → hX i ≠ hM j) (hdis2 : ∀ i j : Nat, i < 26 → j < 52 → hM i ≠ hX j) (hcl : cells ≤ room_1.cells ∧ slots ≤ room_1.slots) (hV : lwInv fX LX QX fM LM QM) (hPX : va_P D vwCl (sgw 52 hX (eX ca hX) fX LX QX) H) (hPM : va_P D vwCl (sgw 26 hM (eM ca hM) fM LM QM) H) (hS : va_S (fun q => s.heap.size ≤ q) s.heap H locs) (hl : lv_has ls 4 [(0, .ref b), (1, .ref (hX 0)), (2, .ref (hM 0)), (3, .int i)]) (hJ : ∀ (fX : sg_F) (LX : sg_L) (QX : sg_Q) (fM : sg_F) (LM : sg_L) (QM : sg_Q) (H : Heap) (locs : List Loc) (ls : Array Slot), lwInv fX LX QX fM LM QM → va_P D vwCl (sgw 52 hX (eX ca hX) fX LX QX) H → va_P D vwCl (sgw 26 hM (eM ca hM) fM LM QM) H → va_S (fun q => s.heap.size ≤ q) s.heap H locs → lv_has ls 4 [(0, .ref b), (1, .ref (hX 0)), (2, .ref (hM 0)), (3, .int i)] → W p l e room_1 s m #[Value.ref b] below meth cd H locs cells slots Qz (F0 m 1578 ls [])) : W p l e room_1 s m #[Value.ref b] below meth cd H locs cells slots Qz (F0 m 915 ls []) := by
  have hbA : ¬ (fun q => s.heap.size ≤ q) b := Nat.not_le.mpr hbl
  have hown : s.vm.findClass RL = some m.cls := hown
  obtain ⟨hIX, hJX, hIM, hJM, hR⟩ := hV
  have hIX0 := hIX; have hIM0 := hIM; have hJM0 := hJM
  refine lv_aload_n hx hb dL_law_915 rfl (lv_at hl 1 rfl) ?_
  refine lv_aload_n hx hb dL_law_916 rfl (lv_at hl 0 rfl) ?_
  refine lv_iload_n hx hb dL_law_917 rfl (lv_at hl 3 rfl) ?_
  refine lv_iconst (v := 1) hx hb dL_law_918 (by decide) ?_
  refine lv_iadd hx hb dL_law_919 ?_
  refine lv_topi (fun v_1 ev_1 => ?_)
  have q_2 : v_1.toInt = i.toInt + 1 := by rw [ev_1]; have k1 : (1 : Int32).toInt = 1 := (by decide); exact (bn_addI (by omega) (by omega)).trans (by omega)
  refine va_sld hx hb hXs hbl hbA hS (i := v_1) (vp_in_iff.mpr ⟨by omega, by omega⟩) dL_law_920 ?_
  refine lv_topi (fun v_3 ev_3 => ?_)
  refine lv_aload_n hx hb dL_law_921 rfl (lv_at hl 0 rfl) ?_
  refine lv_iload_n hx hb dL_law_922 rfl (lv_at hl 3 rfl) ?_
  refine lv_iconst (v := 2) hx hb dL_law_923 (by decide) ?_
  refine lv_iadd hx hb dL_law_924 ?_
  refine lv_topi (fun v_4 ev_4 => ?_)
  have q_5 : v_4.toInt = i.toInt + 2 := by rw [ev_4]; have k1 : (2 : Int32).toInt = 2 := (by decide); exact (bn_addI (by omega) (by omega)).trans (by omega)
  refine va_sld hx hb hXs hbl hbA hS (i := v_4) (vp_in_iff.mpr ⟨by omega, by omega⟩) dL_law_925 ?_
  refine lv_topi (fun v_6 ev_6 => ?_)
  refine lv_aload_n hx hb dL_law_926 rfl (lv_at hl 0 rfl) ?_
  refine lv_iload_n hx hb dL_law_927 rfl (lv_at hl 3 rfl) ?_
  refine lv_iconst (v := 3) hx hb dL_law_928 (by decide) ?_
  refine lv_iadd hx hb dL_law_929 ?_
  refine lv_topi (fun v_7 ev_7 => ?_)
  have q_8 : v_7.toInt = i.toInt + 3 := by rw [ev_7]; have k1 : (3 : Int32).toInt = 3 := (by decide); exact (bn_addI (by omega) (by omega)).trans (by omega)
  refine va_sld hx hb hXs hbl hbA hS (i := v_7) (vp_in_iff.mpr ⟨by omega, by omega⟩) dL_law_930 ?_
  refine lv_topi (fun v_9 ev_9 => ?_)
  refine lw_callI (va_runV (As := [.int v_3, .int v_6, .int v_9]) (rest := []) ⟨hx, hb, hml, hown, hts⟩ (kX11_who l D ca za hX hhX fX LX QX hIX (v_3) (v_6) (v_9) H.size) (cwV 3 hts (gw_V (fun _ h => h) mw_1122 mw_1123 mw_1124 mw_37 mw_1121) rfl rfl rfl (by decide +kernel) ⟨Nat.le_of_ble_eq_true rfl, Nat.le_of_ble_eq_true rfl⟩) (sg_preV (ci := 11) (C := RX11) (T := TX11) (N := 10) hAX hK hPX hS hZ 0 (by decide) rfl rfl) rfl rfl hl.1 rfl (lv_room (Nat.le_of_ble_eq_true rfl)) dL_law_931 hcl) hAX hS (fun r1 fX1 LX1 QX1 H locs hqr1 hP1 hkr1 hS => ?_)
  have hPX := hP1
  have hPM := lw_kept hPM hdis hkr1
  obtain ⟨⟨hIX, hkX, eLX, eQX⟩, hvr1, hur1⟩ := hqr1
  rw [eLX] at hPX
  have hJX : JX fX1 := JX.fr hJX hkX (fun _ => rfl) (fun _ => rfl) (fun _ => rfl) (by intro t j ht; rcases (show t = 0 ∨ t = 1 ∨ t = 2 ∨ t = 3 ∨ t = 4 ∨ t = 5 by omega) with rfl | rfl | rfl | rfl | rfl | rfl <;> rfl)
  refine lv_pop hx hb dL_law_934 rfl ?_
  refine lv_aload_n hx hb dL_law_935 rfl (lv_at hl 2 rfl) ?_
  refine lv_aload_n hx hb dL_law_936 rfl (lv_at hl 0 rfl) ?_
  refine lv_iload_n hx hb dL_law_937 rfl (lv_at hl 3 rfl) ?_
  refine lv_iconst (v := 1) hx hb dL_law_938 (by decide) ?_
  refine lv_iadd hx hb dL_law_939 ?_
  rw [← ev_1]
  refine va_sld hx hb hXs hbl hbA hS (i := v_1) (vp_in_iff.mpr ⟨by omega, by omega⟩) dL_law_940 ?_
  rw [← ev_3]
  refine lv_aload_n hx hb dL_law_941 rfl (lv_at hl 0 rfl) ?_
  refine lv_iload_n hx hb dL_law_942 rfl (lv_at hl 3 rfl) ?_
  refine lv_iconst (v := 2) hx hb dL_law_943 (by decide) ?_
  refine lv_iadd hx hb dL_law_944 ?_
  rw [← ev_4]
  refine va_sld hx hb hXs hbl hbA hS (i := v_4) (vp_in_iff.mpr ⟨by omega, by omega⟩) dL_law_945 ?_
  rw [← ev_6]
  refine lv_aload_n hx hb dL_law_946 rfl (lv_at hl 0 rfl) ?_
  refine lv_iload_n hx hb dL_law_947 rfl (lv_at hl 3 rfl) ?_
  refine lv_iconst (v := 3) hx hb dL_law_948 (by decide) ?_
  refine lv_iadd hx hb dL_law_949 ?_
  rw [← ev_7]
  refine va_sld hx hb hXs hbl hbA hS (i := v_7) (vp_in_iff.mpr ⟨by omega, by omega⟩) dL_law_950 ?_
  rw [← ev_9]
  refine lw_callI (va_runV (As := [.int v_3, .int v_6, .int v_9]) (rest := []) ⟨hx, hb, hml, hown, hts⟩ (kX12_who l D ca za hM hhM fM LM QM hIM (v_3) (v_6) (v_9) H.size) (cwV 3 hts (gw_V (fun _ h => h) mw_1126 mw_1127 mw_1128 mw_619 mw_1125) rfl rfl rfl (by decide +kernel) ⟨Nat.le_of_ble_eq_true rfl, Nat.le_of_ble_eq_true rfl⟩) (sg_preV (ci := 12) (C := RX12) (T := TX12) (N := 55) hAM hK hPM hS (show sgZ zcM za (fun q => s.heap.size ≤ q) s.heap.size s from fun i q h => by simp [zcM] at h) 0 (by decide) rfl rfl) rfl rfl hl.1 rfl (lv_room (Nat.le_of_ble_eq_true rfl)) dL_law_951 hcl) hAM hS (fun r2 fM1 LM1 QM1 H locs hqr2 hP1 hkr2 hS => ?_)
  have hPM := hP1
  have hPX := lw_kept hPX hdis2 hkr2
  obtain ⟨⟨hIM, hkM, eLM, eQM⟩, hvr2, hur2⟩ := hqr2
  rw [eLM, eQM] at hPM
  have hJM : JM fM1 := JM.fr hJM hkM (fun _ => rfl) (fun _ => rfl) (fun _ => rfl) rfl rfl
  refine lv_pop hx hb dL_law_954 rfl ?_
  refine lv_goto (tgt := 1578) hx hb dL_law_955 (by decide) ?_
  exact hJ _ _ _ _ _ _ _ _ _ ⟨hIX, hJX, hIM, hJM, ⟨rDesk.fr hR.1 (hkX 36 2 (by decide)) (fun j => hkX 37 j (by rfl)) (hkM 0 45 (by decide)) (fun j => hkM 20 j (by rfl)), rTrace.fr hR.2.1 (hkX 36 3 (by decide)) (fun j => hkX 38 j (by rfl)) (hkM 0 48 (by decide)) (fun j => hkM 21 j (by rfl)), rShelf.fr hR.2.2.1 (fun t j => hkX _ _ (sgin_lo (c := 40) (by decide) (by omega))) (hkX 36 2 (by decide)) (fun j => hkM 22 j (by rfl)) (fun j => hkM 23 j (by rfl)), rEl.fr hR.2.2.2.1 (fun t j => hkX _ _ (sgin_lo (c := 40) (by decide) (by omega))), rNum.fr hR.2.2.2.2.1 (hkX 1 3 (by decide)) (fun j => hkX 2 j (by rfl)) (hkM 0 6 (by decide)) (fun j => hkM 1 j (by rfl)), rChg.fr hR.2.2.2.2.2.1 (hkX 1 3 (by decide)) (hkX 32 3 (by decide)) (hkX 32 4 (by decide)) (fun j => hkX 33 j (by rfl)) (fun j => hkX 34 j (by rfl)) (fun j => hkX 35 j (by rfl)) (hkM 0 5 (by decide)) (hkM 0 4 (by decide)) (fun j => hkM 2 j (by rfl)) (fun j => hkM 3 j (by rfl)) (fun j => hkM 4 j (by rfl)), rByte.fr hR.2.2.2.2.2.2.1 (fun t j => hkX _ _ (sgin_lo (c := 40) (by decide) (by omega))), rTape.fr hR.2.2.2.2.2.2.2.1 (hkX 4 1 (by decide)) (fun j => hkX 5 j (by rfl)) (hkM 0 9 (by decide)) (fun j => hkM 6 j (by rfl)), rLs.fr hR.2.2.2.2.2.2.2.2.1 (hkX 4 2 (by decide)) (hkX 4 9 (by decide)) (fun j => hkX 7 j (by rfl)) (hkX 1 3 (by decide)) (fun j => hkX 2 j (by rfl)) (hkX 32 4 (by decide)) (fun j => hkX 33 j (by rfl)) (fun j => hkX 34 j (by rfl)) (fun j => hkX 35 j (by rfl)) (fun j => hkX 9 j (by rfl)) (hkM 0 11 (by decide)) (fun j => hkM 7 j (by rfl)), rSt.fr hR.2.2.2.2.2.2.2.2.2.1 (fun j => hkX 3 j (by rfl)) (fun j => hkM 5 j (by rfl)), rIdle.fr hR.2.2.2.2.2.2.2.2.2.2.1 (hkX 13 7 (by decide)) (hkX 13 9 (by decide)) (hkM 0 20 (by decide)) (hkM 0 22 (by decide)) (hkM 0 23 (by decide)) (hkM 0 24 (by decide)) (fun j => hkM 11 j (by rfl)), rIm.fr hR.2.2.2.2.2.2.2.2.2.2.2 (hkX 29 0 (by decide)) (hkX 28 5 (by decide)) (hkX 30 0 (by decide)) (fun j => hkX 31 j (by rfl)) (hkM 0 38 (by decide)) (hkM 0 43 (by decide)) (fun j => hkM 19 j (by rfl))⟩⟩ hPX hPM hS (lv_sub hl [0, 1, 2, 3] rfl)

set_option maxHeartbeats 4000000 in
set_option maxRecDepth 100000 in
theorem lc_20 {p : Program} {e : Env} {s : State} {m : MethodId} {below : List Frame} {meth : Method} {cd : Code} {Qz : State → Prop} (l : Launch) {b : Nat} {N : Nat} {xs : Nat → Int32} {D : va_G} {ca : Nat → ClassId} {za hX hM : Nat → Nat} {cells slots : Nat} {H : Heap} {locs : List Loc} {ls : Array Slot} {i : Int32} {fX fM : sg_F} {LX LM : sg_L} {QX QM : sg_Q} (hx : p.tables.exec = Jvm.exec) (hb : cd.code = code) (hml : cd.maxLocals = 4) (hown : s.vm.findClass R_law = some m.cls) (hts : ∀ w ∈ gwL, w.before #[Value.ref b] s = true) (hXs : va_X b N xs s s.heap) (hN : N ≤ 3072) (hi : 0 ≤ i.toInt ∧ i.toInt + 6 ≤ (N : Int)) (hbl : b < s.heap.size) (hK : va_K D vwCl (tyX ca) s) (hZ : sgZ zcX za (fun q => s.heap.size ≤ q) s.heap.size s) (hhX : sgH 52 hX) (hhM : sgH 26 hM) (hAX : sgY (fun q => s.heap.size ≤ q) 52 hX s.heap.size) (hAM : sgY (fun q => s.heap.size ≤ q) 26 hM s.heap.size) (hdis : ∀ i j : Nat, i < 52 → j < 26 → hX i ≠ hM j) (hdis2 : ∀ i j : Nat, i < 26 → j < 52 → hM i ≠ hX j) (hcl : cells ≤ room_1.cells ∧ slots ≤ room_1.slots) (hV : lwInv fX LX QX fM LM QM) (hPX : va_P D vwCl (sgw 52 hX (eX ca hX) fX LX QX) H) (hPM : va_P D vwCl (sgw 26 hM (eM ca hM) fM LM QM) H) (hS : va_S (fun q => s.heap.size ≤ q) s.heap H locs) (hl : lv_has ls 4 [(0, .ref b), (1, .ref (hX 0)), (2, .ref (hM 0)), (3, .int i)]) (hJ : ∀ (fX : sg_F) (LX : sg_L) (QX : sg_Q) (fM : sg_F) (LM : sg_L) (QM : sg_Q) (H : Heap) (locs : List Loc) (ls : Array Slot), lwInv fX LX QX fM LM QM → va_P D vwCl (sgw 52 hX (eX ca hX) fX LX QX) H → va_P D vwCl (sgw 26 hM (eM ca hM) fM LM QM) H → va_S (fun q => s.heap.size ≤ q) s.heap H locs → lv_has ls 4 [(0, .ref b), (1, .ref (hX 0)), (2, .ref (hM 0)), (3, .int i)] → W p l e room_1 s m #[Value.ref b] below meth cd H locs cells slots Qz (F0 m 1578 ls [])) : W p l e room_1 s m #[Value.ref b] below meth cd H locs cells slots Qz (F0 m 958 ls []) := by
  have hbA : ¬ (fun q => s.heap.size ≤ q) b := Nat.not_le.mpr hbl
  have hown : s.vm.findClass RL = some m.cls := hown
  obtain ⟨hIX, hJX, hIM, hJM, hR⟩ := hV
  have hIX0 := hIX; have hIM0 := hIM; have hJM0 := hJM
  refine lv_aload_n hx hb dL_law_958 rfl (lv_at hl 1 rfl) ?_
  refine lv_aload_n hx hb dL_law_959 rfl (lv_at hl 0 rfl) ?_
  refine lv_iload_n hx hb dL_law_960 rfl (lv_at hl 3 rfl) ?_
  refine lv_iconst (v := 1) hx hb dL_law_961 (by decide) ?_
  refine lv_iadd hx hb dL_law_962 ?_
  refine lv_topi (fun v_1 ev_1 => ?_)
  have q_2 : v_1.toInt = i.toInt + 1 := by rw [ev_1]; have k1 : (1 : Int32).toInt = 1 := (by decide); exact (bn_addI (by omega) (by omega)).trans (by omega)
  refine va_sld hx hb hXs hbl hbA hS (i := v_1) (vp_in_iff.mpr ⟨by omega, by omega⟩) dL_law_963 ?_
  refine lv_topi (fun v_3 ev_3 => ?_)
  refine lv_aload_n hx hb dL_law_964 rfl (lv_at hl 0 rfl) ?_
  refine lv_iload_n hx hb dL_law_965 rfl (lv_at hl 3 rfl) ?_
  refine lv_iconst (v := 2) hx hb dL_law_966 (by decide) ?_
  refine lv_iadd hx hb dL_law_967 ?_
  refine lv_topi (fun v_4 ev_4 => ?_)
  have q_5 : v_4.toInt = i.toInt + 2 := by rw [ev_4]; have k1 : (2 : Int32).toInt = 2 := (by decide); exact (bn_addI (by omega) (by omega)).trans (by omega)
  refine va_sld hx hb hXs hbl hbA hS (i := v_4) (vp_in_iff.mpr ⟨by omega, by omega⟩) dL_law_968 ?_
  refine lv_topi (fun v_6 ev_6 => ?_)
  refine lw_callI (va_runV (As := [.int v_3, .int v_6]) (rest := []) ⟨hx, hb, hml, hown, hts⟩ (kX11_judge l D ca za hX hhX fX LX QX hIX (v_3) (v_6) H.size) (cwV 2 hts (gw_V (fun _ h => h) mw_1130 mw_1131 mw_1132 mw_37 mw_1129) rfl rfl rfl (by decide +kernel) ⟨Nat.le_of_ble_eq_true rfl, Nat.le_of_ble_eq_true rfl⟩) (sg_preV (ci := 11) (C := RX11) (T := TX11) (N := 10) hAX hK hPX hS hZ 0 (by decide) rfl rfl) rfl rfl hl.1 rfl (lv_room (Nat.le_of_ble_eq_true rfl)) dL_law_969 hcl) hAX hS (fun r1 fX1 LX1 QX1 H locs hqr1 hP1 hkr1 hS => ?_)
  have hPX := hP1
  have hPM := lw_kept hPM hdis hkr1
  obtain ⟨⟨hIX, hkX, eLX, eQX⟩, hvr1, hur1⟩ := hqr1
  rw [eLX, eQX] at hPX
  have hJX : JX fX1 := JX.fr hJX hkX (fun _ => rfl) (fun _ => rfl) (fun _ => rfl) (by intro t j ht; rcases (show t = 0 ∨ t = 1 ∨ t = 2 ∨ t = 3 ∨ t = 4 ∨ t = 5 by omega) with rfl | rfl | rfl | rfl | rfl | rfl <;> rfl)
  refine lv_pop hx hb dL_law_972 rfl ?_
  refine lv_aload_n hx hb dL_law_973 rfl (lv_at hl 2 rfl) ?_
  refine lv_aload_n hx hb dL_law_974 rfl (lv_at hl 0 rfl) ?_
  refine lv_iload_n hx hb dL_law_975 rfl (lv_at hl 3 rfl) ?_
  refine lv_iconst (v := 1) hx hb dL_law_976 (by decide) ?_
  refine lv_iadd hx hb dL_law_977 ?_
  rw [← ev_1]
  refine va_sld hx hb hXs hbl hbA hS (i := v_1) (vp_in_iff.mpr ⟨by omega, by omega⟩) dL_law_978 ?_
  rw [← ev_3]
  refine lv_aload_n hx hb dL_law_979 rfl (lv_at hl 0 rfl) ?_
  refine lv_iload_n hx hb dL_law_980 rfl (lv_at hl 3 rfl) ?_
  refine lv_iconst (v := 2) hx hb dL_law_981 (by decide) ?_
  refine lv_iadd hx hb dL_law_982 ?_
  rw [← ev_4]
  refine va_sld hx hb hXs hbl hbA hS (i := v_4) (vp_in_iff.mpr ⟨by omega, by omega⟩) dL_law_983 ?_
  rw [← ev_6]
  refine lw_callI (va_runV (As := [.int v_3, .int v_6]) (rest := []) ⟨hx, hb, hml, hown, hts⟩ (kX12_judge l D ca za hM hhM fM LM QM hIM (v_3) (v_6) H.size) (cwV 2 hts (gw_V (fun _ h => h) mw_1134 mw_1135 mw_1136 mw_619 mw_1133) rfl rfl rfl (by decide +kernel) ⟨Nat.le_of_ble_eq_true rfl, Nat.le_of_ble_eq_true rfl⟩) (sg_preV (ci := 12) (C := RX12) (T := TX12) (N := 55) hAM hK hPM hS (show sgZ zcM za (fun q => s.heap.size ≤ q) s.heap.size s from fun i q h => by simp [zcM] at h) 0 (by decide) rfl rfl) rfl rfl hl.1 rfl (lv_room (Nat.le_of_ble_eq_true rfl)) dL_law_984 hcl) hAM hS (fun r2 fM1 LM1 QM1 H locs hqr2 hP1 hkr2 hS => ?_)
  have hPM := hP1
  have hPX := lw_kept hPX hdis2 hkr2
  obtain ⟨⟨hIM, hkM, eLM, eQM⟩, hvr2, hur2⟩ := hqr2
  rw [eLM, eQM] at hPM
  have hJM : JM fM1 := JM.fr hJM hkM (fun _ => rfl) (fun _ => rfl) (fun _ => rfl) rfl rfl
  refine lv_pop hx hb dL_law_987 rfl ?_
  refine lv_goto (tgt := 1578) hx hb dL_law_988 (by decide) ?_
  exact hJ _ _ _ _ _ _ _ _ _ ⟨hIX, hJX, hIM, hJM, ⟨rDesk.fr hR.1 (hkX 36 2 (by decide)) (fun j => hkX 37 j (by rfl)) (hkM 0 45 (by decide)) (fun j => hkM 20 j (by rfl)), rTrace.fr hR.2.1 (hkX 36 3 (by decide)) (fun j => hkX 38 j (by rfl)) (hkM 0 48 (by decide)) (fun j => hkM 21 j (by rfl)), rShelf.fr hR.2.2.1 (fun t j => hkX _ _ (sgin_lo (c := 40) (by decide) (by omega))) (hkX 36 2 (by decide)) (fun j => hkM 22 j (by rfl)) (fun j => hkM 23 j (by rfl)), rEl.fr hR.2.2.2.1 (fun t j => hkX _ _ (sgin_lo (c := 40) (by decide) (by omega))), rNum.fr hR.2.2.2.2.1 (hkX 1 3 (by decide)) (fun j => hkX 2 j (by rfl)) (hkM 0 6 (by decide)) (fun j => hkM 1 j (by rfl)), rChg.fr hR.2.2.2.2.2.1 (hkX 1 3 (by decide)) (hkX 32 3 (by decide)) (hkX 32 4 (by decide)) (fun j => hkX 33 j (by rfl)) (fun j => hkX 34 j (by rfl)) (fun j => hkX 35 j (by rfl)) (hkM 0 5 (by decide)) (hkM 0 4 (by decide)) (fun j => hkM 2 j (by rfl)) (fun j => hkM 3 j (by rfl)) (fun j => hkM 4 j (by rfl)), rByte.fr hR.2.2.2.2.2.2.1 (fun t j => hkX _ _ (sgin_lo (c := 40) (by decide) (by omega))), rTape.fr hR.2.2.2.2.2.2.2.1 (hkX 4 1 (by decide)) (fun j => hkX 5 j (by rfl)) (hkM 0 9 (by decide)) (fun j => hkM 6 j (by rfl)), (hR.2.2.2.2.2.2.2.2.1.used hR.2.2.2.2.1 (fun hl T n hm hq hc hC => (t_judge ⟨hR.2.2.2.2.1, hR.2.2.1, hR.2.2.2.1, hR.2.2.2.2.2.2.1, hR.2.2.2.2.2.2.2.2.2.1, hR.2.2.2.2.2.2.2.2.2.2.1, hIX0⟩ hm hq hc hC hur1 hur2).2) (hkX 4 2 (by decide)) (hkX 4 9 (by decide)) (fun j => hkX 7 j (by rfl)) (hkX 1 3 (by decide)) (fun j => hkX 2 j (by rfl)) (hkX 32 4 (by decide)) (fun j => hkX 33 j (by rfl)) (fun j => hkX 34 j (by rfl)) (fun j => hkX 35 j (by rfl)) (hkM 0 11 (by decide)) (fun j => hkM 7 j (by rfl))), rSt.fr hR.2.2.2.2.2.2.2.2.2.1 (fun j => hkX 3 j (by rfl)) (fun j => hkM 5 j (by rfl)), rIdle.fr hR.2.2.2.2.2.2.2.2.2.2.1 (hkX 13 7 (by decide)) (hkX 13 9 (by decide)) (hkM 0 20 (by decide)) (hkM 0 22 (by decide)) (hkM 0 23 (by decide)) (hkM 0 24 (by decide)) (fun j => hkM 11 j (by rfl)), rIm.fr hR.2.2.2.2.2.2.2.2.2.2.2 (hkX 29 0 (by decide)) (hkX 28 5 (by decide)) (hkX 30 0 (by decide)) (fun j => hkX 31 j (by rfl)) (hkM 0 38 (by decide)) (hkM 0 43 (by decide)) (fun j => hkM 19 j (by rfl))⟩⟩ hPX hPM hS (lv_sub hl [0, 1, 2, 3] rfl)

set_option maxHeartbeats 4000000 in
set_option maxRecDepth 100000 in
theorem lc_21 {p : Program} {e : Env} {s : State} {m : MethodId} {below : List Frame} {meth : Method} {cd : Code} {Qz : State → Prop} (l : Launch) {b : Nat} {N : Nat} {xs : Nat → Int32} {D : va_G} {ca : Nat → ClassId} {za hX hM : Nat → Nat} {cells slots : Nat} {H : Heap} {locs : List Loc} {ls : Array Slot} {i : Int32} {fX fM : sg_F} {LX LM : sg_L} {QX QM : sg_Q} (hx : p.tables.exec = Jvm.exec) (hb : cd.code = code) (hml : cd.maxLocals = 4) (hown : s.vm.findClass R_law = some m.cls) (hts : ∀ w ∈ gwL, w.before #[Value.ref b] s = true) (hXs : va_X b N xs s s.heap) (hN : N ≤ 3072) (hi : 0 ≤ i.toInt ∧ i.toInt + 6 ≤ (N : Int)) (hbl : b < s.heap.size) (hK : va_K D vwCl (tyX ca) s) (hZ : sgZ zcX za (fun q => s.heap.size ≤ q) s.heap.size s) (hhX : sgH 52 hX) (hhM : sgH 26 hM) (hAX : sgY (fun q => s.heap.size ≤ q) 52 hX s.heap.size) (hAM : sgY (fun q => s.heap.size ≤ q) 26 hM s.heap.size) (hdis : ∀ i j : Nat, i < 52 → j < 26 → hX i ≠ hM j) (hdis2 : ∀ i j : Nat, i < 26 → j < 52 → hM i ≠ hX j) (hcl : cells ≤ room_1.cells ∧ slots ≤ room_1.slots) (hV : lwInv fX LX QX fM LM QM) (hPX : va_P D vwCl (sgw 52 hX (eX ca hX) fX LX QX) H) (hPM : va_P D vwCl (sgw 26 hM (eM ca hM) fM LM QM) H) (hS : va_S (fun q => s.heap.size ≤ q) s.heap H locs) (hl : lv_has ls 4 [(0, .ref b), (1, .ref (hX 0)), (2, .ref (hM 0)), (3, .int i)]) (hJ : ∀ (fX : sg_F) (LX : sg_L) (QX : sg_Q) (fM : sg_F) (LM : sg_L) (QM : sg_Q) (H : Heap) (locs : List Loc) (ls : Array Slot), lwInv fX LX QX fM LM QM → va_P D vwCl (sgw 52 hX (eX ca hX) fX LX QX) H → va_P D vwCl (sgw 26 hM (eM ca hM) fM LM QM) H → va_S (fun q => s.heap.size ≤ q) s.heap H locs → lv_has ls 4 [(0, .ref b), (1, .ref (hX 0)), (2, .ref (hM 0)), (3, .int i)] → W p l e room_1 s m #[Value.ref b] below meth cd H locs cells slots Qz (F0 m 1578 ls [])) : W p l e room_1 s m #[Value.ref b] below meth cd H locs cells slots Qz (F0 m 991 ls []) := by
  have hbA : ¬ (fun q => s.heap.size ≤ q) b := Nat.not_le.mpr hbl
  have hown : s.vm.findClass RL = some m.cls := hown
  obtain ⟨hIX, hJX, hIM, hJM, hR⟩ := hV
  have hIX0 := hIX; have hIM0 := hIM; have hJM0 := hJM
  refine lv_aload_n hx hb dL_law_991 rfl (lv_at hl 1 rfl) ?_
  refine lv_aload_n hx hb dL_law_992 rfl (lv_at hl 0 rfl) ?_
  refine lv_iload_n hx hb dL_law_993 rfl (lv_at hl 3 rfl) ?_
  refine lv_iconst (v := 1) hx hb dL_law_994 (by decide) ?_
  refine lv_iadd hx hb dL_law_995 ?_
  refine lv_topi (fun v_1 ev_1 => ?_)
  have q_2 : v_1.toInt = i.toInt + 1 := by rw [ev_1]; have k1 : (1 : Int32).toInt = 1 := (by decide); exact (bn_addI (by omega) (by omega)).trans (by omega)
  refine va_sld hx hb hXs hbl hbA hS (i := v_1) (vp_in_iff.mpr ⟨by omega, by omega⟩) dL_law_996 ?_
  refine lv_topi (fun v_3 ev_3 => ?_)
  refine lv_aload_n hx hb dL_law_997 rfl (lv_at hl 0 rfl) ?_
  refine lv_iload_n hx hb dL_law_998 rfl (lv_at hl 3 rfl) ?_
  refine lv_iconst (v := 2) hx hb dL_law_999 (by decide) ?_
  refine lv_iadd hx hb dL_law_1000 ?_
  refine lv_topi (fun v_4 ev_4 => ?_)
  have q_5 : v_4.toInt = i.toInt + 2 := by rw [ev_4]; have k1 : (2 : Int32).toInt = 2 := (by decide); exact (bn_addI (by omega) (by omega)).trans (by omega)
  refine va_sld hx hb hXs hbl hbA hS (i := v_4) (vp_in_iff.mpr ⟨by omega, by omega⟩) dL_law_1001 ?_
  refine lv_topi (fun v_6 ev_6 => ?_)
  refine lv_aload_n hx hb dL_law_1002 rfl (lv_at hl 0 rfl) ?_
  refine lv_iload_n hx hb dL_law_1003 rfl (lv_at hl 3 rfl) ?_
  refine lv_iconst (v := 3) hx hb dL_law_1004 (by decide) ?_
  refine lv_iadd hx hb dL_law_1005 ?_
  refine lv_topi (fun v_7 ev_7 => ?_)
  have q_8 : v_7.toInt = i.toInt + 3 := by rw [ev_7]; have k1 : (3 : Int32).toInt = 3 := (by decide); exact (bn_addI (by omega) (by omega)).trans (by omega)
  refine va_sld hx hb hXs hbl hbA hS (i := v_7) (vp_in_iff.mpr ⟨by omega, by omega⟩) dL_law_1006 ?_
  refine lv_topi (fun v_9 ev_9 => ?_)
  refine lv_aload_n hx hb dL_law_1007 rfl (lv_at hl 0 rfl) ?_
  refine lv_iload_n hx hb dL_law_1008 rfl (lv_at hl 3 rfl) ?_
  refine lv_iconst (v := 4) hx hb dL_law_1009 (by decide) ?_
  refine lv_iadd hx hb dL_law_1010 ?_
  refine lv_topi (fun v_10 ev_10 => ?_)
  have q_11 : v_10.toInt = i.toInt + 4 := by rw [ev_10]; have k1 : (4 : Int32).toInt = 4 := (by decide); exact (bn_addI (by omega) (by omega)).trans (by omega)
  refine va_sld hx hb hXs hbl hbA hS (i := v_10) (vp_in_iff.mpr ⟨by omega, by omega⟩) dL_law_1011 ?_
  refine lv_topi (fun v_12 ev_12 => ?_)
  refine lw_callI (va_runV (As := [.int v_3, .int v_6, .int v_9, .int v_12]) (rest := []) ⟨hx, hb, hml, hown, hts⟩ (kX11_drawn l D ca za hX hhX fX LX QX hIX (v_3) (v_6) (v_9) (v_12) H.size) (cwV 4 hts (gw_V (fun _ h => h) mw_1138 mw_1139 mw_1140 mw_37 mw_1137) rfl rfl rfl (by decide +kernel) ⟨Nat.le_of_ble_eq_true rfl, Nat.le_of_ble_eq_true rfl⟩) (sg_preV (ci := 11) (C := RX11) (T := TX11) (N := 10) hAX hK hPX hS hZ 0 (by decide) rfl rfl) rfl rfl hl.1 rfl (lv_room (Nat.le_of_ble_eq_true rfl)) dL_law_1012 hcl) hAX hS (fun r1 fX1 LX1 QX1 H locs hqr1 hP1 hkr1 hS => ?_)
  have hPX := hP1
  have hPM := lw_kept hPM hdis hkr1
  obtain ⟨⟨hIX, hkX, eLX, eQX⟩, hvr1, hur1⟩ := hqr1
  rw [eLX, eQX] at hPX
  have hJX : JX fX1 := JX.fr hJX hkX (fun _ => rfl) (fun _ => rfl) (fun _ => rfl) (by intro t j ht; rcases (show t = 0 ∨ t = 1 ∨ t = 2 ∨ t = 3 ∨ t = 4 ∨ t = 5 by omega) with rfl | rfl | rfl | rfl | rfl | rfl <;> rfl)
  refine lv_pop hx hb dL_law_1015 rfl ?_
  refine lv_aload_n hx hb dL_law_1016 rfl (lv_at hl 2 rfl) ?_
  refine lv_aload_n hx hb dL_law_1017 rfl (lv_at hl 0 rfl) ?_
  refine lv_iload_n hx hb dL_law_1018 rfl (lv_at hl 3 rfl) ?_
  refine lv_iconst (v := 1) hx hb dL_law_1019 (by decide) ?_
  refine lv_iadd hx hb dL_law_1020 ?_
  rw [← ev_1]
  refine va_sld hx hb hXs hbl hbA hS (i := v_1) (vp_in_iff.mpr ⟨by omega, by omega⟩) dL_law_1021 ?_
  rw [← ev_3]
  refine lv_aload_n hx hb dL_law_1022 rfl (lv_at hl 0 rfl) ?_
  refine lv_iload_n hx hb dL_law_1023 rfl (lv_at hl 3 rfl) ?_
  refine lv_iconst (v := 2) hx hb dL_law_1024 (by decide) ?_
  refine lv_iadd hx hb dL_law_1025 ?_
  rw [← ev_4]
  refine va_sld hx hb hXs hbl hbA hS (i := v_4) (vp_in_iff.mpr ⟨by omega, by omega⟩) dL_law_1026 ?_
  rw [← ev_6]
  refine lv_aload_n hx hb dL_law_1027 rfl (lv_at hl 0 rfl) ?_
  refine lv_iload_n hx hb dL_law_1028 rfl (lv_at hl 3 rfl) ?_
  refine lv_iconst (v := 3) hx hb dL_law_1029 (by decide) ?_
  refine lv_iadd hx hb dL_law_1030 ?_
  rw [← ev_7]
  refine va_sld hx hb hXs hbl hbA hS (i := v_7) (vp_in_iff.mpr ⟨by omega, by omega⟩) dL_law_1031 ?_
  rw [← ev_9]
  refine lv_aload_n hx hb dL_law_1032 rfl (lv_at hl 0 rfl) ?_
  refine lv_iload_n hx hb dL_law_1033 rfl (lv_at hl 3 rfl) ?_
  refine lv_iconst (v := 4) hx hb dL_law_1034 (by decide) ?_
  refine lv_iadd hx hb dL_law_1035 ?_
  rw [← ev_10]
  refine va_sld hx hb hXs hbl hbA hS (i := v_10) (vp_in_iff.mpr ⟨by omega, by omega⟩) dL_law_1036 ?_
  rw [← ev_12]
  refine lw_callI (va_runV (As := [.int v_3, .int v_6, .int v_9, .int v_12]) (rest := []) ⟨hx, hb, hml, hown, hts⟩ (kX12_drawn l D ca za hM hhM fM LM QM hIM (v_3) (v_6) (v_9) (v_12) H.size) (cwV 4 hts (gw_V (fun _ h => h) mw_1142 mw_1143 mw_1144 mw_619 mw_1141) rfl rfl rfl (by decide +kernel) ⟨Nat.le_of_ble_eq_true rfl, Nat.le_of_ble_eq_true rfl⟩) (sg_preV (ci := 12) (C := RX12) (T := TX12) (N := 55) hAM hK hPM hS (show sgZ zcM za (fun q => s.heap.size ≤ q) s.heap.size s from fun i q h => by simp [zcM] at h) 0 (by decide) rfl rfl) rfl rfl hl.1 rfl (lv_room (Nat.le_of_ble_eq_true rfl)) dL_law_1037 hcl) hAM hS (fun r2 fM1 LM1 QM1 H locs hqr2 hP1 hkr2 hS => ?_)
  have hPM := hP1
  have hPX := lw_kept hPX hdis2 hkr2
  obtain ⟨⟨hIM, hkM, eLM, eQM⟩, hvr2, hur2⟩ := hqr2
  rw [eLM, eQM] at hPM
  have hJM : JM fM1 := JM.fr hJM hkM (fun _ => rfl) (fun _ => rfl) (fun _ => rfl) rfl rfl
  refine lv_pop hx hb dL_law_1040 rfl ?_
  refine lv_goto (tgt := 1578) hx hb dL_law_1041 (by decide) ?_
  exact hJ _ _ _ _ _ _ _ _ _ ⟨hIX, hJX, hIM, hJM, ⟨rDesk.fr hR.1 (hkX 36 2 (by decide)) (fun j => hkX 37 j (by rfl)) (hkM 0 45 (by decide)) (fun j => hkM 20 j (by rfl)), rTrace.fr hR.2.1 (hkX 36 3 (by decide)) (fun j => hkX 38 j (by rfl)) (hkM 0 48 (by decide)) (fun j => hkM 21 j (by rfl)), rShelf.fr hR.2.2.1 (fun t j => hkX _ _ (sgin_lo (c := 40) (by decide) (by omega))) (hkX 36 2 (by decide)) (fun j => hkM 22 j (by rfl)) (fun j => hkM 23 j (by rfl)), rEl.fr hR.2.2.2.1 (fun t j => hkX _ _ (sgin_lo (c := 40) (by decide) (by omega))), rNum.fr hR.2.2.2.2.1 (hkX 1 3 (by decide)) (fun j => hkX 2 j (by rfl)) (hkM 0 6 (by decide)) (fun j => hkM 1 j (by rfl)), rChg.fr hR.2.2.2.2.2.1 (hkX 1 3 (by decide)) (hkX 32 3 (by decide)) (hkX 32 4 (by decide)) (fun j => hkX 33 j (by rfl)) (fun j => hkX 34 j (by rfl)) (fun j => hkX 35 j (by rfl)) (hkM 0 5 (by decide)) (hkM 0 4 (by decide)) (fun j => hkM 2 j (by rfl)) (fun j => hkM 3 j (by rfl)) (fun j => hkM 4 j (by rfl)), rByte.fr hR.2.2.2.2.2.2.1 (fun t j => hkX _ _ (sgin_lo (c := 40) (by decide) (by omega))), rTape.fr hR.2.2.2.2.2.2.2.1 (hkX 4 1 (by decide)) (fun j => hkX 5 j (by rfl)) (hkM 0 9 (by decide)) (fun j => hkM 6 j (by rfl)), (hR.2.2.2.2.2.2.2.2.1.used hR.2.2.2.2.1 (fun hl T n hm hq hc hC => (t_drawn ⟨hR.2.2.2.2.1, hR.2.2.1, hR.2.2.2.1, hR.2.2.2.2.2.2.1, hR.2.2.2.2.2.2.2.2.2.1, hR.2.2.2.2.2.2.2.2.2.2.1, hIX0⟩ hm hq hc hC hur1 hur2).2.1) (hkX 4 2 (by decide)) (hkX 4 9 (by decide)) (fun j => hkX 7 j (by rfl)) (hkX 1 3 (by decide)) (fun j => hkX 2 j (by rfl)) (hkX 32 4 (by decide)) (fun j => hkX 33 j (by rfl)) (fun j => hkX 34 j (by rfl)) (fun j => hkX 35 j (by rfl)) (hkM 0 11 (by decide)) (fun j => hkM 7 j (by rfl))), rSt.fr hR.2.2.2.2.2.2.2.2.2.1 (fun j => hkX 3 j (by rfl)) (fun j => hkM 5 j (by rfl)), (hR.2.2.2.2.2.2.2.2.1.two hR.2.2.2.2.1 (fun hl T n hm hq hc hC => (t_drawn ⟨hR.2.2.2.2.1, hR.2.2.1, hR.2.2.2.1, hR.2.2.2.2.2.2.1, hR.2.2.2.2.2.2.2.2.2.1, hR.2.2.2.2.2.2.2.2.2.2.1, hIX0⟩ hm hq hc hC hur1 hur2).2.2)), rIm.fr hR.2.2.2.2.2.2.2.2.2.2.2 (hkX 29 0 (by decide)) (hkX 28 5 (by decide)) (hkX 30 0 (by decide)) (fun j => hkX 31 j (by rfl)) (hkM 0 38 (by decide)) (hkM 0 43 (by decide)) (fun j => hkM 19 j (by rfl))⟩⟩ hPX hPM hS (lv_sub hl [0, 1, 2, 3] rfl)

set_option maxHeartbeats 4000000 in
set_option maxRecDepth 100000 in
theorem lc_22 {p : Program} {e : Env} {s : State} {m : MethodId} {below : List Frame} {meth : Method} {cd : Code} {Qz : State → Prop} (l : Launch) {b : Nat} {N : Nat} {xs : Nat → Int32} {D : va_G} {ca : Nat → ClassId} {za hX hM : Nat → Nat} {cells slots : Nat} {H : Heap} {locs : List Loc} {ls : Array Slot} {i : Int32} {fX fM : sg_F} {LX LM : sg_L} {QX QM : sg_Q} (hx : p.tables.exec = Jvm.exec) (hb : cd.code = code) (hml : cd.maxLocals = 4) (hown : s.vm.findClass R_law = some m.cls) (hts : ∀ w ∈ gwL, w.before #[Value.ref b] s = true) (hXs : va_X b N xs s s.heap) (hN : N ≤ 3072) (hi : 0 ≤ i.toInt ∧ i.toInt + 6 ≤ (N : Int)) (hbl : b < s.heap.size) (hK : va_K D vwCl (tyX ca) s) (hZ : sgZ zcX za (fun q => s.heap.size ≤ q) s.heap.size s) (hhX : sgH 52 hX) (hhM : sgH 26 hM) (hAX : sgY (fun q => s.heap.size ≤ q) 52 hX s.heap.size) (hAM : sgY (fun q => s.heap.size ≤ q) 26 hM s.heap.size) (hdis : ∀ i j : Nat, i < 52 → j < 26 → hX i ≠ hM j) (hdis2 : ∀ i j : Nat, i < 26 → j < 52 → hM i ≠ hX j) (hcl : cells ≤ room_1.cells ∧ slots ≤ room_1.slots) (hV : lwInv fX LX QX fM LM QM) (hPX : va_P D vwCl (sgw 52 hX (eX ca hX) fX LX QX) H) (hPM : va_P D vwCl (sgw 26 hM (eM ca hM) fM LM QM) H) (hS : va_S (fun q => s.heap.size ≤ q) s.heap H locs) (hl : lv_has ls 4 [(0, .ref b), (1, .ref (hX 0)), (2, .ref (hM 0)), (3, .int i)]) (hJ : ∀ (fX : sg_F) (LX : sg_L) (QX : sg_Q) (fM : sg_F) (LM : sg_L) (QM : sg_Q) (H : Heap) (locs : List Loc) (ls : Array Slot), lwInv fX LX QX fM LM QM → va_P D vwCl (sgw 52 hX (eX ca hX) fX LX QX) H → va_P D vwCl (sgw 26 hM (eM ca hM) fM LM QM) H → va_S (fun q => s.heap.size ≤ q) s.heap H locs → lv_has ls 4 [(0, .ref b), (1, .ref (hX 0)), (2, .ref (hM 0)), (3, .int i)] → W p l e room_1 s m #[Value.ref b] below meth cd H locs cells slots Qz (F0 m 1578 ls [])) : W p l e room_1 s m #[Value.ref b] below meth cd H locs cells slots Qz (F0 m 1044 ls []) := by
  have hbA : ¬ (fun q => s.heap.size ≤ q) b := Nat.not_le.mpr hbl
  have hown : s.vm.findClass RL = some m.cls := hown
  obtain ⟨hIX, hJX, hIM, hJM, hR⟩ := hV
  have hIX0 := hIX; have hIM0 := hIM; have hJM0 := hJM
  refine lv_aload_n hx hb dL_law_1044 rfl (lv_at hl 1 rfl) ?_
  refine lv_aload_n hx hb dL_law_1045 rfl (lv_at hl 0 rfl) ?_
  refine lv_iload_n hx hb dL_law_1046 rfl (lv_at hl 3 rfl) ?_
  refine lv_iconst (v := 1) hx hb dL_law_1047 (by decide) ?_
  refine lv_iadd hx hb dL_law_1048 ?_
  refine lv_topi (fun v_1 ev_1 => ?_)
  have q_2 : v_1.toInt = i.toInt + 1 := by rw [ev_1]; have k1 : (1 : Int32).toInt = 1 := (by decide); exact (bn_addI (by omega) (by omega)).trans (by omega)
  refine va_sld hx hb hXs hbl hbA hS (i := v_1) (vp_in_iff.mpr ⟨by omega, by omega⟩) dL_law_1049 ?_
  refine lv_topi (fun v_3 ev_3 => ?_)
  refine lw_callI (va_runV (As := [.int v_3]) (rest := []) ⟨hx, hb, hml, hown, hts⟩ (kX11_sit l D ca za hX hhX fX LX QX hIX (v_3) H.size) (cwV 1 hts (gw_V (fun _ h => h) mw_1146 mw_1147 mw_1148 mw_37 mw_1145) rfl rfl rfl (by decide +kernel) ⟨Nat.le_of_ble_eq_true rfl, Nat.le_of_ble_eq_true rfl⟩) (sg_preV (ci := 11) (C := RX11) (T := TX11) (N := 10) hAX hK hPX hS hZ 0 (by decide) rfl rfl) rfl rfl hl.1 rfl (lv_room (Nat.le_of_ble_eq_true rfl)) dL_law_1050 hcl) hAX hS (fun r1 fX1 LX1 QX1 H locs hqr1 hP1 hkr1 hS => ?_)
  have hPX := hP1
  have hPM := lw_kept hPM hdis hkr1
  obtain ⟨⟨hIX, hkX, eLX, eQX⟩, hvr1, hur1⟩ := hqr1
  rw [eLX, eQX] at hPX
  have hJX : JX fX1 := JX.fr hJX hkX (fun _ => rfl) (fun _ => rfl) (fun _ => rfl) (by intro t j ht; rcases (show t = 0 ∨ t = 1 ∨ t = 2 ∨ t = 3 ∨ t = 4 ∨ t = 5 by omega) with rfl | rfl | rfl | rfl | rfl | rfl <;> rfl)
  refine lv_pop hx hb dL_law_1053 rfl ?_
  refine lv_aload_n hx hb dL_law_1054 rfl (lv_at hl 2 rfl) ?_
  refine lv_aload_n hx hb dL_law_1055 rfl (lv_at hl 0 rfl) ?_
  refine lv_iload_n hx hb dL_law_1056 rfl (lv_at hl 3 rfl) ?_
  refine lv_iconst (v := 1) hx hb dL_law_1057 (by decide) ?_
  refine lv_iadd hx hb dL_law_1058 ?_
  rw [← ev_1]
  refine va_sld hx hb hXs hbl hbA hS (i := v_1) (vp_in_iff.mpr ⟨by omega, by omega⟩) dL_law_1059 ?_
  rw [← ev_3]
  refine lw_callI (va_runV (As := [.int v_3]) (rest := []) ⟨hx, hb, hml, hown, hts⟩ (kX12_sit l D ca za hM hhM fM LM QM hIM (v_3) H.size) (cwV 1 hts (gw_V (fun _ h => h) mw_1150 mw_1151 mw_1152 mw_619 mw_1149) rfl rfl rfl (by decide +kernel) ⟨Nat.le_of_ble_eq_true rfl, Nat.le_of_ble_eq_true rfl⟩) (sg_preV (ci := 12) (C := RX12) (T := TX12) (N := 55) hAM hK hPM hS (show sgZ zcM za (fun q => s.heap.size ≤ q) s.heap.size s from fun i q h => by simp [zcM] at h) 0 (by decide) rfl rfl) rfl rfl hl.1 rfl (lv_room (Nat.le_of_ble_eq_true rfl)) dL_law_1060 hcl) hAM hS (fun r2 fM1 LM1 QM1 H locs hqr2 hP1 hkr2 hS => ?_)
  have hPM := hP1
  have hPX := lw_kept hPX hdis2 hkr2
  obtain ⟨⟨hIM, hkM, eLM, eQM⟩, hvr2, hur2⟩ := hqr2
  rw [eLM, eQM] at hPM
  have hJM : JM fM1 := JM.fr hJM hkM (fun _ => rfl) (fun _ => rfl) (fun _ => rfl) rfl rfl
  refine lv_pop hx hb dL_law_1063 rfl ?_
  refine lv_goto (tgt := 1578) hx hb dL_law_1064 (by decide) ?_
  exact hJ _ _ _ _ _ _ _ _ _ ⟨hIX, hJX, hIM, hJM, ⟨rDesk.fr hR.1 (hkX 36 2 (by decide)) (fun j => hkX 37 j (by rfl)) (hkM 0 45 (by decide)) (fun j => hkM 20 j (by rfl)), rTrace.fr hR.2.1 (hkX 36 3 (by decide)) (fun j => hkX 38 j (by rfl)) (hkM 0 48 (by decide)) (fun j => hkM 21 j (by rfl)), rShelf.fr hR.2.2.1 (fun t j => hkX _ _ (sgin_lo (c := 40) (by decide) (by omega))) (hkX 36 2 (by decide)) (fun j => hkM 22 j (by rfl)) (fun j => hkM 23 j (by rfl)), rEl.fr hR.2.2.2.1 (fun t j => hkX _ _ (sgin_lo (c := 40) (by decide) (by omega))), rNum.fr hR.2.2.2.2.1 (hkX 1 3 (by decide)) (fun j => hkX 2 j (by rfl)) (hkM 0 6 (by decide)) (fun j => hkM 1 j (by rfl)), rChg.fr hR.2.2.2.2.2.1 (hkX 1 3 (by decide)) (hkX 32 3 (by decide)) (hkX 32 4 (by decide)) (fun j => hkX 33 j (by rfl)) (fun j => hkX 34 j (by rfl)) (fun j => hkX 35 j (by rfl)) (hkM 0 5 (by decide)) (hkM 0 4 (by decide)) (fun j => hkM 2 j (by rfl)) (fun j => hkM 3 j (by rfl)) (fun j => hkM 4 j (by rfl)), rByte.fr hR.2.2.2.2.2.2.1 (fun t j => hkX _ _ (sgin_lo (c := 40) (by decide) (by omega))), rTape.fr hR.2.2.2.2.2.2.2.1 (hkX 4 1 (by decide)) (fun j => hkX 5 j (by rfl)) (hkM 0 9 (by decide)) (fun j => hkM 6 j (by rfl)), (hR.2.2.2.2.2.2.2.2.1.used hR.2.2.2.2.1 (fun hl T n hm hq hc hC => (t_sit ⟨hR.2.2.2.2.1, hR.2.2.1, hR.2.2.2.1, hR.2.2.2.2.2.2.1, hR.2.2.2.2.2.2.2.2.2.1, hR.2.2.2.2.2.2.2.2.2.2.1, hIX0⟩ hR.2.2.2.2.2.2.2.2.2.2.2 hm hq hc hC hur1 hur2).2.1) (hkX 4 2 (by decide)) (hkX 4 9 (by decide)) (fun j => hkX 7 j (by rfl)) (hkX 1 3 (by decide)) (fun j => hkX 2 j (by rfl)) (hkX 32 4 (by decide)) (fun j => hkX 33 j (by rfl)) (fun j => hkX 34 j (by rfl)) (fun j => hkX 35 j (by rfl)) (hkM 0 11 (by decide)) (fun j => hkM 7 j (by rfl))), (hR.2.2.2.2.2.2.2.2.1.two hR.2.2.2.2.1 (fun hl T n hm hq hc hC => (t_sit ⟨hR.2.2.2.2.1, hR.2.2.1, hR.2.2.2.1, hR.2.2.2.2.2.2.1, hR.2.2.2.2.2.2.2.2.2.1, hR.2.2.2.2.2.2.2.2.2.2.1, hIX0⟩ hR.2.2.2.2.2.2.2.2.2.2.2 hm hq hc hC hur1 hur2).2.2.1)), rIdle.fr hR.2.2.2.2.2.2.2.2.2.2.1 (hkX 13 7 (by decide)) (hkX 13 9 (by decide)) (hkM 0 20 (by decide)) (hkM 0 22 (by decide)) (hkM 0 23 (by decide)) (hkM 0 24 (by decide)) (fun j => hkM 11 j (by rfl)), (hR.2.2.2.2.2.2.2.2.2.2.2.by_ (hR.2.2.2.2.2.2.2.2.1.two hR.2.2.2.2.1 (fun hl T n hm hq hc hC => (t_sit ⟨hR.2.2.2.2.1, hR.2.2.1, hR.2.2.2.1, hR.2.2.2.2.2.2.1, hR.2.2.2.2.2.2.2.2.2.1, hR.2.2.2.2.2.2.2.2.2.2.1, hIX0⟩ hR.2.2.2.2.2.2.2.2.2.2.2 hm hq hc hC hur1 hur2).2.2.2)) (hkX 28 5 (by decide)) (hkX 30 0 (by decide)) (fun j => hkX 31 j (by rfl)) (hkM 0 43 (by decide)) (fun j => hkM 19 j (by rfl)))⟩⟩ hPX hPM hS (lv_sub hl [0, 1, 2, 3] rfl)

set_option maxHeartbeats 4000000 in
set_option maxRecDepth 100000 in
theorem lc_23 {p : Program} {e : Env} {s : State} {m : MethodId} {below : List Frame} {meth : Method} {cd : Code} {Qz : State → Prop} (l : Launch) {b : Nat} {N : Nat} {xs : Nat → Int32} {D : va_G} {ca : Nat → ClassId} {za hX hM : Nat → Nat} {cells slots : Nat} {H : Heap} {locs : List Loc} {ls : Array Slot} {i : Int32} {fX fM : sg_F} {LX LM : sg_L} {QX QM : sg_Q} (hx : p.tables.exec = Jvm.exec) (hb : cd.code = code) (hml : cd.maxLocals = 4) (hown : s.vm.findClass R_law = some m.cls) (hts : ∀ w ∈ gwL, w.before #[Value.ref b] s = true) (hXs : va_X b N xs s s.heap) (hN : N ≤ 3072) (hi : 0 ≤ i.toInt ∧ i.toInt + 6 ≤ (N : Int)) (hbl : b < s.heap.size) (hK : va_K D vwCl (tyX ca) s) (hZ : sgZ zcX za (fun q => s.heap.size ≤ q) s.heap.size s) (hhX : sgH 52 hX) (hhM : sgH 26 hM) (hAX : sgY (fun q => s.heap.size ≤ q) 52 hX s.heap.size) (hAM : sgY (fun q => s.heap.size ≤ q) 26 hM s.heap.size) (hdis : ∀ i j : Nat, i < 52 → j < 26 → hX i ≠ hM j) (hdis2 : ∀ i j : Nat, i < 26 → j < 52 → hM i ≠ hX j) (hcl : cells ≤ room_1.cells ∧ slots ≤ room_1.slots) (hV : lwInv fX LX QX fM LM QM) (hPX : va_P D vwCl (sgw 52 hX (eX ca hX) fX LX QX) H) (hPM : va_P D vwCl (sgw 26 hM (eM ca hM) fM LM QM) H) (hS : va_S (fun q => s.heap.size ≤ q) s.heap H locs) (hl : lv_has ls 4 [(0, .ref b), (1, .ref (hX 0)), (2, .ref (hM 0)), (3, .int i)]) (hJ : ∀ (fX : sg_F) (LX : sg_L) (QX : sg_Q) (fM : sg_F) (LM : sg_L) (QM : sg_Q) (H : Heap) (locs : List Loc) (ls : Array Slot), lwInv fX LX QX fM LM QM → va_P D vwCl (sgw 52 hX (eX ca hX) fX LX QX) H → va_P D vwCl (sgw 26 hM (eM ca hM) fM LM QM) H → va_S (fun q => s.heap.size ≤ q) s.heap H locs → lv_has ls 4 [(0, .ref b), (1, .ref (hX 0)), (2, .ref (hM 0)), (3, .int i)] → W p l e room_1 s m #[Value.ref b] below meth cd H locs cells slots Qz (F0 m 1578 ls [])) : W p l e room_1 s m #[Value.ref b] below meth cd H locs cells slots Qz (F0 m 1067 ls []) := by
  have hbA : ¬ (fun q => s.heap.size ≤ q) b := Nat.not_le.mpr hbl
  have hown : s.vm.findClass RL = some m.cls := hown
  obtain ⟨hIX, hJX, hIM, hJM, hR⟩ := hV
  have hIX0 := hIX; have hIM0 := hIM; have hJM0 := hJM
  refine lv_aload_n hx hb dL_law_1067 rfl (lv_at hl 1 rfl) ?_
  refine lv_aload_n hx hb dL_law_1068 rfl (lv_at hl 0 rfl) ?_
  refine lv_iload_n hx hb dL_law_1069 rfl (lv_at hl 3 rfl) ?_
  refine lv_iconst (v := 1) hx hb dL_law_1070 (by decide) ?_
  refine lv_iadd hx hb dL_law_1071 ?_
  refine lv_topi (fun v_1 ev_1 => ?_)
  have q_2 : v_1.toInt = i.toInt + 1 := by rw [ev_1]; have k1 : (1 : Int32).toInt = 1 := (by decide); exact (bn_addI (by omega) (by omega)).trans (by omega)
  refine va_sld hx hb hXs hbl hbA hS (i := v_1) (vp_in_iff.mpr ⟨by omega, by omega⟩) dL_law_1072 ?_
  refine lv_topi (fun v_3 ev_3 => ?_)
  refine lv_aload_n hx hb dL_law_1073 rfl (lv_at hl 0 rfl) ?_
  refine lv_iload_n hx hb dL_law_1074 rfl (lv_at hl 3 rfl) ?_
  refine lv_iconst (v := 2) hx hb dL_law_1075 (by decide) ?_
  refine lv_iadd hx hb dL_law_1076 ?_
  refine lv_topi (fun v_4 ev_4 => ?_)
  have q_5 : v_4.toInt = i.toInt + 2 := by rw [ev_4]; have k1 : (2 : Int32).toInt = 2 := (by decide); exact (bn_addI (by omega) (by omega)).trans (by omega)
  refine va_sld hx hb hXs hbl hbA hS (i := v_4) (vp_in_iff.mpr ⟨by omega, by omega⟩) dL_law_1077 ?_
  refine lv_topi (fun v_6 ev_6 => ?_)
  refine lw_callI (va_runV (As := [.int v_3, .int v_6]) (rest := []) ⟨hx, hb, hml, hown, hts⟩ (kX11_set l D ca za hX hhX fX LX QX hIX (v_3) (v_6) H.size) (cwV 2 hts (gw_V (fun _ h => h) mw_1154 mw_1155 mw_1156 mw_37 mw_1153) rfl rfl rfl (by decide +kernel) ⟨Nat.le_of_ble_eq_true rfl, Nat.le_of_ble_eq_true rfl⟩) (sg_preV (ci := 11) (C := RX11) (T := TX11) (N := 10) hAX hK hPX hS hZ 0 (by decide) rfl rfl) rfl rfl hl.1 rfl (lv_room (Nat.le_of_ble_eq_true rfl)) dL_law_1078 hcl) hAX hS (fun r1 fX1 LX1 QX1 H locs hqr1 hP1 hkr1 hS => ?_)
  have hPX := hP1
  have hPM := lw_kept hPM hdis hkr1
  obtain ⟨⟨hIX, hkX, eLX, eQX⟩, hvr1, hur1⟩ := hqr1
  rw [eLX, eQX] at hPX
  have hJX : JX fX1 := JX.fr hJX hkX (fun _ => rfl) (fun _ => rfl) (fun _ => rfl) (by intro t j ht; rcases (show t = 0 ∨ t = 1 ∨ t = 2 ∨ t = 3 ∨ t = 4 ∨ t = 5 by omega) with rfl | rfl | rfl | rfl | rfl | rfl <;> rfl)
  refine lv_pop hx hb dL_law_1081 rfl ?_
  refine lv_aload_n hx hb dL_law_1082 rfl (lv_at hl 2 rfl) ?_
  refine lv_aload_n hx hb dL_law_1083 rfl (lv_at hl 0 rfl) ?_
  refine lv_iload_n hx hb dL_law_1084 rfl (lv_at hl 3 rfl) ?_
  refine lv_iconst (v := 1) hx hb dL_law_1085 (by decide) ?_
  refine lv_iadd hx hb dL_law_1086 ?_
  rw [← ev_1]
  refine va_sld hx hb hXs hbl hbA hS (i := v_1) (vp_in_iff.mpr ⟨by omega, by omega⟩) dL_law_1087 ?_
  rw [← ev_3]
  refine lv_aload_n hx hb dL_law_1088 rfl (lv_at hl 0 rfl) ?_
  refine lv_iload_n hx hb dL_law_1089 rfl (lv_at hl 3 rfl) ?_
  refine lv_iconst (v := 2) hx hb dL_law_1090 (by decide) ?_
  refine lv_iadd hx hb dL_law_1091 ?_
  rw [← ev_4]
  refine va_sld hx hb hXs hbl hbA hS (i := v_4) (vp_in_iff.mpr ⟨by omega, by omega⟩) dL_law_1092 ?_
  rw [← ev_6]
  refine lw_callI (va_runV (As := [.int v_3, .int v_6]) (rest := []) ⟨hx, hb, hml, hown, hts⟩ (kX12_set l D ca za hM hhM fM LM QM hIM (v_3) (v_6) H.size) (cwV 2 hts (gw_V (fun _ h => h) mw_1158 mw_1159 mw_1160 mw_619 mw_1157) rfl rfl rfl (by decide +kernel) ⟨Nat.le_of_ble_eq_true rfl, Nat.le_of_ble_eq_true rfl⟩) (sg_preV (ci := 12) (C := RX12) (T := TX12) (N := 55) hAM hK hPM hS (show sgZ zcM za (fun q => s.heap.size ≤ q) s.heap.size s from fun i q h => by simp [zcM] at h) 0 (by decide) rfl rfl) rfl rfl hl.1 rfl (lv_room (Nat.le_of_ble_eq_true rfl)) dL_law_1093 hcl) hAM hS (fun r2 fM1 LM1 QM1 H locs hqr2 hP1 hkr2 hS => ?_)
  have hPM := hP1
  have hPX := lw_kept hPX hdis2 hkr2
  obtain ⟨⟨hIM, hkM, eLM, eQM⟩, hvr2, hur2⟩ := hqr2
  rw [eLM, eQM] at hPM
  have hJM : JM fM1 := JM.fr hJM hkM (fun _ => rfl) (fun _ => rfl) (fun _ => rfl) rfl rfl
  refine lv_pop hx hb dL_law_1096 rfl ?_
  refine lv_goto (tgt := 1578) hx hb dL_law_1097 (by decide) ?_
  exact hJ _ _ _ _ _ _ _ _ _ ⟨hIX, hJX, hIM, hJM, ⟨rDesk.fr hR.1 (hkX 36 2 (by decide)) (fun j => hkX 37 j (by rfl)) (hkM 0 45 (by decide)) (fun j => hkM 20 j (by rfl)), rTrace.fr hR.2.1 (hkX 36 3 (by decide)) (fun j => hkX 38 j (by rfl)) (hkM 0 48 (by decide)) (fun j => hkM 21 j (by rfl)), rShelf.fr hR.2.2.1 (fun t j => hkX _ _ (sgin_lo (c := 40) (by decide) (by omega))) (hkX 36 2 (by decide)) (fun j => hkM 22 j (by rfl)) (fun j => hkM 23 j (by rfl)), rEl.fr hR.2.2.2.1 (fun t j => hkX _ _ (sgin_lo (c := 40) (by decide) (by omega))), rNum.fr hR.2.2.2.2.1 (hkX 1 3 (by decide)) (fun j => hkX 2 j (by rfl)) (hkM 0 6 (by decide)) (fun j => hkM 1 j (by rfl)), rChg.fr hR.2.2.2.2.2.1 (hkX 1 3 (by decide)) (hkX 32 3 (by decide)) (hkX 32 4 (by decide)) (fun j => hkX 33 j (by rfl)) (fun j => hkX 34 j (by rfl)) (fun j => hkX 35 j (by rfl)) (hkM 0 5 (by decide)) (hkM 0 4 (by decide)) (fun j => hkM 2 j (by rfl)) (fun j => hkM 3 j (by rfl)) (fun j => hkM 4 j (by rfl)), rByte.fr hR.2.2.2.2.2.2.1 (fun t j => hkX _ _ (sgin_lo (c := 40) (by decide) (by omega))), rTape.fr hR.2.2.2.2.2.2.2.1 (hkX 4 1 (by decide)) (fun j => hkX 5 j (by rfl)) (hkM 0 9 (by decide)) (fun j => hkM 6 j (by rfl)), rLs.fr hR.2.2.2.2.2.2.2.2.1 (hkX 4 2 (by decide)) (hkX 4 9 (by decide)) (fun j => hkX 7 j (by rfl)) (hkX 1 3 (by decide)) (fun j => hkX 2 j (by rfl)) (hkX 32 4 (by decide)) (fun j => hkX 33 j (by rfl)) (fun j => hkX 34 j (by rfl)) (fun j => hkX 35 j (by rfl)) (fun j => hkX 9 j (by rfl)) (hkM 0 11 (by decide)) (fun j => hkM 7 j (by rfl)), ((t_sets hR.2.2.2.2.2.2.2.2.2.1 hIX0 hur1 hur2).2.1), rIdle.fr hR.2.2.2.2.2.2.2.2.2.2.1 (hkX 13 7 (by decide)) (hkX 13 9 (by decide)) (hkM 0 20 (by decide)) (hkM 0 22 (by decide)) (hkM 0 23 (by decide)) (hkM 0 24 (by decide)) (fun j => hkM 11 j (by rfl)), (hR.2.2.2.2.2.2.2.2.2.2.2.fr (t_sets hR.2.2.2.2.2.2.2.2.2.1 hIX0 hur1 hur2).2.2 (hkX 28 5 (by decide)) (hkX 30 0 (by decide)) (fun j => hkX 31 j (by rfl)) (hkM 0 38 (by decide)) (hkM 0 43 (by decide)) (fun j => hkM 19 j (by rfl)))⟩⟩ hPX hPM hS (lv_sub hl [0, 1, 2, 3] rfl)

set_option maxHeartbeats 4000000 in
set_option maxRecDepth 100000 in
theorem lc_24 {p : Program} {e : Env} {s : State} {m : MethodId} {below : List Frame} {meth : Method} {cd : Code} {Qz : State → Prop} (l : Launch) {b : Nat} {N : Nat} {xs : Nat → Int32} {D : va_G} {ca : Nat → ClassId} {za hX hM : Nat → Nat} {cells slots : Nat} {H : Heap} {locs : List Loc} {ls : Array Slot} {i : Int32} {fX fM : sg_F} {LX LM : sg_L} {QX QM : sg_Q} (hx : p.tables.exec = Jvm.exec) (hb : cd.code = code) (hml : cd.maxLocals = 4) (hown : s.vm.findClass R_law = some m.cls) (hts : ∀ w ∈ gwL, w.before #[Value.ref b] s = true) (hXs : va_X b N xs s s.heap) (hN : N ≤ 3072) (hi : 0 ≤ i.toInt ∧ i.toInt + 6 ≤ (N : Int)) (hbl : b < s.heap.size) (hK : va_K D vwCl (tyX ca) s) (hZ : sgZ zcX za (fun q => s.heap.size ≤ q) s.heap.size s) (hhX : sgH 52 hX) (hhM : sgH 26 hM) (hAX : sgY (fun q => s.heap.size ≤ q) 52 hX s.heap.size) (hAM : sgY (fun q => s.heap.size ≤ q) 26 hM s.heap.size) (hdis : ∀ i j : Nat, i < 52 → j < 26 → hX i ≠ hM j) (hdis2 : ∀ i j : Nat, i < 26 → j < 52 → hM i ≠ hX j) (hcl : cells ≤ room_1.cells ∧ slots ≤ room_1.slots) (hV : lwInv fX LX QX fM LM QM) (hPX : va_P D vwCl (sgw 52 hX (eX ca hX) fX LX QX) H) (hPM : va_P D vwCl (sgw 26 hM (eM ca hM) fM LM QM) H) (hS : va_S (fun q => s.heap.size ≤ q) s.heap H locs) (hl : lv_has ls 4 [(0, .ref b), (1, .ref (hX 0)), (2, .ref (hM 0)), (3, .int i)]) (hJ : ∀ (fX : sg_F) (LX : sg_L) (QX : sg_Q) (fM : sg_F) (LM : sg_L) (QM : sg_Q) (H : Heap) (locs : List Loc) (ls : Array Slot), lwInv fX LX QX fM LM QM → va_P D vwCl (sgw 52 hX (eX ca hX) fX LX QX) H → va_P D vwCl (sgw 26 hM (eM ca hM) fM LM QM) H → va_S (fun q => s.heap.size ≤ q) s.heap H locs → lv_has ls 4 [(0, .ref b), (1, .ref (hX 0)), (2, .ref (hM 0)), (3, .int i)] → W p l e room_1 s m #[Value.ref b] below meth cd H locs cells slots Qz (F0 m 1578 ls [])) : W p l e room_1 s m #[Value.ref b] below meth cd H locs cells slots Qz (F0 m 1100 ls []) := by
  have hbA : ¬ (fun q => s.heap.size ≤ q) b := Nat.not_le.mpr hbl
  have hown : s.vm.findClass RL = some m.cls := hown
  obtain ⟨hIX, hJX, hIM, hJM, hR⟩ := hV
  have hIX0 := hIX; have hIM0 := hIM; have hJM0 := hJM
  refine lv_aload_n hx hb dL_law_1100 rfl (lv_at hl 1 rfl) ?_
  refine lw_callI (va_runV (As := []) (rest := []) ⟨hx, hb, hml, hown, hts⟩ (kX11_night l D ca za hX hhX fX LX QX hIX  H.size) (cwV 0 hts (gw_V (fun _ h => h) mw_1162 mw_1163 mw_1164 mw_37 mw_1161) rfl rfl rfl (by decide +kernel) ⟨Nat.le_of_ble_eq_true rfl, Nat.le_of_ble_eq_true rfl⟩) (sg_preV (ci := 11) (C := RX11) (T := TX11) (N := 10) hAX hK hPX hS hZ 0 (by decide) rfl rfl) rfl rfl hl.1 rfl (lv_room (Nat.le_of_ble_eq_true rfl)) dL_law_1101 hcl) hAX hS (fun r1 fX1 LX1 QX1 H locs hqr1 hP1 hkr1 hS => ?_)
  have hPX := hP1
  have hPM := lw_kept hPM hdis hkr1
  obtain ⟨⟨hIX, hkX, eLX, eQX⟩, hvr1, hur1⟩ := hqr1
  rw [eLX, eQX] at hPX
  have hJX : JX fX1 := JX.fr hJX hkX (fun _ => rfl) (fun _ => rfl) (fun _ => rfl) (by intro t j ht; rcases (show t = 0 ∨ t = 1 ∨ t = 2 ∨ t = 3 ∨ t = 4 ∨ t = 5 by omega) with rfl | rfl | rfl | rfl | rfl | rfl <;> rfl)
  refine lv_pop hx hb dL_law_1104 rfl ?_
  refine lv_aload_n hx hb dL_law_1105 rfl (lv_at hl 2 rfl) ?_
  refine lw_callI (va_runV (As := []) (rest := []) ⟨hx, hb, hml, hown, hts⟩ (kX12_night l D ca za hM hhM fM LM QM hIM  H.size) (cwV 0 hts (gw_V (fun _ h => h) mw_1166 mw_1167 mw_1168 mw_619 mw_1165) rfl rfl rfl (by decide +kernel) ⟨Nat.le_of_ble_eq_true rfl, Nat.le_of_ble_eq_true rfl⟩) (sg_preV (ci := 12) (C := RX12) (T := TX12) (N := 55) hAM hK hPM hS (show sgZ zcM za (fun q => s.heap.size ≤ q) s.heap.size s from fun i q h => by simp [zcM] at h) 0 (by decide) rfl rfl) rfl rfl hl.1 rfl (lv_room (Nat.le_of_ble_eq_true rfl)) dL_law_1106 hcl) hAM hS (fun r2 fM1 LM1 QM1 H locs hqr2 hP1 hkr2 hS => ?_)
  have hPM := hP1
  have hPX := lw_kept hPX hdis2 hkr2
  obtain ⟨⟨hIM, hkM, eLM, eQM⟩, hvr2, hur2⟩ := hqr2
  rw [eLM, eQM] at hPM
  have hJM : JM fM1 := JM.fr hJM hkM (fun _ => rfl) (fun _ => rfl) (fun _ => rfl) rfl rfl
  refine lv_pop hx hb dL_law_1109 rfl ?_
  refine lv_goto (tgt := 1578) hx hb dL_law_1110 (by decide) ?_
  exact hJ _ _ _ _ _ _ _ _ _ ⟨hIX, hJX, hIM, hJM, ⟨rDesk.fr hR.1 (hkX 36 2 (by decide)) (fun j => hkX 37 j (by rfl)) (hkM 0 45 (by decide)) (fun j => hkM 20 j (by rfl)), rTrace.fr hR.2.1 (hkX 36 3 (by decide)) (fun j => hkX 38 j (by rfl)) (hkM 0 48 (by decide)) (fun j => hkM 21 j (by rfl)), rShelf.fr hR.2.2.1 (fun t j => hkX _ _ (sgin_lo (c := 40) (by decide) (by omega))) (hkX 36 2 (by decide)) (fun j => hkM 22 j (by rfl)) (fun j => hkM 23 j (by rfl)), rEl.fr hR.2.2.2.1 (fun t j => hkX _ _ (sgin_lo (c := 40) (by decide) (by omega))), rNum.fr hR.2.2.2.2.1 (hkX 1 3 (by decide)) (fun j => hkX 2 j (by rfl)) (hkM 0 6 (by decide)) (fun j => hkM 1 j (by rfl)), rChg.fr hR.2.2.2.2.2.1 (hkX 1 3 (by decide)) (hkX 32 3 (by decide)) (hkX 32 4 (by decide)) (fun j => hkX 33 j (by rfl)) (fun j => hkX 34 j (by rfl)) (fun j => hkX 35 j (by rfl)) (hkM 0 5 (by decide)) (hkM 0 4 (by decide)) (fun j => hkM 2 j (by rfl)) (fun j => hkM 3 j (by rfl)) (fun j => hkM 4 j (by rfl)), rByte.fr hR.2.2.2.2.2.2.1 (fun t j => hkX _ _ (sgin_lo (c := 40) (by decide) (by omega))), rTape.fr hR.2.2.2.2.2.2.2.1 (hkX 4 1 (by decide)) (fun j => hkX 5 j (by rfl)) (hkM 0 9 (by decide)) (fun j => hkM 6 j (by rfl)), rLs.fr hR.2.2.2.2.2.2.2.2.1 (hkX 4 2 (by decide)) (hkX 4 9 (by decide)) (fun j => hkX 7 j (by rfl)) (hkX 1 3 (by decide)) (fun j => hkX 2 j (by rfl)) (hkX 32 4 (by decide)) (fun j => hkX 33 j (by rfl)) (fun j => hkX 34 j (by rfl)) (fun j => hkX 35 j (by rfl)) (fun j => hkX 9 j (by rfl)) (hkM 0 11 (by decide)) (fun j => hkM 7 j (by rfl)), (hR.2.2.2.2.2.2.2.2.1.two hR.2.2.2.2.1 (fun hl T n hm hq hc hC => (t_night hR.2.2.2.2.2.2.2.2.2.1 hIX0 hq hC hur1 hur2).2)), rIdle.fr hR.2.2.2.2.2.2.2.2.2.2.1 (hkX 13 7 (by decide)) (hkX 13 9 (by decide)) (hkM 0 20 (by decide)) (hkM 0 22 (by decide)) (hkM 0 23 (by decide)) (hkM 0 24 (by decide)) (fun j => hkM 11 j (by rfl)), rIm.fr hR.2.2.2.2.2.2.2.2.2.2.2 (hkX 29 0 (by decide)) (hkX 28 5 (by decide)) (hkX 30 0 (by decide)) (fun j => hkX 31 j (by rfl)) (hkM 0 38 (by decide)) (hkM 0 43 (by decide)) (fun j => hkM 19 j (by rfl))⟩⟩ hPX hPM hS (lv_sub hl [0, 1, 2, 3] rfl)

set_option maxHeartbeats 4000000 in
set_option maxRecDepth 100000 in
theorem lc_25 {p : Program} {e : Env} {s : State} {m : MethodId} {below : List Frame} {meth : Method} {cd : Code} {Qz : State → Prop} (l : Launch) {b : Nat} {N : Nat} {xs : Nat → Int32} {D : va_G} {ca : Nat → ClassId} {za hX hM : Nat → Nat} {cells slots : Nat} {H : Heap} {locs : List Loc} {ls : Array Slot} {i : Int32} {fX fM : sg_F} {LX LM : sg_L} {QX QM : sg_Q} (hx : p.tables.exec = Jvm.exec) (hb : cd.code = code) (hml : cd.maxLocals = 4) (hown : s.vm.findClass R_law = some m.cls) (hts : ∀ w ∈ gwL, w.before #[Value.ref b] s = true) (hXs : va_X b N xs s s.heap) (hN : N ≤ 3072) (hi : 0 ≤ i.toInt ∧ i.toInt + 6 ≤ (N : Int)) (hbl : b < s.heap.size) (hK : va_K D vwCl (tyX ca) s) (hZ : sgZ zcX za (fun q => s.heap.size ≤ q) s.heap.size s) (hhX : sgH 52 hX) (hhM : sgH 26 hM) (hAX : sgY (fun q => s.heap.size ≤ q) 52 hX s.heap.size) (hAM : sgY (fun q => s.heap.size ≤ q) 26 hM s.heap.size) (hdis : ∀ i j : Nat, i < 52 → j < 26 → hX i ≠ hM j) (hdis2 : ∀ i j : Nat, i < 26 → j < 52 → hM i ≠ hX j) (hcl : cells ≤ room_1.cells ∧ slots ≤ room_1.slots) (hV : lwInv fX LX QX fM LM QM) (hPX : va_P D vwCl (sgw 52 hX (eX ca hX) fX LX QX) H) (hPM : va_P D vwCl (sgw 26 hM (eM ca hM) fM LM QM) H) (hS : va_S (fun q => s.heap.size ≤ q) s.heap H locs) (hl : lv_has ls 4 [(0, .ref b), (1, .ref (hX 0)), (2, .ref (hM 0)), (3, .int i)]) (hJ : ∀ (fX : sg_F) (LX : sg_L) (QX : sg_Q) (fM : sg_F) (LM : sg_L) (QM : sg_Q) (H : Heap) (locs : List Loc) (ls : Array Slot), lwInv fX LX QX fM LM QM → va_P D vwCl (sgw 52 hX (eX ca hX) fX LX QX) H → va_P D vwCl (sgw 26 hM (eM ca hM) fM LM QM) H → va_S (fun q => s.heap.size ≤ q) s.heap H locs → lv_has ls 4 [(0, .ref b), (1, .ref (hX 0)), (2, .ref (hM 0)), (3, .int i)] → W p l e room_1 s m #[Value.ref b] below meth cd H locs cells slots Qz (F0 m 1578 ls [])) : W p l e room_1 s m #[Value.ref b] below meth cd H locs cells slots Qz (F0 m 1113 ls []) := by
  have hbA : ¬ (fun q => s.heap.size ≤ q) b := Nat.not_le.mpr hbl
  have hown : s.vm.findClass RL = some m.cls := hown
  obtain ⟨hIX, hJX, hIM, hJM, hR⟩ := hV
  have hIX0 := hIX; have hIM0 := hIM; have hJM0 := hJM
  refine lv_aload_n hx hb dL_law_1113 rfl (lv_at hl 1 rfl) ?_
  refine lv_aload_n hx hb dL_law_1114 rfl (lv_at hl 0 rfl) ?_
  refine lv_iload_n hx hb dL_law_1115 rfl (lv_at hl 3 rfl) ?_
  refine lv_iconst (v := 1) hx hb dL_law_1116 (by decide) ?_
  refine lv_iadd hx hb dL_law_1117 ?_
  refine lv_topi (fun v_1 ev_1 => ?_)
  have q_2 : v_1.toInt = i.toInt + 1 := by rw [ev_1]; have k1 : (1 : Int32).toInt = 1 := (by decide); exact (bn_addI (by omega) (by omega)).trans (by omega)
  refine va_sld hx hb hXs hbl hbA hS (i := v_1) (vp_in_iff.mpr ⟨by omega, by omega⟩) dL_law_1118 ?_
  refine lv_topi (fun v_3 ev_3 => ?_)
  refine lw_callI (va_runV (As := [.int v_3]) (rest := []) ⟨hx, hb, hml, hown, hts⟩ (kX11_led l D ca za hX hhX fX LX QX hIX (v_3) H.size) (cwV 1 hts (gw_V (fun _ h => h) mw_1170 mw_1171 mw_1172 mw_37 mw_1169) rfl rfl rfl (by decide +kernel) ⟨Nat.le_of_ble_eq_true rfl, Nat.le_of_ble_eq_true rfl⟩) (sg_preV (ci := 11) (C := RX11) (T := TX11) (N := 10) hAX hK hPX hS hZ 0 (by decide) rfl rfl) rfl rfl hl.1 rfl (lv_room (Nat.le_of_ble_eq_true rfl)) dL_law_1119 hcl) hAX hS (fun r1 fX1 LX1 QX1 H locs hqr1 hP1 hkr1 hS => ?_)
  have hPX := hP1
  have hPM := lw_kept hPM hdis hkr1
  obtain ⟨⟨efX, eLX, eQX⟩, hvr1, hur1⟩ := hqr1
  rw [efX, eLX, eQX] at hPX
  refine lv_pop hx hb dL_law_1122 rfl ?_
  refine lv_aload_n hx hb dL_law_1123 rfl (lv_at hl 2 rfl) ?_
  refine lv_aload_n hx hb dL_law_1124 rfl (lv_at hl 0 rfl) ?_
  refine lv_iload_n hx hb dL_law_1125 rfl (lv_at hl 3 rfl) ?_
  refine lv_iconst (v := 1) hx hb dL_law_1126 (by decide) ?_
  refine lv_iadd hx hb dL_law_1127 ?_
  rw [← ev_1]
  refine va_sld hx hb hXs hbl hbA hS (i := v_1) (vp_in_iff.mpr ⟨by omega, by omega⟩) dL_law_1128 ?_
  rw [← ev_3]
  refine lw_callI (va_runV (As := [.int v_3]) (rest := []) ⟨hx, hb, hml, hown, hts⟩ (kX12_led l D ca za hM hhM fM LM QM hIM (v_3) H.size) (cwV 1 hts (gw_V (fun _ h => h) mw_1173 mw_617 mw_618 mw_619 mw_615) rfl rfl rfl (by decide +kernel) ⟨Nat.le_of_ble_eq_true rfl, Nat.le_of_ble_eq_true rfl⟩) (sg_preV (ci := 12) (C := RX12) (T := TX12) (N := 55) hAM hK hPM hS (show sgZ zcM za (fun q => s.heap.size ≤ q) s.heap.size s from fun i q h => by simp [zcM] at h) 0 (by decide) rfl rfl) rfl rfl hl.1 rfl (lv_room (Nat.le_of_ble_eq_true rfl)) dL_law_1129 hcl) hAM hS (fun r2 fM1 LM1 QM1 H locs hqr2 hP1 hkr2 hS => ?_)
  have hPM := hP1
  have hPX := lw_kept hPX hdis2 hkr2
  obtain ⟨⟨efM, eLM, eQM⟩, hvr2, hur2⟩ := hqr2
  rw [efM, eLM, eQM] at hPM
  refine lv_pop hx hb dL_law_1132 rfl ?_
  refine lv_goto (tgt := 1578) hx hb dL_law_1133 (by decide) ?_
  exact hJ _ _ _ _ _ _ _ _ _ ⟨hIX, hJX, hIM, hJM, ⟨rDesk.fr hR.1 (sgK.rf0 36 2 (by decide)) (fun j => sgK.rf0 37 j (by rfl)) (sgK.rf0 0 45 (by decide)) (fun j => sgK.rf0 20 j (by rfl)), rTrace.fr hR.2.1 (sgK.rf0 36 3 (by decide)) (fun j => sgK.rf0 38 j (by rfl)) (sgK.rf0 0 48 (by decide)) (fun j => sgK.rf0 21 j (by rfl)), rShelf.fr hR.2.2.1 (fun t j => sgK.rf0 _ _ (sgin_lo (c := 40) (by decide) (by omega))) (sgK.rf0 36 2 (by decide)) (fun j => sgK.rf0 22 j (by rfl)) (fun j => sgK.rf0 23 j (by rfl)), rEl.fr hR.2.2.2.1 (fun t j => sgK.rf0 _ _ (sgin_lo (c := 40) (by decide) (by omega))), rNum.fr hR.2.2.2.2.1 (sgK.rf0 1 3 (by decide)) (fun j => sgK.rf0 2 j (by rfl)) (sgK.rf0 0 6 (by decide)) (fun j => sgK.rf0 1 j (by rfl)), rChg.fr hR.2.2.2.2.2.1 (sgK.rf0 1 3 (by decide)) (sgK.rf0 32 3 (by decide)) (sgK.rf0 32 4 (by decide)) (fun j => sgK.rf0 33 j (by rfl)) (fun j => sgK.rf0 34 j (by rfl)) (fun j => sgK.rf0 35 j (by rfl)) (sgK.rf0 0 5 (by decide)) (sgK.rf0 0 4 (by decide)) (fun j => sgK.rf0 2 j (by rfl)) (fun j => sgK.rf0 3 j (by rfl)) (fun j => sgK.rf0 4 j (by rfl)), rByte.fr hR.2.2.2.2.2.2.1 (fun t j => sgK.rf0 _ _ (sgin_lo (c := 40) (by decide) (by omega))), rTape.fr hR.2.2.2.2.2.2.2.1 (sgK.rf0 4 1 (by decide)) (fun j => sgK.rf0 5 j (by rfl)) (sgK.rf0 0 9 (by decide)) (fun j => sgK.rf0 6 j (by rfl)), rLs.fr hR.2.2.2.2.2.2.2.2.1 (sgK.rf0 4 2 (by decide)) (sgK.rf0 4 9 (by decide)) (fun j => sgK.rf0 7 j (by rfl)) (sgK.rf0 1 3 (by decide)) (fun j => sgK.rf0 2 j (by rfl)) (sgK.rf0 32 4 (by decide)) (fun j => sgK.rf0 33 j (by rfl)) (fun j => sgK.rf0 34 j (by rfl)) (fun j => sgK.rf0 35 j (by rfl)) (fun j => sgK.rf0 9 j (by rfl)) (sgK.rf0 0 11 (by decide)) (fun j => sgK.rf0 7 j (by rfl)), rSt.fr hR.2.2.2.2.2.2.2.2.2.1 (fun j => sgK.rf0 3 j (by rfl)) (fun j => sgK.rf0 5 j (by rfl)), rIdle.fr hR.2.2.2.2.2.2.2.2.2.2.1 (sgK.rf0 13 7 (by decide)) (sgK.rf0 13 9 (by decide)) (sgK.rf0 0 20 (by decide)) (sgK.rf0 0 22 (by decide)) (sgK.rf0 0 23 (by decide)) (sgK.rf0 0 24 (by decide)) (fun j => sgK.rf0 11 j (by rfl)), rIm.fr hR.2.2.2.2.2.2.2.2.2.2.2 (sgK.rf0 29 0 (by decide)) (sgK.rf0 28 5 (by decide)) (sgK.rf0 30 0 (by decide)) (fun j => sgK.rf0 31 j (by rfl)) (sgK.rf0 0 38 (by decide)) (sgK.rf0 0 43 (by decide)) (fun j => sgK.rf0 19 j (by rfl))⟩⟩ hPX hPM hS (lv_sub hl [0, 1, 2, 3] rfl)

set_option maxHeartbeats 4000000 in
set_option maxRecDepth 100000 in
theorem lc_26 {p : Program} {e : Env} {s : State} {m : MethodId} {below : List Frame} {meth : Method} {cd : Code} {Qz : State → Prop} (l : Launch) {b : Nat} {N : Nat} {xs : Nat → Int32} {D : va_G} {ca : Nat → ClassId} {za hX hM : Nat → Nat} {cells slots : Nat} {H : Heap} {locs : List Loc} {ls : Array Slot} {i : Int32} {fX fM : sg_F} {LX LM : sg_L} {QX QM : sg_Q} (hx : p.tables.exec = Jvm.exec) (hb : cd.code = code) (hml : cd.maxLocals = 4) (hown : s.vm.findClass R_law = some m.cls) (hts : ∀ w ∈ gwL, w.before #[Value.ref b] s = true) (hXs : va_X b N xs s s.heap) (hN : N ≤ 3072) (hi : 0 ≤ i.toInt ∧ i.toInt + 6 ≤ (N : Int)) (hbl : b < s.heap.size) (hK : va_K D vwCl (tyX ca) s) (hZ : sgZ zcX za (fun q => s.heap.size ≤ q) s.heap.size s) (hhX : sgH 52 hX) (hhM : sgH 26 hM) (hAX : sgY (fun q => s.heap.size ≤ q) 52 hX s.heap.size) (hAM : sgY (fun q => s.heap.size ≤ q) 26 hM s.heap.size) (hdis : ∀ i j : Nat, i < 52 → j < 26 → hX i ≠ hM j) (hdis2 : ∀ i j : Nat, i < 26 → j < 52 → hM i ≠ hX j) (hcl : cells ≤ room_1.cells ∧ slots ≤ room_1.slots) (hV : lwInv fX LX QX fM LM QM) (hPX : va_P D vwCl (sgw 52 hX (eX ca hX) fX LX QX) H) (hPM : va_P D vwCl (sgw 26 hM (eM ca hM) fM LM QM) H) (hS : va_S (fun q => s.heap.size ≤ q) s.heap H locs) (hl : lv_has ls 4 [(0, .ref b), (1, .ref (hX 0)), (2, .ref (hM 0)), (3, .int i)]) (hJ : ∀ (fX : sg_F) (LX : sg_L) (QX : sg_Q) (fM : sg_F) (LM : sg_L) (QM : sg_Q) (H : Heap) (locs : List Loc) (ls : Array Slot), lwInv fX LX QX fM LM QM → va_P D vwCl (sgw 52 hX (eX ca hX) fX LX QX) H → va_P D vwCl (sgw 26 hM (eM ca hM) fM LM QM) H → va_S (fun q => s.heap.size ≤ q) s.heap H locs → lv_has ls 4 [(0, .ref b), (1, .ref (hX 0)), (2, .ref (hM 0)), (3, .int i)] → W p l e room_1 s m #[Value.ref b] below meth cd H locs cells slots Qz (F0 m 1578 ls [])) : W p l e room_1 s m #[Value.ref b] below meth cd H locs cells slots Qz (F0 m 1136 ls []) := by
  have hbA : ¬ (fun q => s.heap.size ≤ q) b := Nat.not_le.mpr hbl
  have hown : s.vm.findClass RL = some m.cls := hown
  obtain ⟨hIX, hJX, hIM, hJM, hR⟩ := hV
  have hIX0 := hIX; have hIM0 := hIM; have hJM0 := hJM
  refine lv_aload_n hx hb dL_law_1136 rfl (lv_at hl 1 rfl) ?_
  refine lw_callI (va_runV (As := []) (rest := []) ⟨hx, hb, hml, hown, hts⟩ (kX11_image l D ca za hX hhX fX LX QX hIX  H.size) (cwV 0 hts (gw_V (fun _ h => h) mw_1175 mw_1176 mw_1177 mw_37 mw_1174) rfl rfl rfl (by decide +kernel) ⟨Nat.le_of_ble_eq_true rfl, Nat.le_of_ble_eq_true rfl⟩) (sg_preV (ci := 11) (C := RX11) (T := TX11) (N := 10) hAX hK hPX hS hZ 0 (by decide) rfl rfl) rfl rfl hl.1 rfl (lv_room (Nat.le_of_ble_eq_true rfl)) dL_law_1137 hcl) hAX hS (fun r1 fX1 LX1 QX1 H locs hqr1 hP1 hkr1 hS => ?_)
  have hPX := hP1
  have hPM := lw_kept hPM hdis hkr1
  obtain ⟨⟨hIX, hkX, eLX, eQX⟩, hvr1, hur1⟩ := hqr1
  rw [eLX, eQX] at hPX
  have hJX : JX fX1 := JX.fr hJX hkX (fun _ => rfl) (fun _ => rfl) (fun _ => rfl) (by intro t j ht; rcases (show t = 0 ∨ t = 1 ∨ t = 2 ∨ t = 3 ∨ t = 4 ∨ t = 5 by omega) with rfl | rfl | rfl | rfl | rfl | rfl <;> rfl)
  refine lv_pop hx hb dL_law_1140 rfl ?_
  refine lv_aload_n hx hb dL_law_1141 rfl (lv_at hl 2 rfl) ?_
  refine lw_callI (va_runV (As := []) (rest := []) ⟨hx, hb, hml, hown, hts⟩ (kX12_image l D ca za hM hhM fM LM QM hIM  H.size) (cwV 0 hts (gw_V (fun _ h => h) mw_1179 mw_1180 mw_1181 mw_619 mw_1178) rfl rfl rfl (by decide +kernel) ⟨Nat.le_of_ble_eq_true rfl, Nat.le_of_ble_eq_true rfl⟩) (sg_preV (ci := 12) (C := RX12) (T := TX12) (N := 55) hAM hK hPM hS (show sgZ zcM za (fun q => s.heap.size ≤ q) s.heap.size s from fun i q h => by simp [zcM] at h) 0 (by decide) rfl rfl) rfl rfl hl.1 rfl (lv_room (Nat.le_of_ble_eq_true rfl)) dL_law_1142 hcl) hAM hS (fun r2 fM1 LM1 QM1 H locs hqr2 hP1 hkr2 hS => ?_)
  have hPM := hP1
  have hPX := lw_kept hPX hdis2 hkr2
  obtain ⟨⟨hIM, hkM, eLM, eQM⟩, hvr2, hur2⟩ := hqr2
  rw [eLM, eQM] at hPM
  have hJM : JM fM1 := JM.fr hJM hkM (fun _ => rfl) (fun _ => rfl) (fun _ => rfl) rfl rfl
  refine lv_pop hx hb dL_law_1145 rfl ?_
  refine lv_goto (tgt := 1578) hx hb dL_law_1146 (by decide) ?_
  exact hJ _ _ _ _ _ _ _ _ _ ⟨hIX, hJX, hIM, hJM, ⟨rDesk.fr hR.1 (hkX 36 2 (by decide)) (fun j => hkX 37 j (by rfl)) (hkM 0 45 (by decide)) (fun j => hkM 20 j (by rfl)), rTrace.fr hR.2.1 (hkX 36 3 (by decide)) (fun j => hkX 38 j (by rfl)) (hkM 0 48 (by decide)) (fun j => hkM 21 j (by rfl)), rShelf.fr hR.2.2.1 (fun t j => hkX _ _ (sgin_lo (c := 40) (by decide) (by omega))) (hkX 36 2 (by decide)) (fun j => hkM 22 j (by rfl)) (fun j => hkM 23 j (by rfl)), rEl.fr hR.2.2.2.1 (fun t j => hkX _ _ (sgin_lo (c := 40) (by decide) (by omega))), rNum.fr hR.2.2.2.2.1 (hkX 1 3 (by decide)) (fun j => hkX 2 j (by rfl)) (hkM 0 6 (by decide)) (fun j => hkM 1 j (by rfl)), rChg.fr hR.2.2.2.2.2.1 (hkX 1 3 (by decide)) (hkX 32 3 (by decide)) (hkX 32 4 (by decide)) (fun j => hkX 33 j (by rfl)) (fun j => hkX 34 j (by rfl)) (fun j => hkX 35 j (by rfl)) (hkM 0 5 (by decide)) (hkM 0 4 (by decide)) (fun j => hkM 2 j (by rfl)) (fun j => hkM 3 j (by rfl)) (fun j => hkM 4 j (by rfl)), rByte.fr hR.2.2.2.2.2.2.1 (fun t j => hkX _ _ (sgin_lo (c := 40) (by decide) (by omega))), rTape.fr hR.2.2.2.2.2.2.2.1 (hkX 4 1 (by decide)) (fun j => hkX 5 j (by rfl)) (hkM 0 9 (by decide)) (fun j => hkM 6 j (by rfl)), rLs.fr hR.2.2.2.2.2.2.2.2.1 (hkX 4 2 (by decide)) (hkX 4 9 (by decide)) (fun j => hkX 7 j (by rfl)) (hkX 1 3 (by decide)) (fun j => hkX 2 j (by rfl)) (hkX 32 4 (by decide)) (fun j => hkX 33 j (by rfl)) (fun j => hkX 34 j (by rfl)) (fun j => hkX 35 j (by rfl)) (fun j => hkX 9 j (by rfl)) (hkM 0 11 (by decide)) (fun j => hkM 7 j (by rfl)), rSt.fr hR.2.2.2.2.2.2.2.2.2.1 (fun j => hkX 3 j (by rfl)) (fun j => hkM 5 j (by rfl)), rIdle.fr hR.2.2.2.2.2.2.2.2.2.2.1 (hkX 13 7 (by decide)) (hkX 13 9 (by decide)) (hkM 0 20 (by decide)) (hkM 0 22 (by decide)) (hkM 0 23 (by decide)) (hkM 0 24 (by decide)) (fun j => hkM 11 j (by rfl)), ((t_image hR.2.2.2.2.2.2.2.2.2.1 hR.2.2.2.2.2.2.2.2.2.2.2 hur1 hur2).2)⟩⟩ hPX hPM hS (lv_sub hl [0, 1, 2, 3] rfl)

set_option maxHeartbeats 4000000 in
set_option maxRecDepth 100000 in
theorem lc_27 {p : Program} {e : Env} {s : State} {m : MethodId} {below : List Frame} {meth : Method} {cd : Code} {Qz : State → Prop} (l : Launch) {b : Nat} {N : Nat} {xs : Nat → Int32} {D : va_G} {ca : Nat → ClassId} {za hX hM : Nat → Nat} {cells slots : Nat} {H : Heap} {locs : List Loc} {ls : Array Slot} {i : Int32} {fX fM : sg_F} {LX LM : sg_L} {QX QM : sg_Q} (hx : p.tables.exec = Jvm.exec) (hb : cd.code = code) (hml : cd.maxLocals = 4) (hown : s.vm.findClass R_law = some m.cls) (hts : ∀ w ∈ gwL, w.before #[Value.ref b] s = true) (hXs : va_X b N xs s s.heap) (hN : N ≤ 3072) (hi : 0 ≤ i.toInt ∧ i.toInt + 6 ≤ (N : Int)) (hbl : b < s.heap.size) (hK : va_K D vwCl (tyX ca) s) (hZ : sgZ zcX za (fun q => s.heap.size ≤ q) s.heap.size s) (hhX : sgH 52 hX) (hhM : sgH 26 hM) (hAX : sgY (fun q => s.heap.size ≤ q) 52 hX s.heap.size) (hAM : sgY (fun q => s.heap.size ≤ q) 26 hM s.heap.size) (hdis : ∀ i j : Nat, i < 52 → j < 26 → hX i ≠ hM j) (hdis2 : ∀ i j : Nat, i < 26 → j < 52 → hM i ≠ hX j) (hcl : cells ≤ room_1.cells ∧ slots ≤ room_1.slots) (hV : lwInv fX LX QX fM LM QM) (hPX : va_P D vwCl (sgw 52 hX (eX ca hX) fX LX QX) H) (hPM : va_P D vwCl (sgw 26 hM (eM ca hM) fM LM QM) H) (hS : va_S (fun q => s.heap.size ≤ q) s.heap H locs) (hl : lv_has ls 4 [(0, .ref b), (1, .ref (hX 0)), (2, .ref (hM 0)), (3, .int i)]) (hJ : ∀ (fX : sg_F) (LX : sg_L) (QX : sg_Q) (fM : sg_F) (LM : sg_L) (QM : sg_Q) (H : Heap) (locs : List Loc) (ls : Array Slot), lwInv fX LX QX fM LM QM → va_P D vwCl (sgw 52 hX (eX ca hX) fX LX QX) H → va_P D vwCl (sgw 26 hM (eM ca hM) fM LM QM) H → va_S (fun q => s.heap.size ≤ q) s.heap H locs → lv_has ls 4 [(0, .ref b), (1, .ref (hX 0)), (2, .ref (hM 0)), (3, .int i)] → W p l e room_1 s m #[Value.ref b] below meth cd H locs cells slots Qz (F0 m 1578 ls [])) : W p l e room_1 s m #[Value.ref b] below meth cd H locs cells slots Qz (F0 m 1149 ls []) := by
  have hbA : ¬ (fun q => s.heap.size ≤ q) b := Nat.not_le.mpr hbl
  have hown : s.vm.findClass RL = some m.cls := hown
  obtain ⟨hIX, hJX, hIM, hJM, hR⟩ := hV
  have hIX0 := hIX; have hIM0 := hIM; have hJM0 := hJM
  refine lv_aload_n hx hb dL_law_1149 rfl (lv_at hl 1 rfl) ?_
  refine lw_callI (va_runV (As := []) (rest := []) ⟨hx, hb, hml, hown, hts⟩ (kX11_back l D ca za hX hhX fX LX QX hIX  H.size) (cwV 0 hts (gw_V (fun _ h => h) mw_1183 mw_1184 mw_1185 mw_37 mw_1182) rfl rfl rfl (by decide +kernel) ⟨Nat.le_of_ble_eq_true rfl, Nat.le_of_ble_eq_true rfl⟩) (sg_preV (ci := 11) (C := RX11) (T := TX11) (N := 10) hAX hK hPX hS hZ 0 (by decide) rfl rfl) rfl rfl hl.1 rfl (lv_room (Nat.le_of_ble_eq_true rfl)) dL_law_1150 hcl) hAX hS (fun r1 fX1 LX1 QX1 H locs hqr1 hP1 hkr1 hS => ?_)
  have hPX := hP1
  have hPM := lw_kept hPM hdis hkr1
  obtain ⟨⟨hIX, hkX, eLX, eQX⟩, hvr1, hur1⟩ := hqr1
  rw [eLX, eQX] at hPX
  have hJX : JX fX1 := JX.fr hJX hkX (fun _ => rfl) (fun _ => rfl) (fun _ => rfl) (by intro t j ht; rcases (show t = 0 ∨ t = 1 ∨ t = 2 ∨ t = 3 ∨ t = 4 ∨ t = 5 by omega) with rfl | rfl | rfl | rfl | rfl | rfl <;> rfl)
  refine lv_aload_n hx hb dL_law_1153 rfl (lv_at hl 2 rfl) ?_
  refine lw_callI (va_runV (As := []) (rest := [.int r1]) ⟨hx, hb, hml, hown, hts⟩ (kX12_back l D ca za hM hhM fM LM QM hIM  H.size) (cwV 0 hts (gw_V (fun _ h => h) mw_1187 mw_1188 mw_1189 mw_619 mw_1186) rfl rfl rfl (by decide +kernel) ⟨Nat.le_of_ble_eq_true rfl, Nat.le_of_ble_eq_true rfl⟩) (sg_preV (ci := 12) (C := RX12) (T := TX12) (N := 55) hAM hK hPM hS (show sgZ zcM za (fun q => s.heap.size ≤ q) s.heap.size s from fun i q h => by simp [zcM] at h) 0 (by decide) rfl rfl) rfl rfl hl.1 rfl (lv_room (Nat.le_of_ble_eq_true rfl)) dL_law_1154 hcl) hAM hS (fun r2 fM1 LM1 QM1 H locs hqr2 hP1 hkr2 hS => ?_)
  have hPM := hP1
  have hPX := lw_kept hPX hdis2 hkr2
  obtain ⟨⟨hIM, hkM, eLM, eQM⟩, hvr2, hur2⟩ := hqr2
  rw [eLM, eQM] at hPM
  have hJM : JM fM1 := JM.fr hJM hkM (fun _ => rfl) (fun _ => rfl) (fun _ => rfl) rfl rfl
  have hr : r1 = r2 := (t_back hR.2.2.2.2.2.2.2.2.2.1 hR.2.2.2.2.2.2.2.2.2.2.2 hur1 hur2).1
  refine lv_icmp_eq (tgt := 1578) hx hb dL_law_1157 (by decide) (fun _ => ?_) (fun c => absurd hr c)
  exact hJ _ _ _ _ _ _ _ _ _ ⟨hIX, hJX, hIM, hJM, ⟨rDesk.fr hR.1 (hkX 36 2 (by decide)) (fun j => hkX 37 j (by rfl)) (hkM 0 45 (by decide)) (fun j => hkM 20 j (by rfl)), rTrace.fr hR.2.1 (hkX 36 3 (by decide)) (fun j => hkX 38 j (by rfl)) (hkM 0 48 (by decide)) (fun j => hkM 21 j (by rfl)), rShelf.fr hR.2.2.1 (fun t j => hkX _ _ (sgin_lo (c := 40) (by decide) (by omega))) (hkX 36 2 (by decide)) (fun j => hkM 22 j (by rfl)) (fun j => hkM 23 j (by rfl)), rEl.fr hR.2.2.2.1 (fun t j => hkX _ _ (sgin_lo (c := 40) (by decide) (by omega))), rNum.fr hR.2.2.2.2.1 (hkX 1 3 (by decide)) (fun j => hkX 2 j (by rfl)) (hkM 0 6 (by decide)) (fun j => hkM 1 j (by rfl)), rChg.fr hR.2.2.2.2.2.1 (hkX 1 3 (by decide)) (hkX 32 3 (by decide)) (hkX 32 4 (by decide)) (fun j => hkX 33 j (by rfl)) (fun j => hkX 34 j (by rfl)) (fun j => hkX 35 j (by rfl)) (hkM 0 5 (by decide)) (hkM 0 4 (by decide)) (fun j => hkM 2 j (by rfl)) (fun j => hkM 3 j (by rfl)) (fun j => hkM 4 j (by rfl)), rByte.fr hR.2.2.2.2.2.2.1 (fun t j => hkX _ _ (sgin_lo (c := 40) (by decide) (by omega))), rTape.fr hR.2.2.2.2.2.2.2.1 (hkX 4 1 (by decide)) (fun j => hkX 5 j (by rfl)) (hkM 0 9 (by decide)) (fun j => hkM 6 j (by rfl)), rLs.fr hR.2.2.2.2.2.2.2.2.1 (hkX 4 2 (by decide)) (hkX 4 9 (by decide)) (fun j => hkX 7 j (by rfl)) (hkX 1 3 (by decide)) (fun j => hkX 2 j (by rfl)) (hkX 32 4 (by decide)) (fun j => hkX 33 j (by rfl)) (fun j => hkX 34 j (by rfl)) (fun j => hkX 35 j (by rfl)) (fun j => hkX 9 j (by rfl)) (hkM 0 11 (by decide)) (fun j => hkM 7 j (by rfl)), ((t_back hR.2.2.2.2.2.2.2.2.2.1 hR.2.2.2.2.2.2.2.2.2.2.2 hur1 hur2).2.1), rIdle.fr hR.2.2.2.2.2.2.2.2.2.2.1 (hkX 13 7 (by decide)) (hkX 13 9 (by decide)) (hkM 0 20 (by decide)) (hkM 0 22 (by decide)) (hkM 0 23 (by decide)) (hkM 0 24 (by decide)) (fun j => hkM 11 j (by rfl)), ((t_back hR.2.2.2.2.2.2.2.2.2.1 hR.2.2.2.2.2.2.2.2.2.2.2 hur1 hur2).2.2)⟩⟩ hPX hPM hS (lv_sub hl [0, 1, 2, 3] rfl)

set_option maxHeartbeats 4000000 in
set_option maxRecDepth 100000 in
theorem lc_28 {p : Program} {e : Env} {s : State} {m : MethodId} {below : List Frame} {meth : Method} {cd : Code} {Qz : State → Prop} (l : Launch) {b : Nat} {N : Nat} {xs : Nat → Int32} {D : va_G} {ca : Nat → ClassId} {za hX hM : Nat → Nat} {cells slots : Nat} {H : Heap} {locs : List Loc} {ls : Array Slot} {i : Int32} {fX fM : sg_F} {LX LM : sg_L} {QX QM : sg_Q} (hx : p.tables.exec = Jvm.exec) (hb : cd.code = code) (hml : cd.maxLocals = 4) (hown : s.vm.findClass R_law = some m.cls) (hts : ∀ w ∈ gwL, w.before #[Value.ref b] s = true) (hXs : va_X b N xs s s.heap) (hN : N ≤ 3072) (hi : 0 ≤ i.toInt ∧ i.toInt + 6 ≤ (N : Int)) (hbl : b < s.heap.size) (hK : va_K D vwCl (tyX ca) s) (hZ : sgZ zcX za (fun q => s.heap.size ≤ q) s.heap.size s) (hhX : sgH 52 hX) (hhM : sgH 26 hM) (hAX : sgY (fun q => s.heap.size ≤ q) 52 hX s.heap.size) (hAM : sgY (fun q => s.heap.size ≤ q) 26 hM s.heap.size) (hdis : ∀ i j : Nat, i < 52 → j < 26 → hX i ≠ hM j) (hdis2 : ∀ i j : Nat, i < 26 → j < 52 → hM i ≠ hX j) (hcl : cells ≤ room_1.cells ∧ slots ≤ room_1.slots) (hV : lwInv fX LX QX fM LM QM) (hPX : va_P D vwCl (sgw 52 hX (eX ca hX) fX LX QX) H) (hPM : va_P D vwCl (sgw 26 hM (eM ca hM) fM LM QM) H) (hS : va_S (fun q => s.heap.size ≤ q) s.heap H locs) (hl : lv_has ls 4 [(0, .ref b), (1, .ref (hX 0)), (2, .ref (hM 0)), (3, .int i)]) (hJ : ∀ (fX : sg_F) (LX : sg_L) (QX : sg_Q) (fM : sg_F) (LM : sg_L) (QM : sg_Q) (H : Heap) (locs : List Loc) (ls : Array Slot), lwInv fX LX QX fM LM QM → va_P D vwCl (sgw 52 hX (eX ca hX) fX LX QX) H → va_P D vwCl (sgw 26 hM (eM ca hM) fM LM QM) H → va_S (fun q => s.heap.size ≤ q) s.heap H locs → lv_has ls 4 [(0, .ref b), (1, .ref (hX 0)), (2, .ref (hM 0)), (3, .int i)] → W p l e room_1 s m #[Value.ref b] below meth cd H locs cells slots Qz (F0 m 1578 ls [])) : W p l e room_1 s m #[Value.ref b] below meth cd H locs cells slots Qz (F0 m 1162 ls []) := by
  have hbA : ¬ (fun q => s.heap.size ≤ q) b := Nat.not_le.mpr hbl
  have hown : s.vm.findClass RL = some m.cls := hown
  obtain ⟨hIX, hJX, hIM, hJM, hR⟩ := hV
  have hIX0 := hIX; have hIM0 := hIM; have hJM0 := hJM
  refine lv_aload_n hx hb dL_law_1162 rfl (lv_at hl 1 rfl) ?_
  refine lw_callI (va_runV (As := []) (rest := []) ⟨hx, hb, hml, hown, hts⟩ (kX11_undo l D ca za hX hhX fX LX QX hIX hJX  H.size) (cwV 0 hts (gw_V (fun _ h => h) mw_1191 mw_1192 mw_1193 mw_37 mw_1190) rfl rfl rfl (by decide +kernel) ⟨Nat.le_of_ble_eq_true rfl, Nat.le_of_ble_eq_true rfl⟩) (sg_preV (ci := 11) (C := RX11) (T := TX11) (N := 10) hAX hK hPX hS hZ 0 (by decide) rfl rfl) rfl rfl hl.1 rfl (lv_room (Nat.le_of_ble_eq_true rfl)) dL_law_1163 hcl) hAX hS (fun r1 fX1 LX1 QX1 H locs hqr1 hP1 hkr1 hS => ?_)
  have hPX := hP1
  have hPM := lw_kept hPM hdis hkr1
  obtain ⟨⟨hIX, hkX, eLX, eQX, hJX⟩, hvr1, hur1⟩ := hqr1
  rw [eLX, eQX] at hPX
  refine lv_pop hx hb dL_law_1166 rfl ?_
  refine lv_aload_n hx hb dL_law_1167 rfl (lv_at hl 2 rfl) ?_
  refine lw_callI (va_runV (As := []) (rest := []) ⟨hx, hb, hml, hown, hts⟩ (kX12_undo l D ca za hM hhM fM LM QM hIM hJM  H.size) (cwV 0 hts (gw_V (fun _ h => h) mw_1195 mw_1196 mw_1197 mw_619 mw_1194) rfl rfl rfl (by decide +kernel) ⟨Nat.le_of_ble_eq_true rfl, Nat.le_of_ble_eq_true rfl⟩) (sg_preV (ci := 12) (C := RX12) (T := TX12) (N := 55) hAM hK hPM hS (show sgZ zcM za (fun q => s.heap.size ≤ q) s.heap.size s from fun i q h => by simp [zcM] at h) 0 (by decide) rfl rfl) rfl rfl hl.1 rfl (lv_room (Nat.le_of_ble_eq_true rfl)) dL_law_1168 hcl) hAM hS (fun r2 fM1 LM1 QM1 H locs hqr2 hP1 hkr2 hS => ?_)
  have hPM := hP1
  have hPX := lw_kept hPX hdis2 hkr2
  obtain ⟨⟨hIM, hkM, eLM, eQM, hJM⟩, hvr2, hur2⟩ := hqr2
  rw [eLM, eQM] at hPM
  refine lv_pop hx hb dL_law_1171 rfl ?_
  refine lv_goto (tgt := 1578) hx hb dL_law_1172 (by decide) ?_
  exact hJ _ _ _ _ _ _ _ _ _ ⟨hIX, hJX, hIM, hJM, ⟨rDesk.fr hR.1 (hkX 36 2 (by decide)) (fun j => hkX 37 j (by rfl)) (hkM 0 45 (by decide)) (fun j => hkM 20 j (by rfl)), rTrace.fr hR.2.1 (hkX 36 3 (by decide)) (fun j => hkX 38 j (by rfl)) (hkM 0 48 (by decide)) (fun j => hkM 21 j (by rfl)), rShelf.fr hR.2.2.1 (fun t j => hkX _ _ (sgin_lo (c := 40) (by decide) (by omega))) (hkX 36 2 (by decide)) (fun j => hkM 22 j (by rfl)) (fun j => hkM 23 j (by rfl)), rEl.fr hR.2.2.2.1 (fun t j => hkX _ _ (sgin_lo (c := 40) (by decide) (by omega))), ((hR.2.2.2.2.1.undo hR.2.2.2.2.2.1 hIX0 hJM0 hur1 hur2).2.1), ((hR.2.2.2.2.1.undo hR.2.2.2.2.2.1 hIX0 hJM0 hur1 hur2).2.2), rByte.fr hR.2.2.2.2.2.2.1 (fun t j => hkX _ _ (sgin_lo (c := 40) (by decide) (by omega))), rTape.fr hR.2.2.2.2.2.2.2.1 (hkX 4 1 (by decide)) (fun j => hkX 5 j (by rfl)) (hkM 0 9 (by decide)) (fun j => hkM 6 j (by rfl)), (hR.2.2.2.2.2.2.2.2.1.by_ (fun hl T n h => h.undo hIX0 (by have h5 := hJM0.2; have h6 := hR.2.2.2.2.2.1.1; have h7 := hR.2.2.2.2.2.1.2.1; omega) hur1) (hkX 4 2 (by decide)) (hkX 4 9 (by decide)) (fun j => hkX 7 j (by rfl)) (hkM 0 11 (by decide)) (fun j => hkM 7 j (by rfl))), rSt.fr hR.2.2.2.2.2.2.2.2.2.1 (fun j => hkX 3 j (by rfl)) (fun j => hkM 5 j (by rfl)), rIdle.fr hR.2.2.2.2.2.2.2.2.2.2.1 (hkX 13 7 (by decide)) (hkX 13 9 (by decide)) (hkM 0 20 (by decide)) (hkM 0 22 (by decide)) (hkM 0 23 (by decide)) (hkM 0 24 (by decide)) (fun j => hkM 11 j (by rfl)), rIm.fr hR.2.2.2.2.2.2.2.2.2.2.2 (hkX 29 0 (by decide)) (hkX 28 5 (by decide)) (hkX 30 0 (by decide)) (fun j => hkX 31 j (by rfl)) (hkM 0 38 (by decide)) (hkM 0 43 (by decide)) (fun j => hkM 19 j (by rfl))⟩⟩ hPX hPM hS (lv_sub hl [0, 1, 2, 3] rfl)

set_option maxHeartbeats 4000000 in
set_option maxRecDepth 100000 in
theorem lc_29 {p : Program} {e : Env} {s : State} {m : MethodId} {below : List Frame} {meth : Method} {cd : Code} {Qz : State → Prop} (l : Launch) {b : Nat} {N : Nat} {xs : Nat → Int32} {D : va_G} {ca : Nat → ClassId} {za hX hM : Nat → Nat} {cells slots : Nat} {H : Heap} {locs : List Loc} {ls : Array Slot} {i : Int32} {fX fM : sg_F} {LX LM : sg_L} {QX QM : sg_Q} (hx : p.tables.exec = Jvm.exec) (hb : cd.code = code) (hml : cd.maxLocals = 4) (hown : s.vm.findClass R_law = some m.cls) (hts : ∀ w ∈ gwL, w.before #[Value.ref b] s = true) (hXs : va_X b N xs s s.heap) (hN : N ≤ 3072) (hi : 0 ≤ i.toInt ∧ i.toInt + 6 ≤ (N : Int)) (hbl : b < s.heap.size) (hK : va_K D vwCl (tyX ca) s) (hZ : sgZ zcX za (fun q => s.heap.size ≤ q) s.heap.size s) (hhX : sgH 52 hX) (hhM : sgH 26 hM) (hAX : sgY (fun q => s.heap.size ≤ q) 52 hX s.heap.size) (hAM : sgY (fun q => s.heap.size ≤ q) 26 hM s.heap.size) (hdis : ∀ i j : Nat, i < 52 → j < 26 → hX i ≠ hM j) (hdis2 : ∀ i j : Nat, i < 26 → j < 52 → hM i ≠ hX j) (hcl : cells ≤ room_1.cells ∧ slots ≤ room_1.slots) (hV : lwInv fX LX QX fM LM QM) (hPX : va_P D vwCl (sgw 52 hX (eX ca hX) fX LX QX) H) (hPM : va_P D vwCl (sgw 26 hM (eM ca hM) fM LM QM) H) (hS : va_S (fun q => s.heap.size ≤ q) s.heap H locs) (hl : lv_has ls 4 [(0, .ref b), (1, .ref (hX 0)), (2, .ref (hM 0)), (3, .int i)]) (hJ : ∀ (fX : sg_F) (LX : sg_L) (QX : sg_Q) (fM : sg_F) (LM : sg_L) (QM : sg_Q) (H : Heap) (locs : List Loc) (ls : Array Slot), lwInv fX LX QX fM LM QM → va_P D vwCl (sgw 52 hX (eX ca hX) fX LX QX) H → va_P D vwCl (sgw 26 hM (eM ca hM) fM LM QM) H → va_S (fun q => s.heap.size ≤ q) s.heap H locs → lv_has ls 4 [(0, .ref b), (1, .ref (hX 0)), (2, .ref (hM 0)), (3, .int i)] → W p l e room_1 s m #[Value.ref b] below meth cd H locs cells slots Qz (F0 m 1578 ls [])) : W p l e room_1 s m #[Value.ref b] below meth cd H locs cells slots Qz (F0 m 1175 ls []) := by
  have hbA : ¬ (fun q => s.heap.size ≤ q) b := Nat.not_le.mpr hbl
  have hown : s.vm.findClass RL = some m.cls := hown
  obtain ⟨hIX, hJX, hIM, hJM, hR⟩ := hV
  have hIX0 := hIX; have hIM0 := hIM; have hJM0 := hJM
  refine lv_aload_n hx hb dL_law_1175 rfl (lv_at hl 1 rfl) ?_
  refine lw_callI (va_runV (As := []) (rest := []) ⟨hx, hb, hml, hown, hts⟩ (kX11_redo l D ca za hX hhX fX LX QX hIX hJX  H.size) (cwV 0 hts (gw_V (fun _ h => h) mw_1199 mw_1200 mw_1201 mw_37 mw_1198) rfl rfl rfl (by decide +kernel) ⟨Nat.le_of_ble_eq_true rfl, Nat.le_of_ble_eq_true rfl⟩) (sg_preV (ci := 11) (C := RX11) (T := TX11) (N := 10) hAX hK hPX hS hZ 0 (by decide) rfl rfl) rfl rfl hl.1 rfl (lv_room (Nat.le_of_ble_eq_true rfl)) dL_law_1176 hcl) hAX hS (fun r1 fX1 LX1 QX1 H locs hqr1 hP1 hkr1 hS => ?_)
  have hPX := hP1
  have hPM := lw_kept hPM hdis hkr1
  obtain ⟨⟨hIX, hkX, eLX, eQX, hJX⟩, hvr1, hur1⟩ := hqr1
  rw [eLX, eQX] at hPX
  refine lv_pop hx hb dL_law_1179 rfl ?_
  refine lv_aload_n hx hb dL_law_1180 rfl (lv_at hl 2 rfl) ?_
  refine lw_callI (va_runV (As := []) (rest := []) ⟨hx, hb, hml, hown, hts⟩ (kX12_redo l D ca za hM hhM fM LM QM hIM hJM  H.size) (cwV 0 hts (gw_V (fun _ h => h) mw_1203 mw_1204 mw_1205 mw_619 mw_1202) rfl rfl rfl (by decide +kernel) ⟨Nat.le_of_ble_eq_true rfl, Nat.le_of_ble_eq_true rfl⟩) (sg_preV (ci := 12) (C := RX12) (T := TX12) (N := 55) hAM hK hPM hS (show sgZ zcM za (fun q => s.heap.size ≤ q) s.heap.size s from fun i q h => by simp [zcM] at h) 0 (by decide) rfl rfl) rfl rfl hl.1 rfl (lv_room (Nat.le_of_ble_eq_true rfl)) dL_law_1181 hcl) hAM hS (fun r2 fM1 LM1 QM1 H locs hqr2 hP1 hkr2 hS => ?_)
  have hPM := hP1
  have hPX := lw_kept hPX hdis2 hkr2
  obtain ⟨⟨hIM, hkM, eLM, eQM, hJM⟩, hvr2, hur2⟩ := hqr2
  rw [eLM, eQM] at hPM
  refine lv_pop hx hb dL_law_1184 rfl ?_
  refine lv_goto (tgt := 1578) hx hb dL_law_1185 (by decide) ?_
  exact hJ _ _ _ _ _ _ _ _ _ ⟨hIX, hJX, hIM, hJM, ⟨rDesk.fr hR.1 (hkX 36 2 (by decide)) (fun j => hkX 37 j (by rfl)) (hkM 0 45 (by decide)) (fun j => hkM 20 j (by rfl)), rTrace.fr hR.2.1 (hkX 36 3 (by decide)) (fun j => hkX 38 j (by rfl)) (hkM 0 48 (by decide)) (fun j => hkM 21 j (by rfl)), rShelf.fr hR.2.2.1 (fun t j => hkX _ _ (sgin_lo (c := 40) (by decide) (by omega))) (hkX 36 2 (by decide)) (fun j => hkM 22 j (by rfl)) (fun j => hkM 23 j (by rfl)), rEl.fr hR.2.2.2.1 (fun t j => hkX _ _ (sgin_lo (c := 40) (by decide) (by omega))), ((hR.2.2.2.2.1.redo hR.2.2.2.2.2.1 hIX0 hJM0 hur1 hur2).2.1), ((hR.2.2.2.2.1.redo hR.2.2.2.2.2.1 hIX0 hJM0 hur1 hur2).2.2), rByte.fr hR.2.2.2.2.2.2.1 (fun t j => hkX _ _ (sgin_lo (c := 40) (by decide) (by omega))), rTape.fr hR.2.2.2.2.2.2.2.1 (hkX 4 1 (by decide)) (fun j => hkX 5 j (by rfl)) (hkM 0 9 (by decide)) (fun j => hkM 6 j (by rfl)), (hR.2.2.2.2.2.2.2.2.1.by_ (fun hl T n h => h.redo hIX0 hur1) (hkX 4 2 (by decide)) (hkX 4 9 (by decide)) (fun j => hkX 7 j (by rfl)) (hkM 0 11 (by decide)) (fun j => hkM 7 j (by rfl))), rSt.fr hR.2.2.2.2.2.2.2.2.2.1 (fun j => hkX 3 j (by rfl)) (fun j => hkM 5 j (by rfl)), rIdle.fr hR.2.2.2.2.2.2.2.2.2.2.1 (hkX 13 7 (by decide)) (hkX 13 9 (by decide)) (hkM 0 20 (by decide)) (hkM 0 22 (by decide)) (hkM 0 23 (by decide)) (hkM 0 24 (by decide)) (fun j => hkM 11 j (by rfl)), rIm.fr hR.2.2.2.2.2.2.2.2.2.2.2 (hkX 29 0 (by decide)) (hkX 28 5 (by decide)) (hkX 30 0 (by decide)) (fun j => hkX 31 j (by rfl)) (hkM 0 38 (by decide)) (hkM 0 43 (by decide)) (fun j => hkM 19 j (by rfl))⟩⟩ hPX hPM hS (lv_sub hl [0, 1, 2, 3] rfl)

set_option maxHeartbeats 4000000 in
set_option maxRecDepth 100000 in
theorem lc_30 {p : Program} {e : Env} {s : State} {m : MethodId} {below : List Frame} {meth : Method} {cd : Code} {Qz : State → Prop} (l : Launch) {b : Nat} {N : Nat} {xs : Nat → Int32} {D : va_G} {ca : Nat → ClassId} {za hX hM : Nat → Nat} {cells slots : Nat} {H : Heap} {locs : List Loc} {ls : Array Slot} {i : Int32} {fX fM : sg_F} {LX LM : sg_L} {QX QM : sg_Q} (hx : p.tables.exec = Jvm.exec) (hb : cd.code = code) (hml : cd.maxLocals = 4) (hown : s.vm.findClass R_law = some m.cls) (hts : ∀ w ∈ gwL, w.before #[Value.ref b] s = true) (hXs : va_X b N xs s s.heap) (hN : N ≤ 3072) (hi : 0 ≤ i.toInt ∧ i.toInt + 6 ≤ (N : Int)) (hbl : b < s.heap.size) (hK : va_K D vwCl (tyX ca) s) (hZ : sgZ zcX za (fun q => s.heap.size ≤ q) s.heap.size s) (hhX : sgH 52 hX) (hhM : sgH 26 hM) (hAX : sgY (fun q => s.heap.size ≤ q) 52 hX s.heap.size) (hAM : sgY (fun q => s.heap.size ≤ q) 26 hM s.heap.size) (hdis : ∀ i j : Nat, i < 52 → j < 26 → hX i ≠ hM j) (hdis2 : ∀ i j : Nat, i < 26 → j < 52 → hM i ≠ hX j) (hcl : cells ≤ room_1.cells ∧ slots ≤ room_1.slots) (hV : lwInv fX LX QX fM LM QM) (hPX : va_P D vwCl (sgw 52 hX (eX ca hX) fX LX QX) H) (hPM : va_P D vwCl (sgw 26 hM (eM ca hM) fM LM QM) H) (hS : va_S (fun q => s.heap.size ≤ q) s.heap H locs) (hl : lv_has ls 4 [(0, .ref b), (1, .ref (hX 0)), (2, .ref (hM 0)), (3, .int i)]) (hJ : ∀ (fX : sg_F) (LX : sg_L) (QX : sg_Q) (fM : sg_F) (LM : sg_L) (QM : sg_Q) (H : Heap) (locs : List Loc) (ls : Array Slot), lwInv fX LX QX fM LM QM → va_P D vwCl (sgw 52 hX (eX ca hX) fX LX QX) H → va_P D vwCl (sgw 26 hM (eM ca hM) fM LM QM) H → va_S (fun q => s.heap.size ≤ q) s.heap H locs → lv_has ls 4 [(0, .ref b), (1, .ref (hX 0)), (2, .ref (hM 0)), (3, .int i)] → W p l e room_1 s m #[Value.ref b] below meth cd H locs cells slots Qz (F0 m 1578 ls [])) : W p l e room_1 s m #[Value.ref b] below meth cd H locs cells slots Qz (F0 m 1188 ls []) := by
  have hbA : ¬ (fun q => s.heap.size ≤ q) b := Nat.not_le.mpr hbl
  have hown : s.vm.findClass RL = some m.cls := hown
  obtain ⟨hIX, hJX, hIM, hJM, hR⟩ := hV
  have hIX0 := hIX; have hIM0 := hIM; have hJM0 := hJM
  refine lv_aload_n hx hb dL_law_1188 rfl (lv_at hl 1 rfl) ?_
  refine lv_aload_n hx hb dL_law_1189 rfl (lv_at hl 0 rfl) ?_
  refine lv_iload_n hx hb dL_law_1190 rfl (lv_at hl 3 rfl) ?_
  refine lv_iconst (v := 1) hx hb dL_law_1191 (by decide) ?_
  refine lv_iadd hx hb dL_law_1192 ?_
  refine lv_topi (fun v_1 ev_1 => ?_)
  have q_2 : v_1.toInt = i.toInt + 1 := by rw [ev_1]; have k1 : (1 : Int32).toInt = 1 := (by decide); exact (bn_addI (by omega) (by omega)).trans (by omega)
  refine va_sld hx hb hXs hbl hbA hS (i := v_1) (vp_in_iff.mpr ⟨by omega, by omega⟩) dL_law_1193 ?_
  refine lv_topi (fun v_3 ev_3 => ?_)
  refine lw_callI (va_runV (As := [.int v_3]) (rest := []) ⟨hx, hb, hml, hown, hts⟩ (kX11_body l D ca za hX hhX fX LX QX hIX (v_3) H.size) (cwV 1 hts (gw_V (fun _ h => h) mw_1207 mw_1208 mw_1209 mw_37 mw_1206) rfl rfl rfl (by decide +kernel) ⟨Nat.le_of_ble_eq_true rfl, Nat.le_of_ble_eq_true rfl⟩) (sg_preV (ci := 11) (C := RX11) (T := TX11) (N := 10) hAX hK hPX hS hZ 0 (by decide) rfl rfl) rfl rfl hl.1 rfl (lv_room (Nat.le_of_ble_eq_true rfl)) dL_law_1194 hcl) hAX hS (fun r1 fX1 LX1 QX1 H locs hqr1 hP1 hkr1 hS => ?_)
  have hPX := hP1
  have hPM := lw_kept hPM hdis hkr1
  obtain ⟨⟨hIX, hkX, eLX, eQX⟩, hvr1, hur1⟩ := hqr1
  rw [eLX, eQX] at hPX
  have hJX : JX fX1 := JX.fr hJX hkX (fun _ => rfl) (fun _ => rfl) (fun _ => rfl) (by intro t j ht; rcases (show t = 0 ∨ t = 1 ∨ t = 2 ∨ t = 3 ∨ t = 4 ∨ t = 5 by omega) with rfl | rfl | rfl | rfl | rfl | rfl <;> rfl)
  refine lv_pop hx hb dL_law_1197 rfl ?_
  refine lv_aload_n hx hb dL_law_1198 rfl (lv_at hl 2 rfl) ?_
  refine lv_aload_n hx hb dL_law_1199 rfl (lv_at hl 0 rfl) ?_
  refine lv_iload_n hx hb dL_law_1200 rfl (lv_at hl 3 rfl) ?_
  refine lv_iconst (v := 1) hx hb dL_law_1201 (by decide) ?_
  refine lv_iadd hx hb dL_law_1202 ?_
  rw [← ev_1]
  refine va_sld hx hb hXs hbl hbA hS (i := v_1) (vp_in_iff.mpr ⟨by omega, by omega⟩) dL_law_1203 ?_
  rw [← ev_3]
  refine lw_callI (va_runV (As := [.int v_3]) (rest := []) ⟨hx, hb, hml, hown, hts⟩ (kX12_body l D ca za hM hhM fM LM QM hIM (v_3) H.size) (cwV 1 hts (gw_V (fun _ h => h) mw_1211 mw_1212 mw_1213 mw_619 mw_1210) rfl rfl rfl (by decide +kernel) ⟨Nat.le_of_ble_eq_true rfl, Nat.le_of_ble_eq_true rfl⟩) (sg_preV (ci := 12) (C := RX12) (T := TX12) (N := 55) hAM hK hPM hS (show sgZ zcM za (fun q => s.heap.size ≤ q) s.heap.size s from fun i q h => by simp [zcM] at h) 0 (by decide) rfl rfl) rfl rfl hl.1 rfl (lv_room (Nat.le_of_ble_eq_true rfl)) dL_law_1204 hcl) hAM hS (fun r2 fM1 LM1 QM1 H locs hqr2 hP1 hkr2 hS => ?_)
  have hPM := hP1
  have hPX := lw_kept hPX hdis2 hkr2
  obtain ⟨⟨hIM, hkM, eLM, eQM⟩, hvr2, hur2⟩ := hqr2
  rw [eLM, eQM] at hPM
  have hJM : JM fM1 := JM.fr hJM hkM (fun _ => rfl) (fun _ => rfl) (fun _ => rfl) rfl rfl
  refine lv_pop hx hb dL_law_1207 rfl ?_
  refine lv_goto (tgt := 1578) hx hb dL_law_1208 (by decide) ?_
  exact hJ _ _ _ _ _ _ _ _ _ ⟨hIX, hJX, hIM, hJM, ⟨((hR.1.body (hIX0 36 2) hur1 hur2).2.1), rTrace.fr hR.2.1 (hkX 36 3 (by decide)) (fun j => hkX 38 j (by rfl)) (hkM 0 48 (by decide)) (fun j => hkM 21 j (by rfl)), (hR.2.2.1.more (fun t j => hkX _ _ (sgin_lo (c := 40) (by decide) (by omega))) (hR.1.body (hIX0 36 2) hur1 hur2).2.2 (fun j => hkM 22 j (by rfl)) (fun j => hkM 23 j (by rfl))), rEl.fr hR.2.2.2.1 (fun t j => hkX _ _ (sgin_lo (c := 40) (by decide) (by omega))), rNum.fr hR.2.2.2.2.1 (hkX 1 3 (by decide)) (fun j => hkX 2 j (by rfl)) (hkM 0 6 (by decide)) (fun j => hkM 1 j (by rfl)), rChg.fr hR.2.2.2.2.2.1 (hkX 1 3 (by decide)) (hkX 32 3 (by decide)) (hkX 32 4 (by decide)) (fun j => hkX 33 j (by rfl)) (fun j => hkX 34 j (by rfl)) (fun j => hkX 35 j (by rfl)) (hkM 0 5 (by decide)) (hkM 0 4 (by decide)) (fun j => hkM 2 j (by rfl)) (fun j => hkM 3 j (by rfl)) (fun j => hkM 4 j (by rfl)), rByte.fr hR.2.2.2.2.2.2.1 (fun t j => hkX _ _ (sgin_lo (c := 40) (by decide) (by omega))), rTape.fr hR.2.2.2.2.2.2.2.1 (hkX 4 1 (by decide)) (fun j => hkX 5 j (by rfl)) (hkM 0 9 (by decide)) (fun j => hkM 6 j (by rfl)), rLs.fr hR.2.2.2.2.2.2.2.2.1 (hkX 4 2 (by decide)) (hkX 4 9 (by decide)) (fun j => hkX 7 j (by rfl)) (hkX 1 3 (by decide)) (fun j => hkX 2 j (by rfl)) (hkX 32 4 (by decide)) (fun j => hkX 33 j (by rfl)) (fun j => hkX 34 j (by rfl)) (fun j => hkX 35 j (by rfl)) (fun j => hkX 9 j (by rfl)) (hkM 0 11 (by decide)) (fun j => hkM 7 j (by rfl)), rSt.fr hR.2.2.2.2.2.2.2.2.2.1 (fun j => hkX 3 j (by rfl)) (fun j => hkM 5 j (by rfl)), rIdle.fr hR.2.2.2.2.2.2.2.2.2.2.1 (hkX 13 7 (by decide)) (hkX 13 9 (by decide)) (hkM 0 20 (by decide)) (hkM 0 22 (by decide)) (hkM 0 23 (by decide)) (hkM 0 24 (by decide)) (fun j => hkM 11 j (by rfl)), rIm.fr hR.2.2.2.2.2.2.2.2.2.2.2 (hkX 29 0 (by decide)) (hkX 28 5 (by decide)) (hkX 30 0 (by decide)) (fun j => hkX 31 j (by rfl)) (hkM 0 38 (by decide)) (hkM 0 43 (by decide)) (fun j => hkM 19 j (by rfl))⟩⟩ hPX hPM hS (lv_sub hl [0, 1, 2, 3] rfl)

set_option maxHeartbeats 4000000 in
set_option maxRecDepth 100000 in
theorem lc_31 {p : Program} {e : Env} {s : State} {m : MethodId} {below : List Frame} {meth : Method} {cd : Code} {Qz : State → Prop} (l : Launch) {b : Nat} {N : Nat} {xs : Nat → Int32} {D : va_G} {ca : Nat → ClassId} {za hX hM : Nat → Nat} {cells slots : Nat} {H : Heap} {locs : List Loc} {ls : Array Slot} {i : Int32} {fX fM : sg_F} {LX LM : sg_L} {QX QM : sg_Q} (hx : p.tables.exec = Jvm.exec) (hb : cd.code = code) (hml : cd.maxLocals = 4) (hown : s.vm.findClass R_law = some m.cls) (hts : ∀ w ∈ gwL, w.before #[Value.ref b] s = true) (hXs : va_X b N xs s s.heap) (hN : N ≤ 3072) (hi : 0 ≤ i.toInt ∧ i.toInt + 6 ≤ (N : Int)) (hbl : b < s.heap.size) (hK : va_K D vwCl (tyX ca) s) (hZ : sgZ zcX za (fun q => s.heap.size ≤ q) s.heap.size s) (hhX : sgH 52 hX) (hhM : sgH 26 hM) (hAX : sgY (fun q => s.heap.size ≤ q) 52 hX s.heap.size) (hAM : sgY (fun q => s.heap.size ≤ q) 26 hM s.heap.size) (hdis : ∀ i j : Nat, i < 52 → j < 26 → hX i ≠ hM j) (hdis2 : ∀ i j : Nat, i < 26 → j < 52 → hM i ≠ hX j) (hcl : cells ≤ room_1.cells ∧ slots ≤ room_1.slots) (hV : lwInv fX LX QX fM LM QM) (hPX : va_P D vwCl (sgw 52 hX (eX ca hX) fX LX QX) H) (hPM : va_P D vwCl (sgw 26 hM (eM ca hM) fM LM QM) H) (hS : va_S (fun q => s.heap.size ≤ q) s.heap H locs) (hl : lv_has ls 4 [(0, .ref b), (1, .ref (hX 0)), (2, .ref (hM 0)), (3, .int i)]) (hJ : ∀ (fX : sg_F) (LX : sg_L) (QX : sg_Q) (fM : sg_F) (LM : sg_L) (QM : sg_Q) (H : Heap) (locs : List Loc) (ls : Array Slot), lwInv fX LX QX fM LM QM → va_P D vwCl (sgw 52 hX (eX ca hX) fX LX QX) H → va_P D vwCl (sgw 26 hM (eM ca hM) fM LM QM) H → va_S (fun q => s.heap.size ≤ q) s.heap H locs → lv_has ls 4 [(0, .ref b), (1, .ref (hX 0)), (2, .ref (hM 0)), (3, .int i)] → W p l e room_1 s m #[Value.ref b] below meth cd H locs cells slots Qz (F0 m 1578 ls [])) : W p l e room_1 s m #[Value.ref b] below meth cd H locs cells slots Qz (F0 m 1211 ls []) := by
  have hbA : ¬ (fun q => s.heap.size ≤ q) b := Nat.not_le.mpr hbl
  have hown : s.vm.findClass RL = some m.cls := hown
  obtain ⟨hIX, hJX, hIM, hJM, hR⟩ := hV
  have hIX0 := hIX; have hIM0 := hIM; have hJM0 := hJM
  refine lv_aload_n hx hb dL_law_1211 rfl (lv_at hl 1 rfl) ?_
  refine lv_aload_n hx hb dL_law_1212 rfl (lv_at hl 0 rfl) ?_
  refine lv_iload_n hx hb dL_law_1213 rfl (lv_at hl 3 rfl) ?_
  refine lv_iconst (v := 1) hx hb dL_law_1214 (by decide) ?_
  refine lv_iadd hx hb dL_law_1215 ?_
  refine lv_topi (fun v_1 ev_1 => ?_)
  have q_2 : v_1.toInt = i.toInt + 1 := by rw [ev_1]; have k1 : (1 : Int32).toInt = 1 := (by decide); exact (bn_addI (by omega) (by omega)).trans (by omega)
  refine va_sld hx hb hXs hbl hbA hS (i := v_1) (vp_in_iff.mpr ⟨by omega, by omega⟩) dL_law_1216 ?_
  refine lv_topi (fun v_3 ev_3 => ?_)
  refine lv_aload_n hx hb dL_law_1217 rfl (lv_at hl 0 rfl) ?_
  refine lv_iload_n hx hb dL_law_1218 rfl (lv_at hl 3 rfl) ?_
  refine lv_iconst (v := 2) hx hb dL_law_1219 (by decide) ?_
  refine lv_iadd hx hb dL_law_1220 ?_
  refine lv_topi (fun v_4 ev_4 => ?_)
  have q_5 : v_4.toInt = i.toInt + 2 := by rw [ev_4]; have k1 : (2 : Int32).toInt = 2 := (by decide); exact (bn_addI (by omega) (by omega)).trans (by omega)
  refine va_sld hx hb hXs hbl hbA hS (i := v_4) (vp_in_iff.mpr ⟨by omega, by omega⟩) dL_law_1221 ?_
  refine lv_topi (fun v_6 ev_6 => ?_)
  refine lv_aload_n hx hb dL_law_1222 rfl (lv_at hl 0 rfl) ?_
  refine lv_iload_n hx hb dL_law_1223 rfl (lv_at hl 3 rfl) ?_
  refine lv_iconst (v := 3) hx hb dL_law_1224 (by decide) ?_
  refine lv_iadd hx hb dL_law_1225 ?_
  refine lv_topi (fun v_7 ev_7 => ?_)
  have q_8 : v_7.toInt = i.toInt + 3 := by rw [ev_7]; have k1 : (3 : Int32).toInt = 3 := (by decide); exact (bn_addI (by omega) (by omega)).trans (by omega)
  refine va_sld hx hb hXs hbl hbA hS (i := v_7) (vp_in_iff.mpr ⟨by omega, by omega⟩) dL_law_1226 ?_
  refine lv_topi (fun v_9 ev_9 => ?_)
  refine lw_callI (va_runV (As := [.int v_3, .int v_6, .int v_9]) (rest := []) ⟨hx, hb, hml, hown, hts⟩ (kX11_act l D ca za hX hhX fX LX QX hIX (v_3) (v_6) (v_9) H.size) (cwV 3 hts (gw_V (fun _ h => h) mw_1215 mw_1216 mw_1217 mw_37 mw_1214) rfl rfl rfl (by decide +kernel) ⟨Nat.le_of_ble_eq_true rfl, Nat.le_of_ble_eq_true rfl⟩) (sg_preV (ci := 11) (C := RX11) (T := TX11) (N := 10) hAX hK hPX hS hZ 0 (by decide) rfl rfl) rfl rfl hl.1 rfl (lv_room (Nat.le_of_ble_eq_true rfl)) dL_law_1227 hcl) hAX hS (fun r1 fX1 LX1 QX1 H locs hqr1 hP1 hkr1 hS => ?_)
  have hPX := hP1
  have hPM := lw_kept hPM hdis hkr1
  obtain ⟨⟨hIX, hkX, eLX, eQX⟩, hvr1, hur1⟩ := hqr1
  rw [eLX, eQX] at hPX
  have hJX : JX fX1 := JX.fr hJX hkX (fun _ => rfl) (fun _ => rfl) (fun _ => rfl) (by intro t j ht; rcases (show t = 0 ∨ t = 1 ∨ t = 2 ∨ t = 3 ∨ t = 4 ∨ t = 5 by omega) with rfl | rfl | rfl | rfl | rfl | rfl <;> rfl)
  refine lv_pop hx hb dL_law_1230 rfl ?_
  refine lv_aload_n hx hb dL_law_1231 rfl (lv_at hl 2 rfl) ?_
  refine lv_aload_n hx hb dL_law_1232 rfl (lv_at hl 0 rfl) ?_
  refine lv_iload_n hx hb dL_law_1233 rfl (lv_at hl 3 rfl) ?_
  refine lv_iconst (v := 1) hx hb dL_law_1234 (by decide) ?_
  refine lv_iadd hx hb dL_law_1235 ?_
  rw [← ev_1]
  refine va_sld hx hb hXs hbl hbA hS (i := v_1) (vp_in_iff.mpr ⟨by omega, by omega⟩) dL_law_1236 ?_
  rw [← ev_3]
  refine lv_aload_n hx hb dL_law_1237 rfl (lv_at hl 0 rfl) ?_
  refine lv_iload_n hx hb dL_law_1238 rfl (lv_at hl 3 rfl) ?_
  refine lv_iconst (v := 2) hx hb dL_law_1239 (by decide) ?_
  refine lv_iadd hx hb dL_law_1240 ?_
  rw [← ev_4]
  refine va_sld hx hb hXs hbl hbA hS (i := v_4) (vp_in_iff.mpr ⟨by omega, by omega⟩) dL_law_1241 ?_
  rw [← ev_6]
  refine lv_aload_n hx hb dL_law_1242 rfl (lv_at hl 0 rfl) ?_
  refine lv_iload_n hx hb dL_law_1243 rfl (lv_at hl 3 rfl) ?_
  refine lv_iconst (v := 3) hx hb dL_law_1244 (by decide) ?_
  refine lv_iadd hx hb dL_law_1245 ?_
  rw [← ev_7]
  refine va_sld hx hb hXs hbl hbA hS (i := v_7) (vp_in_iff.mpr ⟨by omega, by omega⟩) dL_law_1246 ?_
  rw [← ev_9]
  refine lw_callI (va_runV (As := [.int v_3, .int v_6, .int v_9]) (rest := []) ⟨hx, hb, hml, hown, hts⟩ (kX12_act l D ca za hM hhM fM LM QM hIM (v_3) (v_6) (v_9) H.size) (cwV 3 hts (gw_V (fun _ h => h) mw_1219 mw_1220 mw_1221 mw_619 mw_1218) rfl rfl rfl (by decide +kernel) ⟨Nat.le_of_ble_eq_true rfl, Nat.le_of_ble_eq_true rfl⟩) (sg_preV (ci := 12) (C := RX12) (T := TX12) (N := 55) hAM hK hPM hS (show sgZ zcM za (fun q => s.heap.size ≤ q) s.heap.size s from fun i q h => by simp [zcM] at h) 0 (by decide) rfl rfl) rfl rfl hl.1 rfl (lv_room (Nat.le_of_ble_eq_true rfl)) dL_law_1247 hcl) hAM hS (fun r2 fM1 LM1 QM1 H locs hqr2 hP1 hkr2 hS => ?_)
  have hPM := hP1
  have hPX := lw_kept hPX hdis2 hkr2
  obtain ⟨⟨hIM, hkM, eLM, eQM⟩, hvr2, hur2⟩ := hqr2
  rw [eLM, eQM] at hPM
  have hJM : JM fM1 := JM.fr hJM hkM (fun _ => rfl) (fun _ => rfl) (fun _ => rfl) rfl rfl
  refine lv_pop hx hb dL_law_1250 rfl ?_
  refine lv_goto (tgt := 1578) hx hb dL_law_1251 (by decide) ?_
  exact hJ _ _ _ _ _ _ _ _ _ ⟨hIX, hJX, hIM, hJM, ⟨rDesk.fr hR.1 (hkX 36 2 (by decide)) (fun j => hkX 37 j (by rfl)) (hkM 0 45 (by decide)) (fun j => hkM 20 j (by rfl)), ((hR.1.act (hIX0 36 2) (hIX0 37) (hIM0 20) hur1 hur2).2), rShelf.fr hR.2.2.1 (fun t j => hkX _ _ (sgin_lo (c := 40) (by decide) (by omega))) (hkX 36 2 (by decide)) (fun j => hkM 22 j (by rfl)) (fun j => hkM 23 j (by rfl)), rEl.fr hR.2.2.2.1 (fun t j => hkX _ _ (sgin_lo (c := 40) (by decide) (by omega))), rNum.fr hR.2.2.2.2.1 (hkX 1 3 (by decide)) (fun j => hkX 2 j (by rfl)) (hkM 0 6 (by decide)) (fun j => hkM 1 j (by rfl)), rChg.fr hR.2.2.2.2.2.1 (hkX 1 3 (by decide)) (hkX 32 3 (by decide)) (hkX 32 4 (by decide)) (fun j => hkX 33 j (by rfl)) (fun j => hkX 34 j (by rfl)) (fun j => hkX 35 j (by rfl)) (hkM 0 5 (by decide)) (hkM 0 4 (by decide)) (fun j => hkM 2 j (by rfl)) (fun j => hkM 3 j (by rfl)) (fun j => hkM 4 j (by rfl)), rByte.fr hR.2.2.2.2.2.2.1 (fun t j => hkX _ _ (sgin_lo (c := 40) (by decide) (by omega))), rTape.fr hR.2.2.2.2.2.2.2.1 (hkX 4 1 (by decide)) (fun j => hkX 5 j (by rfl)) (hkM 0 9 (by decide)) (fun j => hkM 6 j (by rfl)), rLs.fr hR.2.2.2.2.2.2.2.2.1 (hkX 4 2 (by decide)) (hkX 4 9 (by decide)) (fun j => hkX 7 j (by rfl)) (hkX 1 3 (by decide)) (fun j => hkX 2 j (by rfl)) (hkX 32 4 (by decide)) (fun j => hkX 33 j (by rfl)) (fun j => hkX 34 j (by rfl)) (fun j => hkX 35 j (by rfl)) (fun j => hkX 9 j (by rfl)) (hkM 0 11 (by decide)) (fun j => hkM 7 j (by rfl)), rSt.fr hR.2.2.2.2.2.2.2.2.2.1 (fun j => hkX 3 j (by rfl)) (fun j => hkM 5 j (by rfl)), rIdle.fr hR.2.2.2.2.2.2.2.2.2.2.1 (hkX 13 7 (by decide)) (hkX 13 9 (by decide)) (hkM 0 20 (by decide)) (hkM 0 22 (by decide)) (hkM 0 23 (by decide)) (hkM 0 24 (by decide)) (fun j => hkM 11 j (by rfl)), rIm.fr hR.2.2.2.2.2.2.2.2.2.2.2 (hkX 29 0 (by decide)) (hkX 28 5 (by decide)) (hkX 30 0 (by decide)) (fun j => hkX 31 j (by rfl)) (hkM 0 38 (by decide)) (hkM 0 43 (by decide)) (fun j => hkM 19 j (by rfl))⟩⟩ hPX hPM hS (lv_sub hl [0, 1, 2, 3] rfl)

set_option maxHeartbeats 4000000 in
set_option maxRecDepth 100000 in
theorem lc_32 {p : Program} {e : Env} {s : State} {m : MethodId} {below : List Frame} {meth : Method} {cd : Code} {Qz : State → Prop} (l : Launch) {b : Nat} {N : Nat} {xs : Nat → Int32} {D : va_G} {ca : Nat → ClassId} {za hX hM : Nat → Nat} {cells slots : Nat} {H : Heap} {locs : List Loc} {ls : Array Slot} {i : Int32} {fX fM : sg_F} {LX LM : sg_L} {QX QM : sg_Q} (hx : p.tables.exec = Jvm.exec) (hb : cd.code = code) (hml : cd.maxLocals = 4) (hown : s.vm.findClass R_law = some m.cls) (hts : ∀ w ∈ gwL, w.before #[Value.ref b] s = true) (hXs : va_X b N xs s s.heap) (hN : N ≤ 3072) (hi : 0 ≤ i.toInt ∧ i.toInt + 6 ≤ (N : Int)) (hbl : b < s.heap.size) (hK : va_K D vwCl (tyX ca) s) (hZ : sgZ zcX za (fun q => s.heap.size ≤ q) s.heap.size s) (hhX : sgH 52 hX) (hhM : sgH 26 hM) (hAX : sgY (fun q => s.heap.size ≤ q) 52 hX s.heap.size) (hAM : sgY (fun q => s.heap.size ≤ q) 26 hM s.heap.size) (hdis : ∀ i j : Nat, i < 52 → j < 26 → hX i ≠ hM j) (hdis2 : ∀ i j : Nat, i < 26 → j < 52 → hM i ≠ hX j) (hcl : cells ≤ room_1.cells ∧ slots ≤ room_1.slots) (hV : lwInv fX LX QX fM LM QM) (hPX : va_P D vwCl (sgw 52 hX (eX ca hX) fX LX QX) H) (hPM : va_P D vwCl (sgw 26 hM (eM ca hM) fM LM QM) H) (hS : va_S (fun q => s.heap.size ≤ q) s.heap H locs) (hl : lv_has ls 4 [(0, .ref b), (1, .ref (hX 0)), (2, .ref (hM 0)), (3, .int i)]) (hJ : ∀ (fX : sg_F) (LX : sg_L) (QX : sg_Q) (fM : sg_F) (LM : sg_L) (QM : sg_Q) (H : Heap) (locs : List Loc) (ls : Array Slot), lwInv fX LX QX fM LM QM → va_P D vwCl (sgw 52 hX (eX ca hX) fX LX QX) H → va_P D vwCl (sgw 26 hM (eM ca hM) fM LM QM) H → va_S (fun q => s.heap.size ≤ q) s.heap H locs → lv_has ls 4 [(0, .ref b), (1, .ref (hX 0)), (2, .ref (hM 0)), (3, .int i)] → W p l e room_1 s m #[Value.ref b] below meth cd H locs cells slots Qz (F0 m 1578 ls [])) : W p l e room_1 s m #[Value.ref b] below meth cd H locs cells slots Qz (F0 m 1254 ls []) := by
  have hbA : ¬ (fun q => s.heap.size ≤ q) b := Nat.not_le.mpr hbl
  have hown : s.vm.findClass RL = some m.cls := hown
  obtain ⟨hIX, hJX, hIM, hJM, hR⟩ := hV
  have hIX0 := hIX; have hIM0 := hIM; have hJM0 := hJM
  refine lv_aload_n hx hb dL_law_1254 rfl (lv_at hl 1 rfl) ?_
  refine lv_aload_n hx hb dL_law_1255 rfl (lv_at hl 0 rfl) ?_
  refine lv_iload_n hx hb dL_law_1256 rfl (lv_at hl 3 rfl) ?_
  refine lv_iconst (v := 1) hx hb dL_law_1257 (by decide) ?_
  refine lv_iadd hx hb dL_law_1258 ?_
  refine lv_topi (fun v_1 ev_1 => ?_)
  have q_2 : v_1.toInt = i.toInt + 1 := by rw [ev_1]; have k1 : (1 : Int32).toInt = 1 := (by decide); exact (bn_addI (by omega) (by omega)).trans (by omega)
  refine va_sld hx hb hXs hbl hbA hS (i := v_1) (vp_in_iff.mpr ⟨by omega, by omega⟩) dL_law_1259 ?_
  refine lv_topi (fun v_3 ev_3 => ?_)
  refine lw_callI (va_runV (As := [.int v_3]) (rest := []) ⟨hx, hb, hml, hown, hts⟩ (kX11_trace l D ca za hX hhX fX LX QX hIX (v_3) H.size) (cwV 1 hts (gw_V (fun _ h => h) mw_1223 mw_1224 mw_1225 mw_37 mw_1222) rfl rfl rfl (by decide +kernel) ⟨Nat.le_of_ble_eq_true rfl, Nat.le_of_ble_eq_true rfl⟩) (sg_preV (ci := 11) (C := RX11) (T := TX11) (N := 10) hAX hK hPX hS hZ 0 (by decide) rfl rfl) rfl rfl hl.1 rfl (lv_room (Nat.le_of_ble_eq_true rfl)) dL_law_1260 hcl) hAX hS (fun r1 fX1 LX1 QX1 H locs hqr1 hP1 hkr1 hS => ?_)
  have hPX := hP1
  have hPM := lw_kept hPM hdis hkr1
  obtain ⟨⟨efX, eLX, eQX⟩, hvr1, hur1⟩ := hqr1
  rw [efX, eLX, eQX] at hPX
  refine lv_pop hx hb dL_law_1263 rfl ?_
  refine lv_aload_n hx hb dL_law_1264 rfl (lv_at hl 2 rfl) ?_
  refine lv_aload_n hx hb dL_law_1265 rfl (lv_at hl 0 rfl) ?_
  refine lv_iload_n hx hb dL_law_1266 rfl (lv_at hl 3 rfl) ?_
  refine lv_iconst (v := 1) hx hb dL_law_1267 (by decide) ?_
  refine lv_iadd hx hb dL_law_1268 ?_
  rw [← ev_1]
  refine va_sld hx hb hXs hbl hbA hS (i := v_1) (vp_in_iff.mpr ⟨by omega, by omega⟩) dL_law_1269 ?_
  rw [← ev_3]
  refine lw_callI (va_runV (As := [.int v_3]) (rest := []) ⟨hx, hb, hml, hown, hts⟩ (kX12_trace l D ca za hM hhM fM LM QM hIM (v_3) H.size) (cwV 1 hts (gw_V (fun _ h => h) mw_1227 mw_1228 mw_1229 mw_619 mw_1226) rfl rfl rfl (by decide +kernel) ⟨Nat.le_of_ble_eq_true rfl, Nat.le_of_ble_eq_true rfl⟩) (sg_preV (ci := 12) (C := RX12) (T := TX12) (N := 55) hAM hK hPM hS (show sgZ zcM za (fun q => s.heap.size ≤ q) s.heap.size s from fun i q h => by simp [zcM] at h) 0 (by decide) rfl rfl) rfl rfl hl.1 rfl (lv_room (Nat.le_of_ble_eq_true rfl)) dL_law_1270 hcl) hAM hS (fun r2 fM1 LM1 QM1 H locs hqr2 hP1 hkr2 hS => ?_)
  have hPM := hP1
  have hPX := lw_kept hPX hdis2 hkr2
  obtain ⟨⟨efM, eLM, eQM⟩, hvr2, hur2⟩ := hqr2
  rw [efM, eLM, eQM] at hPM
  refine lv_pop hx hb dL_law_1273 rfl ?_
  refine lv_goto (tgt := 1578) hx hb dL_law_1274 (by decide) ?_
  exact hJ _ _ _ _ _ _ _ _ _ ⟨hIX, hJX, hIM, hJM, ⟨rDesk.fr hR.1 (sgK.rf0 36 2 (by decide)) (fun j => sgK.rf0 37 j (by rfl)) (sgK.rf0 0 45 (by decide)) (fun j => sgK.rf0 20 j (by rfl)), rTrace.fr hR.2.1 (sgK.rf0 36 3 (by decide)) (fun j => sgK.rf0 38 j (by rfl)) (sgK.rf0 0 48 (by decide)) (fun j => sgK.rf0 21 j (by rfl)), rShelf.fr hR.2.2.1 (fun t j => sgK.rf0 _ _ (sgin_lo (c := 40) (by decide) (by omega))) (sgK.rf0 36 2 (by decide)) (fun j => sgK.rf0 22 j (by rfl)) (fun j => sgK.rf0 23 j (by rfl)), rEl.fr hR.2.2.2.1 (fun t j => sgK.rf0 _ _ (sgin_lo (c := 40) (by decide) (by omega))), rNum.fr hR.2.2.2.2.1 (sgK.rf0 1 3 (by decide)) (fun j => sgK.rf0 2 j (by rfl)) (sgK.rf0 0 6 (by decide)) (fun j => sgK.rf0 1 j (by rfl)), rChg.fr hR.2.2.2.2.2.1 (sgK.rf0 1 3 (by decide)) (sgK.rf0 32 3 (by decide)) (sgK.rf0 32 4 (by decide)) (fun j => sgK.rf0 33 j (by rfl)) (fun j => sgK.rf0 34 j (by rfl)) (fun j => sgK.rf0 35 j (by rfl)) (sgK.rf0 0 5 (by decide)) (sgK.rf0 0 4 (by decide)) (fun j => sgK.rf0 2 j (by rfl)) (fun j => sgK.rf0 3 j (by rfl)) (fun j => sgK.rf0 4 j (by rfl)), rByte.fr hR.2.2.2.2.2.2.1 (fun t j => sgK.rf0 _ _ (sgin_lo (c := 40) (by decide) (by omega))), rTape.fr hR.2.2.2.2.2.2.2.1 (sgK.rf0 4 1 (by decide)) (fun j => sgK.rf0 5 j (by rfl)) (sgK.rf0 0 9 (by decide)) (fun j => sgK.rf0 6 j (by rfl)), rLs.fr hR.2.2.2.2.2.2.2.2.1 (sgK.rf0 4 2 (by decide)) (sgK.rf0 4 9 (by decide)) (fun j => sgK.rf0 7 j (by rfl)) (sgK.rf0 1 3 (by decide)) (fun j => sgK.rf0 2 j (by rfl)) (sgK.rf0 32 4 (by decide)) (fun j => sgK.rf0 33 j (by rfl)) (fun j => sgK.rf0 34 j (by rfl)) (fun j => sgK.rf0 35 j (by rfl)) (fun j => sgK.rf0 9 j (by rfl)) (sgK.rf0 0 11 (by decide)) (fun j => sgK.rf0 7 j (by rfl)), rSt.fr hR.2.2.2.2.2.2.2.2.2.1 (fun j => sgK.rf0 3 j (by rfl)) (fun j => sgK.rf0 5 j (by rfl)), rIdle.fr hR.2.2.2.2.2.2.2.2.2.2.1 (sgK.rf0 13 7 (by decide)) (sgK.rf0 13 9 (by decide)) (sgK.rf0 0 20 (by decide)) (sgK.rf0 0 22 (by decide)) (sgK.rf0 0 23 (by decide)) (sgK.rf0 0 24 (by decide)) (fun j => sgK.rf0 11 j (by rfl)), rIm.fr hR.2.2.2.2.2.2.2.2.2.2.2 (sgK.rf0 29 0 (by decide)) (sgK.rf0 28 5 (by decide)) (sgK.rf0 30 0 (by decide)) (fun j => sgK.rf0 31 j (by rfl)) (sgK.rf0 0 38 (by decide)) (sgK.rf0 0 43 (by decide)) (fun j => sgK.rf0 19 j (by rfl))⟩⟩ hPX hPM hS (lv_sub hl [0, 1, 2, 3] rfl)

set_option maxHeartbeats 4000000 in
set_option maxRecDepth 100000 in
theorem lc_33 {p : Program} {e : Env} {s : State} {m : MethodId} {below : List Frame} {meth : Method} {cd : Code} {Qz : State → Prop} (l : Launch) {b : Nat} {N : Nat} {xs : Nat → Int32} {D : va_G} {ca : Nat → ClassId} {za hX hM : Nat → Nat} {cells slots : Nat} {H : Heap} {locs : List Loc} {ls : Array Slot} {i : Int32} {fX fM : sg_F} {LX LM : sg_L} {QX QM : sg_Q} (hx : p.tables.exec = Jvm.exec) (hb : cd.code = code) (hml : cd.maxLocals = 4) (hown : s.vm.findClass R_law = some m.cls) (hts : ∀ w ∈ gwL, w.before #[Value.ref b] s = true) (hXs : va_X b N xs s s.heap) (hN : N ≤ 3072) (hi : 0 ≤ i.toInt ∧ i.toInt + 6 ≤ (N : Int)) (hbl : b < s.heap.size) (hK : va_K D vwCl (tyX ca) s) (hZ : sgZ zcX za (fun q => s.heap.size ≤ q) s.heap.size s) (hhX : sgH 52 hX) (hhM : sgH 26 hM) (hAX : sgY (fun q => s.heap.size ≤ q) 52 hX s.heap.size) (hAM : sgY (fun q => s.heap.size ≤ q) 26 hM s.heap.size) (hdis : ∀ i j : Nat, i < 52 → j < 26 → hX i ≠ hM j) (hdis2 : ∀ i j : Nat, i < 26 → j < 52 → hM i ≠ hX j) (hcl : cells ≤ room_1.cells ∧ slots ≤ room_1.slots) (hV : lwInv fX LX QX fM LM QM) (hPX : va_P D vwCl (sgw 52 hX (eX ca hX) fX LX QX) H) (hPM : va_P D vwCl (sgw 26 hM (eM ca hM) fM LM QM) H) (hS : va_S (fun q => s.heap.size ≤ q) s.heap H locs) (hl : lv_has ls 4 [(0, .ref b), (1, .ref (hX 0)), (2, .ref (hM 0)), (3, .int i)]) (hJ : ∀ (fX : sg_F) (LX : sg_L) (QX : sg_Q) (fM : sg_F) (LM : sg_L) (QM : sg_Q) (H : Heap) (locs : List Loc) (ls : Array Slot), lwInv fX LX QX fM LM QM → va_P D vwCl (sgw 52 hX (eX ca hX) fX LX QX) H → va_P D vwCl (sgw 26 hM (eM ca hM) fM LM QM) H → va_S (fun q => s.heap.size ≤ q) s.heap H locs → lv_has ls 4 [(0, .ref b), (1, .ref (hX 0)), (2, .ref (hM 0)), (3, .int i)] → W p l e room_1 s m #[Value.ref b] below meth cd H locs cells slots Qz (F0 m 1578 ls [])) : W p l e room_1 s m #[Value.ref b] below meth cd H locs cells slots Qz (F0 m 1277 ls []) := by
  have hbA : ¬ (fun q => s.heap.size ≤ q) b := Nat.not_le.mpr hbl
  have hown : s.vm.findClass RL = some m.cls := hown
  obtain ⟨hIX, hJX, hIM, hJM, hR⟩ := hV
  have hIX0 := hIX; have hIM0 := hIM; have hJM0 := hJM
  refine lv_aload_n hx hb dL_law_1277 rfl (lv_at hl 1 rfl) ?_
  refine lv_aload_n hx hb dL_law_1278 rfl (lv_at hl 0 rfl) ?_
  refine lv_iload_n hx hb dL_law_1279 rfl (lv_at hl 3 rfl) ?_
  refine lv_iconst (v := 1) hx hb dL_law_1280 (by decide) ?_
  refine lv_iadd hx hb dL_law_1281 ?_
  refine lv_topi (fun v_1 ev_1 => ?_)
  have q_2 : v_1.toInt = i.toInt + 1 := by rw [ev_1]; have k1 : (1 : Int32).toInt = 1 := (by decide); exact (bn_addI (by omega) (by omega)).trans (by omega)
  refine va_sld hx hb hXs hbl hbA hS (i := v_1) (vp_in_iff.mpr ⟨by omega, by omega⟩) dL_law_1282 ?_
  refine lv_topi (fun v_3 ev_3 => ?_)
  refine lv_aload_n hx hb dL_law_1283 rfl (lv_at hl 0 rfl) ?_
  refine lv_iload_n hx hb dL_law_1284 rfl (lv_at hl 3 rfl) ?_
  refine lv_iconst (v := 2) hx hb dL_law_1285 (by decide) ?_
  refine lv_iadd hx hb dL_law_1286 ?_
  refine lv_topi (fun v_4 ev_4 => ?_)
  have q_5 : v_4.toInt = i.toInt + 2 := by rw [ev_4]; have k1 : (2 : Int32).toInt = 2 := (by decide); exact (bn_addI (by omega) (by omega)).trans (by omega)
  refine va_sld hx hb hXs hbl hbA hS (i := v_4) (vp_in_iff.mpr ⟨by omega, by omega⟩) dL_law_1287 ?_
  refine lv_topi (fun v_6 ev_6 => ?_)
  refine lw_callI (va_runV (As := [.int v_3, .int v_6]) (rest := []) ⟨hx, hb, hml, hown, hts⟩ (kX11_keep l D ca za hX hhX fX LX QX hIX hJX (v_3) (v_6) H.size) (cwV 2 hts (gw_V (fun _ h => h) mw_1231 mw_1232 mw_1233 mw_37 mw_1230) rfl rfl rfl (by decide +kernel) ⟨Nat.le_of_ble_eq_true rfl, Nat.le_of_ble_eq_true rfl⟩) (sg_preV (ci := 11) (C := RX11) (T := TX11) (N := 10) hAX hK hPX hS hZ 0 (by decide) rfl rfl) rfl rfl hl.1 rfl (lv_room (Nat.le_of_ble_eq_true rfl)) dL_law_1288 hcl) hAX hS (fun r1 fX1 LX1 QX1 H locs hqr1 hP1 hkr1 hS => ?_)
  have hPX := hP1
  have hPM := lw_kept hPM hdis hkr1
  obtain ⟨⟨hIX, hkX, eLX, eQX, hJX⟩, hvr1, hur1⟩ := hqr1
  rw [eLX, eQX] at hPX
  refine lv_pop hx hb dL_law_1291 rfl ?_
  refine lv_aload_n hx hb dL_law_1292 rfl (lv_at hl 2 rfl) ?_
  refine lv_aload_n hx hb dL_law_1293 rfl (lv_at hl 0 rfl) ?_
  refine lv_iload_n hx hb dL_law_1294 rfl (lv_at hl 3 rfl) ?_
  refine lv_iconst (v := 1) hx hb dL_law_1295 (by decide) ?_
  refine lv_iadd hx hb dL_law_1296 ?_
  rw [← ev_1]
  refine va_sld hx hb hXs hbl hbA hS (i := v_1) (vp_in_iff.mpr ⟨by omega, by omega⟩) dL_law_1297 ?_
  rw [← ev_3]
  refine lv_aload_n hx hb dL_law_1298 rfl (lv_at hl 0 rfl) ?_
  refine lv_iload_n hx hb dL_law_1299 rfl (lv_at hl 3 rfl) ?_
  refine lv_iconst (v := 2) hx hb dL_law_1300 (by decide) ?_
  refine lv_iadd hx hb dL_law_1301 ?_
  rw [← ev_4]
  refine va_sld hx hb hXs hbl hbA hS (i := v_4) (vp_in_iff.mpr ⟨by omega, by omega⟩) dL_law_1302 ?_
  rw [← ev_6]
  refine lw_callI (va_runV (As := [.int v_3, .int v_6]) (rest := []) ⟨hx, hb, hml, hown, hts⟩ (kX12_keep l D ca za hM hhM fM LM QM hIM (v_3) (v_6) H.size) (cwV 2 hts (gw_V (fun _ h => h) mw_1235 mw_1236 mw_1237 mw_619 mw_1234) rfl rfl rfl (by decide +kernel) ⟨Nat.le_of_ble_eq_true rfl, Nat.le_of_ble_eq_true rfl⟩) (sg_preV (ci := 12) (C := RX12) (T := TX12) (N := 55) hAM hK hPM hS (show sgZ zcM za (fun q => s.heap.size ≤ q) s.heap.size s from fun i q h => by simp [zcM] at h) 0 (by decide) rfl rfl) rfl rfl hl.1 rfl (lv_room (Nat.le_of_ble_eq_true rfl)) dL_law_1303 hcl) hAM hS (fun r2 fM1 LM1 QM1 H locs hqr2 hP1 hkr2 hS => ?_)
  have hPM := hP1
  have hPX := lw_kept hPX hdis2 hkr2
  obtain ⟨⟨hIM, hkM, eLM, eQM⟩, hvr2, hur2⟩ := hqr2
  rw [eLM, eQM] at hPM
  have hJM : JM fM1 := JM.fr hJM hkM (fun _ => rfl) (fun _ => rfl) (fun _ => rfl) rfl rfl
  refine lv_pop hx hb dL_law_1306 rfl ?_
  refine lv_goto (tgt := 1578) hx hb dL_law_1307 (by decide) ?_
  exact hJ _ _ _ _ _ _ _ _ _ ⟨hIX, hJX, hIM, hJM, ⟨rDesk.fr hR.1 (hkX 36 2 (by decide)) (fun j => hkX 37 j (by rfl)) (hkM 0 45 (by decide)) (fun j => hkM 20 j (by rfl)), rTrace.fr hR.2.1 (hkX 36 3 (by decide)) (fun j => hkX 38 j (by rfl)) (hkM 0 48 (by decide)) (fun j => hkM 21 j (by rfl)), ((hR.2.2.1.ckeep hR.1 hR.2.2.2.1 (hIX0 36 2) hur1 hur2).2.1), ((hR.2.2.1.ckeep hR.1 hR.2.2.2.1 (hIX0 36 2) hur1 hur2).2.2), rNum.fr hR.2.2.2.2.1 (hkX 1 3 (by decide)) (fun j => hkX 2 j (by rfl)) (hkM 0 6 (by decide)) (fun j => hkM 1 j (by rfl)), rChg.fr hR.2.2.2.2.2.1 (hkX 1 3 (by decide)) (hkX 32 3 (by decide)) (hkX 32 4 (by decide)) (fun j => hkX 33 j (by rfl)) (fun j => hkX 34 j (by rfl)) (fun j => hkX 35 j (by rfl)) (hkM 0 5 (by decide)) (hkM 0 4 (by decide)) (fun j => hkM 2 j (by rfl)) (fun j => hkM 3 j (by rfl)) (fun j => hkM 4 j (by rfl)), (hR.2.2.2.2.2.2.1.keep hur1), rTape.fr hR.2.2.2.2.2.2.2.1 (hkX 4 1 (by decide)) (fun j => hkX 5 j (by rfl)) (hkM 0 9 (by decide)) (fun j => hkM 6 j (by rfl)), rLs.fr hR.2.2.2.2.2.2.2.2.1 (hkX 4 2 (by decide)) (hkX 4 9 (by decide)) (fun j => hkX 7 j (by rfl)) (hkX 1 3 (by decide)) (fun j => hkX 2 j (by rfl)) (hkX 32 4 (by decide)) (fun j => hkX 33 j (by rfl)) (fun j => hkX 34 j (by rfl)) (fun j => hkX 35 j (by rfl)) (fun j => hkX 9 j (by rfl)) (hkM 0 11 (by decide)) (fun j => hkM 7 j (by rfl)), rSt.fr hR.2.2.2.2.2.2.2.2.2.1 (fun j => hkX 3 j (by rfl)) (fun j => hkM 5 j (by rfl)), rIdle.fr hR.2.2.2.2.2.2.2.2.2.2.1 (hkX 13 7 (by decide)) (hkX 13 9 (by decide)) (hkM 0 20 (by decide)) (hkM 0 22 (by decide)) (hkM 0 23 (by decide)) (hkM 0 24 (by decide)) (fun j => hkM 11 j (by rfl)), rIm.fr hR.2.2.2.2.2.2.2.2.2.2.2 (hkX 29 0 (by decide)) (hkX 28 5 (by decide)) (hkX 30 0 (by decide)) (fun j => hkX 31 j (by rfl)) (hkM 0 38 (by decide)) (hkM 0 43 (by decide)) (fun j => hkM 19 j (by rfl))⟩⟩ hPX hPM hS (lv_sub hl [0, 1, 2, 3] rfl)

set_option maxHeartbeats 4000000 in
set_option maxRecDepth 100000 in
theorem lc_34 {p : Program} {e : Env} {s : State} {m : MethodId} {below : List Frame} {meth : Method} {cd : Code} {Qz : State → Prop} (l : Launch) {b : Nat} {N : Nat} {xs : Nat → Int32} {D : va_G} {ca : Nat → ClassId} {za hX hM : Nat → Nat} {cells slots : Nat} {H : Heap} {locs : List Loc} {ls : Array Slot} {i : Int32} {fX fM : sg_F} {LX LM : sg_L} {QX QM : sg_Q} (hx : p.tables.exec = Jvm.exec) (hb : cd.code = code) (hml : cd.maxLocals = 4) (hown : s.vm.findClass R_law = some m.cls) (hts : ∀ w ∈ gwL, w.before #[Value.ref b] s = true) (hXs : va_X b N xs s s.heap) (hN : N ≤ 3072) (hi : 0 ≤ i.toInt ∧ i.toInt + 6 ≤ (N : Int)) (hbl : b < s.heap.size) (hK : va_K D vwCl (tyX ca) s) (hZ : sgZ zcX za (fun q => s.heap.size ≤ q) s.heap.size s) (hhX : sgH 52 hX) (hhM : sgH 26 hM) (hAX : sgY (fun q => s.heap.size ≤ q) 52 hX s.heap.size) (hAM : sgY (fun q => s.heap.size ≤ q) 26 hM s.heap.size) (hdis : ∀ i j : Nat, i < 52 → j < 26 → hX i ≠ hM j) (hdis2 : ∀ i j : Nat, i < 26 → j < 52 → hM i ≠ hX j) (hcl : cells ≤ room_1.cells ∧ slots ≤ room_1.slots) (hV : lwInv fX LX QX fM LM QM) (hPX : va_P D vwCl (sgw 52 hX (eX ca hX) fX LX QX) H) (hPM : va_P D vwCl (sgw 26 hM (eM ca hM) fM LM QM) H) (hS : va_S (fun q => s.heap.size ≤ q) s.heap H locs) (hl : lv_has ls 4 [(0, .ref b), (1, .ref (hX 0)), (2, .ref (hM 0)), (3, .int i)]) (hJ : ∀ (fX : sg_F) (LX : sg_L) (QX : sg_Q) (fM : sg_F) (LM : sg_L) (QM : sg_Q) (H : Heap) (locs : List Loc) (ls : Array Slot), lwInv fX LX QX fM LM QM → va_P D vwCl (sgw 52 hX (eX ca hX) fX LX QX) H → va_P D vwCl (sgw 26 hM (eM ca hM) fM LM QM) H → va_S (fun q => s.heap.size ≤ q) s.heap H locs → lv_has ls 4 [(0, .ref b), (1, .ref (hX 0)), (2, .ref (hM 0)), (3, .int i)] → W p l e room_1 s m #[Value.ref b] below meth cd H locs cells slots Qz (F0 m 1578 ls [])) : W p l e room_1 s m #[Value.ref b] below meth cd H locs cells slots Qz (F0 m 1310 ls []) := by
  have hbA : ¬ (fun q => s.heap.size ≤ q) b := Nat.not_le.mpr hbl
  have hown : s.vm.findClass RL = some m.cls := hown
  obtain ⟨hIX, hJX, hIM, hJM, hR⟩ := hV
  have hIX0 := hIX; have hIM0 := hIM; have hJM0 := hJM
  refine lv_aload_n hx hb dL_law_1310 rfl (lv_at hl 1 rfl) ?_
  refine lv_aload_n hx hb dL_law_1311 rfl (lv_at hl 0 rfl) ?_
  refine lv_iload_n hx hb dL_law_1312 rfl (lv_at hl 3 rfl) ?_
  refine lv_iconst (v := 1) hx hb dL_law_1313 (by decide) ?_
  refine lv_iadd hx hb dL_law_1314 ?_
  refine lv_topi (fun v_1 ev_1 => ?_)
  have q_2 : v_1.toInt = i.toInt + 1 := by rw [ev_1]; have k1 : (1 : Int32).toInt = 1 := (by decide); exact (bn_addI (by omega) (by omega)).trans (by omega)
  refine va_sld hx hb hXs hbl hbA hS (i := v_1) (vp_in_iff.mpr ⟨by omega, by omega⟩) dL_law_1315 ?_
  refine lv_topi (fun v_3 ev_3 => ?_)
  refine lv_aload_n hx hb dL_law_1316 rfl (lv_at hl 0 rfl) ?_
  refine lv_iload_n hx hb dL_law_1317 rfl (lv_at hl 3 rfl) ?_
  refine lv_iconst (v := 2) hx hb dL_law_1318 (by decide) ?_
  refine lv_iadd hx hb dL_law_1319 ?_
  refine lv_topi (fun v_4 ev_4 => ?_)
  have q_5 : v_4.toInt = i.toInt + 2 := by rw [ev_4]; have k1 : (2 : Int32).toInt = 2 := (by decide); exact (bn_addI (by omega) (by omega)).trans (by omega)
  refine va_sld hx hb hXs hbl hbA hS (i := v_4) (vp_in_iff.mpr ⟨by omega, by omega⟩) dL_law_1320 ?_
  refine lv_topi (fun v_6 ev_6 => ?_)
  refine lv_aload_n hx hb dL_law_1321 rfl (lv_at hl 0 rfl) ?_
  refine lv_iload_n hx hb dL_law_1322 rfl (lv_at hl 3 rfl) ?_
  refine lv_iconst (v := 3) hx hb dL_law_1323 (by decide) ?_
  refine lv_iadd hx hb dL_law_1324 ?_
  refine lv_topi (fun v_7 ev_7 => ?_)
  have q_8 : v_7.toInt = i.toInt + 3 := by rw [ev_7]; have k1 : (3 : Int32).toInt = 3 := (by decide); exact (bn_addI (by omega) (by omega)).trans (by omega)
  refine va_sld hx hb hXs hbl hbA hS (i := v_7) (vp_in_iff.mpr ⟨by omega, by omega⟩) dL_law_1325 ?_
  refine lv_topi (fun v_9 ev_9 => ?_)
  refine lw_callI (va_runV (As := [.int v_3, .int v_6, .int v_9]) (rest := []) ⟨hx, hb, hml, hown, hts⟩ (kX11_row l D ca za hX hhX fX LX QX hIX hJX (v_3) (v_6) (v_9) H.size) (cwV 3 hts (gw_V (fun _ h => h) mw_1239 mw_1240 mw_1241 mw_37 mw_1238) rfl rfl rfl (by decide +kernel) ⟨Nat.le_of_ble_eq_true rfl, Nat.le_of_ble_eq_true rfl⟩) (sg_preV (ci := 11) (C := RX11) (T := TX11) (N := 10) hAX hK hPX hS hZ 0 (by decide) rfl rfl) rfl rfl hl.1 rfl (lv_room (Nat.le_of_ble_eq_true rfl)) dL_law_1326 hcl) hAX hS (fun r1 fX1 LX1 QX1 H locs hqr1 hP1 hkr1 hS => ?_)
  have hPX := hP1
  have hPM := lw_kept hPM hdis hkr1
  obtain ⟨⟨hIX, hkX, eLX, eQX, hJX⟩, hvr1, hur1⟩ := hqr1
  rw [eQX] at hPX
  refine lv_pop hx hb dL_law_1329 rfl ?_
  refine lv_aload_n hx hb dL_law_1330 rfl (lv_at hl 2 rfl) ?_
  refine lv_aload_n hx hb dL_law_1331 rfl (lv_at hl 0 rfl) ?_
  refine lv_iload_n hx hb dL_law_1332 rfl (lv_at hl 3 rfl) ?_
  refine lv_iconst (v := 1) hx hb dL_law_1333 (by decide) ?_
  refine lv_iadd hx hb dL_law_1334 ?_
  rw [← ev_1]
  refine va_sld hx hb hXs hbl hbA hS (i := v_1) (vp_in_iff.mpr ⟨by omega, by omega⟩) dL_law_1335 ?_
  rw [← ev_3]
  refine lv_aload_n hx hb dL_law_1336 rfl (lv_at hl 0 rfl) ?_
  refine lv_iload_n hx hb dL_law_1337 rfl (lv_at hl 3 rfl) ?_
  refine lv_iconst (v := 2) hx hb dL_law_1338 (by decide) ?_
  refine lv_iadd hx hb dL_law_1339 ?_
  rw [← ev_4]
  refine va_sld hx hb hXs hbl hbA hS (i := v_4) (vp_in_iff.mpr ⟨by omega, by omega⟩) dL_law_1340 ?_
  rw [← ev_6]
  refine lv_aload_n hx hb dL_law_1341 rfl (lv_at hl 0 rfl) ?_
  refine lv_iload_n hx hb dL_law_1342 rfl (lv_at hl 3 rfl) ?_
  refine lv_iconst (v := 3) hx hb dL_law_1343 (by decide) ?_
  refine lv_iadd hx hb dL_law_1344 ?_
  rw [← ev_7]
  refine va_sld hx hb hXs hbl hbA hS (i := v_7) (vp_in_iff.mpr ⟨by omega, by omega⟩) dL_law_1345 ?_
  rw [← ev_9]
  refine lw_callI (va_runV (As := [.int v_3, .int v_6, .int v_9]) (rest := []) ⟨hx, hb, hml, hown, hts⟩ (kX12_row l D ca za hM hhM fM LM QM hIM (v_3) (v_6) (v_9) H.size) (cwV 3 hts (gw_V (fun _ h => h) mw_1243 mw_1244 mw_1245 mw_619 mw_1242) rfl rfl rfl (by decide +kernel) ⟨Nat.le_of_ble_eq_true rfl, Nat.le_of_ble_eq_true rfl⟩) (sg_preV (ci := 12) (C := RX12) (T := TX12) (N := 55) hAM hK hPM hS (show sgZ zcM za (fun q => s.heap.size ≤ q) s.heap.size s from fun i q h => by simp [zcM] at h) 0 (by decide) rfl rfl) rfl rfl hl.1 rfl (lv_room (Nat.le_of_ble_eq_true rfl)) dL_law_1346 hcl) hAM hS (fun r2 fM1 LM1 QM1 H locs hqr2 hP1 hkr2 hS => ?_)
  have hPM := hP1
  have hPX := lw_kept hPX hdis2 hkr2
  obtain ⟨⟨hIM, hkM, eLM, eQM⟩, hvr2, hur2⟩ := hqr2
  rw [eQM] at hPM
  have hJM : JM fM1 := JM.fr hJM hkM (fun _ => rfl) (fun _ => rfl) (fun _ => rfl) rfl rfl
  refine lv_pop hx hb dL_law_1349 rfl ?_
  refine lv_goto (tgt := 1578) hx hb dL_law_1350 (by decide) ?_
  exact hJ _ _ _ _ _ _ _ _ _ ⟨hIX, hJX, hIM, hJM, ⟨rDesk.fr hR.1 (hkX 36 2 (by decide)) (fun j => hkX 37 j (by rfl)) (hkM 0 45 (by decide)) (fun j => hkM 20 j (by rfl)), rTrace.fr hR.2.1 (hkX 36 3 (by decide)) (fun j => hkX 38 j (by rfl)) (hkM 0 48 (by decide)) (fun j => hkM 21 j (by rfl)), ((hR.2.2.1.crow hR.2.2.2.1 (fun t ht => (shb_2 hIX0 ht).2) hur1 hur2).1), ((hR.2.2.1.crow hR.2.2.2.1 (fun t ht => (shb_2 hIX0 ht).2) hur1 hur2).2), rNum.fr hR.2.2.2.2.1 (hkX 1 3 (by decide)) (fun j => hkX 2 j (by rfl)) (hkM 0 6 (by decide)) (fun j => hkM 1 j (by rfl)), rChg.fr hR.2.2.2.2.2.1 (hkX 1 3 (by decide)) (hkX 32 3 (by decide)) (hkX 32 4 (by decide)) (fun j => hkX 33 j (by rfl)) (fun j => hkX 34 j (by rfl)) (fun j => hkX 35 j (by rfl)) (hkM 0 5 (by decide)) (hkM 0 4 (by decide)) (fun j => hkM 2 j (by rfl)) (fun j => hkM 3 j (by rfl)) (fun j => hkM 4 j (by rfl)), (hR.2.2.2.2.2.2.1.row hur1), rTape.fr hR.2.2.2.2.2.2.2.1 (hkX 4 1 (by decide)) (fun j => hkX 5 j (by rfl)) (hkM 0 9 (by decide)) (fun j => hkM 6 j (by rfl)), rLs.fr hR.2.2.2.2.2.2.2.2.1 (hkX 4 2 (by decide)) (hkX 4 9 (by decide)) (fun j => hkX 7 j (by rfl)) (hkX 1 3 (by decide)) (fun j => hkX 2 j (by rfl)) (hkX 32 4 (by decide)) (fun j => hkX 33 j (by rfl)) (fun j => hkX 34 j (by rfl)) (fun j => hkX 35 j (by rfl)) (fun j => hkX 9 j (by rfl)) (hkM 0 11 (by decide)) (fun j => hkM 7 j (by rfl)), rSt.fr hR.2.2.2.2.2.2.2.2.2.1 (fun j => hkX 3 j (by rfl)) (fun j => hkM 5 j (by rfl)), rIdle.fr hR.2.2.2.2.2.2.2.2.2.2.1 (hkX 13 7 (by decide)) (hkX 13 9 (by decide)) (hkM 0 20 (by decide)) (hkM 0 22 (by decide)) (hkM 0 23 (by decide)) (hkM 0 24 (by decide)) (fun j => hkM 11 j (by rfl)), rIm.fr hR.2.2.2.2.2.2.2.2.2.2.2 (hkX 29 0 (by decide)) (hkX 28 5 (by decide)) (hkX 30 0 (by decide)) (fun j => hkX 31 j (by rfl)) (hkM 0 38 (by decide)) (hkM 0 43 (by decide)) (fun j => hkM 19 j (by rfl))⟩⟩ hPX hPM hS (lv_sub hl [0, 1, 2, 3] rfl)

set_option maxHeartbeats 4000000 in
set_option maxRecDepth 100000 in
theorem lc_35 {p : Program} {e : Env} {s : State} {m : MethodId} {below : List Frame} {meth : Method} {cd : Code} {Qz : State → Prop} (l : Launch) {b : Nat} {N : Nat} {xs : Nat → Int32} {D : va_G} {ca : Nat → ClassId} {za hX hM : Nat → Nat} {cells slots : Nat} {H : Heap} {locs : List Loc} {ls : Array Slot} {i : Int32} {fX fM : sg_F} {LX LM : sg_L} {QX QM : sg_Q} (hx : p.tables.exec = Jvm.exec) (hb : cd.code = code) (hml : cd.maxLocals = 4) (hown : s.vm.findClass R_law = some m.cls) (hts : ∀ w ∈ gwL, w.before #[Value.ref b] s = true) (hXs : va_X b N xs s s.heap) (hN : N ≤ 3072) (hi : 0 ≤ i.toInt ∧ i.toInt + 6 ≤ (N : Int)) (hbl : b < s.heap.size) (hK : va_K D vwCl (tyX ca) s) (hZ : sgZ zcX za (fun q => s.heap.size ≤ q) s.heap.size s) (hhX : sgH 52 hX) (hhM : sgH 26 hM) (hAX : sgY (fun q => s.heap.size ≤ q) 52 hX s.heap.size) (hAM : sgY (fun q => s.heap.size ≤ q) 26 hM s.heap.size) (hdis : ∀ i j : Nat, i < 52 → j < 26 → hX i ≠ hM j) (hdis2 : ∀ i j : Nat, i < 26 → j < 52 → hM i ≠ hX j) (hcl : cells ≤ room_1.cells ∧ slots ≤ room_1.slots) (hV : lwInv fX LX QX fM LM QM) (hPX : va_P D vwCl (sgw 52 hX (eX ca hX) fX LX QX) H) (hPM : va_P D vwCl (sgw 26 hM (eM ca hM) fM LM QM) H) (hS : va_S (fun q => s.heap.size ≤ q) s.heap H locs) (hl : lv_has ls 4 [(0, .ref b), (1, .ref (hX 0)), (2, .ref (hM 0)), (3, .int i)]) (hJ : ∀ (fX : sg_F) (LX : sg_L) (QX : sg_Q) (fM : sg_F) (LM : sg_L) (QM : sg_Q) (H : Heap) (locs : List Loc) (ls : Array Slot), lwInv fX LX QX fM LM QM → va_P D vwCl (sgw 52 hX (eX ca hX) fX LX QX) H → va_P D vwCl (sgw 26 hM (eM ca hM) fM LM QM) H → va_S (fun q => s.heap.size ≤ q) s.heap H locs → lv_has ls 4 [(0, .ref b), (1, .ref (hX 0)), (2, .ref (hM 0)), (3, .int i)] → W p l e room_1 s m #[Value.ref b] below meth cd H locs cells slots Qz (F0 m 1578 ls [])) : W p l e room_1 s m #[Value.ref b] below meth cd H locs cells slots Qz (F0 m 1353 ls []) := by
  have hbA : ¬ (fun q => s.heap.size ≤ q) b := Nat.not_le.mpr hbl
  have hown : s.vm.findClass RL = some m.cls := hown
  obtain ⟨hIX, hJX, hIM, hJM, hR⟩ := hV
  have hIX0 := hIX; have hIM0 := hIM; have hJM0 := hJM
  refine lv_aload_n hx hb dL_law_1353 rfl (lv_at hl 1 rfl) ?_
  refine lv_aload_n hx hb dL_law_1354 rfl (lv_at hl 0 rfl) ?_
  refine lv_iload_n hx hb dL_law_1355 rfl (lv_at hl 3 rfl) ?_
  refine lv_iconst (v := 1) hx hb dL_law_1356 (by decide) ?_
  refine lv_iadd hx hb dL_law_1357 ?_
  refine lv_topi (fun v_1 ev_1 => ?_)
  have q_2 : v_1.toInt = i.toInt + 1 := by rw [ev_1]; have k1 : (1 : Int32).toInt = 1 := (by decide); exact (bn_addI (by omega) (by omega)).trans (by omega)
  refine va_sld hx hb hXs hbl hbA hS (i := v_1) (vp_in_iff.mpr ⟨by omega, by omega⟩) dL_law_1358 ?_
  refine lv_topi (fun v_3 ev_3 => ?_)
  refine lv_aload_n hx hb dL_law_1359 rfl (lv_at hl 0 rfl) ?_
  refine lv_iload_n hx hb dL_law_1360 rfl (lv_at hl 3 rfl) ?_
  refine lv_iconst (v := 2) hx hb dL_law_1361 (by decide) ?_
  refine lv_iadd hx hb dL_law_1362 ?_
  refine lv_topi (fun v_4 ev_4 => ?_)
  have q_5 : v_4.toInt = i.toInt + 2 := by rw [ev_4]; have k1 : (2 : Int32).toInt = 2 := (by decide); exact (bn_addI (by omega) (by omega)).trans (by omega)
  refine va_sld hx hb hXs hbl hbA hS (i := v_4) (vp_in_iff.mpr ⟨by omega, by omega⟩) dL_law_1363 ?_
  refine lv_topi (fun v_6 ev_6 => ?_)
  refine lv_aload_n hx hb dL_law_1364 rfl (lv_at hl 0 rfl) ?_
  refine lv_iload_n hx hb dL_law_1365 rfl (lv_at hl 3 rfl) ?_
  refine lv_iconst (v := 3) hx hb dL_law_1366 (by decide) ?_
  refine lv_iadd hx hb dL_law_1367 ?_
  refine lv_topi (fun v_7 ev_7 => ?_)
  have q_8 : v_7.toInt = i.toInt + 3 := by rw [ev_7]; have k1 : (3 : Int32).toInt = 3 := (by decide); exact (bn_addI (by omega) (by omega)).trans (by omega)
  refine va_sld hx hb hXs hbl hbA hS (i := v_7) (vp_in_iff.mpr ⟨by omega, by omega⟩) dL_law_1368 ?_
  refine lv_topi (fun v_9 ev_9 => ?_)
  obtain ⟨w_10, ew_10⟩ : ∃ z : Int64, z = Int32.toInt64 v_9 := ⟨_, rfl⟩
  have q_11 : w_10.toInt = v_9.toInt := by rw [ew_10]; exact Int32.toInt_toInt64 _
  refine lv_i2l (v := w_10) hx hb dL_law_1369 ew_10.symm ?_
  refine lv_bipush (v := 32) hx hb dL_law_1370 (by decide) ?_
  obtain ⟨w_12, ew_12⟩ : ∃ z : Int64, z = ((w_10 : Int64) <<< (Int32.toInt64 32 &&& 63)) := ⟨_, rfl⟩
  refine lv_lshl (v := w_12) hx hb dL_law_1372 ew_12.symm ?_
  refine lv_aload_n hx hb dL_law_1373 rfl (lv_at hl 0 rfl) ?_
  refine lv_iload_n hx hb dL_law_1374 rfl (lv_at hl 3 rfl) ?_
  refine lv_iconst (v := 4) hx hb dL_law_1375 (by decide) ?_
  refine lv_iadd hx hb dL_law_1376 ?_
  refine lv_topi (fun v_13 ev_13 => ?_)
  have q_14 : v_13.toInt = i.toInt + 4 := by rw [ev_13]; have k1 : (4 : Int32).toInt = 4 := (by decide); exact (bn_addI (by omega) (by omega)).trans (by omega)
  refine va_sld hx hb hXs hbl hbA hS (i := v_13) (vp_in_iff.mpr ⟨by omega, by omega⟩) dL_law_1377 ?_
  refine lv_topi (fun v_15 ev_15 => ?_)
  obtain ⟨w_16, ew_16⟩ : ∃ z : Int64, z = Int32.toInt64 v_15 := ⟨_, rfl⟩
  have q_17 : w_16.toInt = v_15.toInt := by rw [ew_16]; exact Int32.toInt_toInt64 _
  refine lv_i2l (v := w_16) hx hb dL_law_1378 ew_16.symm ?_
  refine lv_ldc2 (v := 4294967295) hx hb hown (hts _ mw_1246) dL_law_1379 ?_
  refine lv_land hx hb dL_law_1382 ?_
  refine lv_topl (fun w_18 ew_18 => ?_)
  refine lv_lor hx hb dL_law_1383 ?_
  refine lv_topl (fun w_19 ew_19 => ?_)
  refine lw_callI (va_runV (As := [.int v_3, .int v_6, .long w_19]) (rest := []) ⟨hx, hb, hml, hown, hts⟩ (kX11_put l D ca za hX hhX fX LX QX hIX (v_3) (v_6) (w_19) H.size) (cwV 3 hts (gw_V (fun _ h => h) mw_1248 mw_1249 mw_1250 mw_37 mw_1247) rfl rfl rfl (by decide +kernel) ⟨Nat.le_of_ble_eq_true rfl, Nat.le_of_ble_eq_true rfl⟩) (sg_preV (ci := 11) (C := RX11) (T := TX11) (N := 10) hAX hK hPX hS hZ 0 (by decide) rfl rfl) rfl rfl hl.1 rfl (lv_room (Nat.le_of_ble_eq_true rfl)) dL_law_1384 hcl) hAX hS (fun r1 fX1 LX1 QX1 H locs hqr1 hP1 hkr1 hS => ?_)
  have hPX := hP1
  have hPM := lw_kept hPM hdis hkr1
  obtain ⟨⟨efX, eLX, eQX⟩, hvr1, hur1⟩ := hqr1
  rw [efX, eQX] at hPX
  refine lv_pop hx hb dL_law_1387 rfl ?_
  refine lv_aload_n hx hb dL_law_1388 rfl (lv_at hl 2 rfl) ?_
  refine lv_aload_n hx hb dL_law_1389 rfl (lv_at hl 0 rfl) ?_
  refine lv_iload_n hx hb dL_law_1390 rfl (lv_at hl 3 rfl) ?_
  refine lv_iconst (v := 1) hx hb dL_law_1391 (by decide) ?_
  refine lv_iadd hx hb dL_law_1392 ?_
  rw [← ev_1]
  refine va_sld hx hb hXs hbl hbA hS (i := v_1) (vp_in_iff.mpr ⟨by omega, by omega⟩) dL_law_1393 ?_
  rw [← ev_3]
  refine lv_aload_n hx hb dL_law_1394 rfl (lv_at hl 0 rfl) ?_
  refine lv_iload_n hx hb dL_law_1395 rfl (lv_at hl 3 rfl) ?_
  refine lv_iconst (v := 2) hx hb dL_law_1396 (by decide) ?_
  refine lv_iadd hx hb dL_law_1397 ?_
  rw [← ev_4]
  refine va_sld hx hb hXs hbl hbA hS (i := v_4) (vp_in_iff.mpr ⟨by omega, by omega⟩) dL_law_1398 ?_
  rw [← ev_6]
  refine lv_aload_n hx hb dL_law_1399 rfl (lv_at hl 0 rfl) ?_
  refine lv_iload_n hx hb dL_law_1400 rfl (lv_at hl 3 rfl) ?_
  refine lv_iconst (v := 3) hx hb dL_law_1401 (by decide) ?_
  refine lv_iadd hx hb dL_law_1402 ?_
  rw [← ev_7]
  refine va_sld hx hb hXs hbl hbA hS (i := v_7) (vp_in_iff.mpr ⟨by omega, by omega⟩) dL_law_1403 ?_
  rw [← ev_9]
  refine lv_i2l (v := w_10) hx hb dL_law_1404 ew_10.symm ?_
  refine lv_bipush (v := 32) hx hb dL_law_1405 (by decide) ?_
  refine lv_lshl (v := w_12) hx hb dL_law_1407 ew_12.symm ?_
  refine lv_aload_n hx hb dL_law_1408 rfl (lv_at hl 0 rfl) ?_
  refine lv_iload_n hx hb dL_law_1409 rfl (lv_at hl 3 rfl) ?_
  refine lv_iconst (v := 4) hx hb dL_law_1410 (by decide) ?_
  refine lv_iadd hx hb dL_law_1411 ?_
  rw [← ev_13]
  refine va_sld hx hb hXs hbl hbA hS (i := v_13) (vp_in_iff.mpr ⟨by omega, by omega⟩) dL_law_1412 ?_
  rw [← ev_15]
  refine lv_i2l (v := w_16) hx hb dL_law_1413 ew_16.symm ?_
  refine lv_ldc2 (v := 4294967295) hx hb hown (hts _ mw_1246) dL_law_1414 ?_
  refine lv_land hx hb dL_law_1417 ?_
  rw [← ew_18]
  refine lv_lor hx hb dL_law_1418 ?_
  rw [← ew_19]
  refine lw_callI (va_runV (As := [.int v_3, .int v_6, .long w_19]) (rest := []) ⟨hx, hb, hml, hown, hts⟩ (kX12_put l D ca za hM hhM fM LM QM hIM (v_3) (v_6) (w_19) H.size) (cwV 3 hts (gw_V (fun _ h => h) mw_1252 mw_1253 mw_1254 mw_619 mw_1251) rfl rfl rfl (by decide +kernel) ⟨Nat.le_of_ble_eq_true rfl, Nat.le_of_ble_eq_true rfl⟩) (sg_preV (ci := 12) (C := RX12) (T := TX12) (N := 55) hAM hK hPM hS (show sgZ zcM za (fun q => s.heap.size ≤ q) s.heap.size s from fun i q h => by simp [zcM] at h) 0 (by decide) rfl rfl) rfl rfl hl.1 rfl (lv_room (Nat.le_of_ble_eq_true rfl)) dL_law_1419 hcl) hAM hS (fun r2 fM1 LM1 QM1 H locs hqr2 hP1 hkr2 hS => ?_)
  have hPM := hP1
  have hPX := lw_kept hPX hdis2 hkr2
  obtain ⟨⟨efM, eLM, eQM⟩, hvr2, hur2⟩ := hqr2
  rw [efM, eQM] at hPM
  refine lv_pop hx hb dL_law_1422 rfl ?_
  refine lv_goto (tgt := 1578) hx hb dL_law_1423 (by decide) ?_
  exact hJ _ _ _ _ _ _ _ _ _ ⟨hIX, hJX, hIM, hJM, ⟨rDesk.fr hR.1 (sgK.rf0 36 2 (by decide)) (fun j => sgK.rf0 37 j (by rfl)) (sgK.rf0 0 45 (by decide)) (fun j => sgK.rf0 20 j (by rfl)), rTrace.fr hR.2.1 (sgK.rf0 36 3 (by decide)) (fun j => sgK.rf0 38 j (by rfl)) (sgK.rf0 0 48 (by decide)) (fun j => sgK.rf0 21 j (by rfl)), rShelf.fr hR.2.2.1 (fun t j => sgK.rf0 _ _ (sgin_lo (c := 40) (by decide) (by omega))) (sgK.rf0 36 2 (by decide)) (fun j => sgK.rf0 22 j (by rfl)) (fun j => sgK.rf0 23 j (by rfl)), ((hR.2.2.1.cput hR.2.2.2.1 hIX0 (hIX0 36 2).2 hur1 hur2).2), rNum.fr hR.2.2.2.2.1 (sgK.rf0 1 3 (by decide)) (fun j => sgK.rf0 2 j (by rfl)) (sgK.rf0 0 6 (by decide)) (fun j => sgK.rf0 1 j (by rfl)), rChg.fr hR.2.2.2.2.2.1 (sgK.rf0 1 3 (by decide)) (sgK.rf0 32 3 (by decide)) (sgK.rf0 32 4 (by decide)) (fun j => sgK.rf0 33 j (by rfl)) (fun j => sgK.rf0 34 j (by rfl)) (fun j => sgK.rf0 35 j (by rfl)) (sgK.rf0 0 5 (by decide)) (sgK.rf0 0 4 (by decide)) (fun j => sgK.rf0 2 j (by rfl)) (fun j => sgK.rf0 3 j (by rfl)) (fun j => sgK.rf0 4 j (by rfl)), (hR.2.2.2.2.2.2.1.put hIX0 hur1), rTape.fr hR.2.2.2.2.2.2.2.1 (sgK.rf0 4 1 (by decide)) (fun j => sgK.rf0 5 j (by rfl)) (sgK.rf0 0 9 (by decide)) (fun j => sgK.rf0 6 j (by rfl)), rLs.fr hR.2.2.2.2.2.2.2.2.1 (sgK.rf0 4 2 (by decide)) (sgK.rf0 4 9 (by decide)) (fun j => sgK.rf0 7 j (by rfl)) (sgK.rf0 1 3 (by decide)) (fun j => sgK.rf0 2 j (by rfl)) (sgK.rf0 32 4 (by decide)) (fun j => sgK.rf0 33 j (by rfl)) (fun j => sgK.rf0 34 j (by rfl)) (fun j => sgK.rf0 35 j (by rfl)) (fun j => sgK.rf0 9 j (by rfl)) (sgK.rf0 0 11 (by decide)) (fun j => sgK.rf0 7 j (by rfl)), rSt.fr hR.2.2.2.2.2.2.2.2.2.1 (fun j => sgK.rf0 3 j (by rfl)) (fun j => sgK.rf0 5 j (by rfl)), rIdle.fr hR.2.2.2.2.2.2.2.2.2.2.1 (sgK.rf0 13 7 (by decide)) (sgK.rf0 13 9 (by decide)) (sgK.rf0 0 20 (by decide)) (sgK.rf0 0 22 (by decide)) (sgK.rf0 0 23 (by decide)) (sgK.rf0 0 24 (by decide)) (fun j => sgK.rf0 11 j (by rfl)), rIm.fr hR.2.2.2.2.2.2.2.2.2.2.2 (sgK.rf0 29 0 (by decide)) (sgK.rf0 28 5 (by decide)) (sgK.rf0 30 0 (by decide)) (fun j => sgK.rf0 31 j (by rfl)) (sgK.rf0 0 38 (by decide)) (sgK.rf0 0 43 (by decide)) (fun j => sgK.rf0 19 j (by rfl))⟩⟩ hPX hPM hS (lv_sub hl [0, 1, 2, 3] rfl)

set_option maxHeartbeats 4000000 in
set_option maxRecDepth 100000 in
theorem lc_36 {p : Program} {e : Env} {s : State} {m : MethodId} {below : List Frame} {meth : Method} {cd : Code} {Qz : State → Prop} (l : Launch) {b : Nat} {N : Nat} {xs : Nat → Int32} {D : va_G} {ca : Nat → ClassId} {za hX hM : Nat → Nat} {cells slots : Nat} {H : Heap} {locs : List Loc} {ls : Array Slot} {i : Int32} {fX fM : sg_F} {LX LM : sg_L} {QX QM : sg_Q} (hx : p.tables.exec = Jvm.exec) (hb : cd.code = code) (hml : cd.maxLocals = 4) (hown : s.vm.findClass R_law = some m.cls) (hts : ∀ w ∈ gwL, w.before #[Value.ref b] s = true) (hXs : va_X b N xs s s.heap) (hN : N ≤ 3072) (hi : 0 ≤ i.toInt ∧ i.toInt + 6 ≤ (N : Int)) (hbl : b < s.heap.size) (hK : va_K D vwCl (tyX ca) s) (hZ : sgZ zcX za (fun q => s.heap.size ≤ q) s.heap.size s) (hhX : sgH 52 hX) (hhM : sgH 26 hM) (hAX : sgY (fun q => s.heap.size ≤ q) 52 hX s.heap.size) (hAM : sgY (fun q => s.heap.size ≤ q) 26 hM s.heap.size) (hdis : ∀ i j : Nat, i < 52 → j < 26 → hX i ≠ hM j) (hdis2 : ∀ i j : Nat, i < 26 → j < 52 → hM i ≠ hX j) (hcl : cells ≤ room_1.cells ∧ slots ≤ room_1.slots) (hV : lwInv fX LX QX fM LM QM) (hPX : va_P D vwCl (sgw 52 hX (eX ca hX) fX LX QX) H) (hPM : va_P D vwCl (sgw 26 hM (eM ca hM) fM LM QM) H) (hS : va_S (fun q => s.heap.size ≤ q) s.heap H locs) (hl : lv_has ls 4 [(0, .ref b), (1, .ref (hX 0)), (2, .ref (hM 0)), (3, .int i)]) (hJ : ∀ (fX : sg_F) (LX : sg_L) (QX : sg_Q) (fM : sg_F) (LM : sg_L) (QM : sg_Q) (H : Heap) (locs : List Loc) (ls : Array Slot), lwInv fX LX QX fM LM QM → va_P D vwCl (sgw 52 hX (eX ca hX) fX LX QX) H → va_P D vwCl (sgw 26 hM (eM ca hM) fM LM QM) H → va_S (fun q => s.heap.size ≤ q) s.heap H locs → lv_has ls 4 [(0, .ref b), (1, .ref (hX 0)), (2, .ref (hM 0)), (3, .int i)] → W p l e room_1 s m #[Value.ref b] below meth cd H locs cells slots Qz (F0 m 1578 ls [])) : W p l e room_1 s m #[Value.ref b] below meth cd H locs cells slots Qz (F0 m 1426 ls []) := by
  have hbA : ¬ (fun q => s.heap.size ≤ q) b := Nat.not_le.mpr hbl
  have hown : s.vm.findClass RL = some m.cls := hown
  obtain ⟨hIX, hJX, hIM, hJM, hR⟩ := hV
  have hIX0 := hIX; have hIM0 := hIM; have hJM0 := hJM
  refine lv_aload_n hx hb dL_law_1426 rfl (lv_at hl 1 rfl) ?_
  refine lv_aload_n hx hb dL_law_1427 rfl (lv_at hl 0 rfl) ?_
  refine lv_iload_n hx hb dL_law_1428 rfl (lv_at hl 3 rfl) ?_
  refine lv_iconst (v := 1) hx hb dL_law_1429 (by decide) ?_
  refine lv_iadd hx hb dL_law_1430 ?_
  refine lv_topi (fun v_1 ev_1 => ?_)
  have q_2 : v_1.toInt = i.toInt + 1 := by rw [ev_1]; have k1 : (1 : Int32).toInt = 1 := (by decide); exact (bn_addI (by omega) (by omega)).trans (by omega)
  refine va_sld hx hb hXs hbl hbA hS (i := v_1) (vp_in_iff.mpr ⟨by omega, by omega⟩) dL_law_1431 ?_
  refine lv_topi (fun v_3 ev_3 => ?_)
  refine lv_aload_n hx hb dL_law_1432 rfl (lv_at hl 0 rfl) ?_
  refine lv_iload_n hx hb dL_law_1433 rfl (lv_at hl 3 rfl) ?_
  refine lv_iconst (v := 2) hx hb dL_law_1434 (by decide) ?_
  refine lv_iadd hx hb dL_law_1435 ?_
  refine lv_topi (fun v_4 ev_4 => ?_)
  have q_5 : v_4.toInt = i.toInt + 2 := by rw [ev_4]; have k1 : (2 : Int32).toInt = 2 := (by decide); exact (bn_addI (by omega) (by omega)).trans (by omega)
  refine va_sld hx hb hXs hbl hbA hS (i := v_4) (vp_in_iff.mpr ⟨by omega, by omega⟩) dL_law_1436 ?_
  refine lv_topi (fun v_6 ev_6 => ?_)
  refine lw_callL (va_runV (As := [.int v_3, .int v_6]) (rest := []) ⟨hx, hb, hml, hown, hts⟩ (kX11_element l D ca za hX hhX fX LX QX hIX (v_3) (v_6) H.size) (cwV 2 hts (gw_V (fun _ h => h) mw_1256 mw_1257 mw_1258 mw_37 mw_1255) rfl rfl rfl (by decide +kernel) ⟨Nat.le_of_ble_eq_true rfl, Nat.le_of_ble_eq_true rfl⟩) (sg_preV (ci := 11) (C := RX11) (T := TX11) (N := 10) hAX hK hPX hS hZ 0 (by decide) rfl rfl) rfl rfl hl.1 rfl (lv_room (Nat.le_of_ble_eq_true rfl)) dL_law_1437 hcl) hAX hS (fun r1 fX1 LX1 QX1 H locs hqr1 hP1 hkr1 hS => ?_)
  have hPX := hP1
  have hPM := lw_kept hPM hdis hkr1
  obtain ⟨⟨efX, eLX, eQX⟩, hvr1, hur1⟩ := hqr1
  rw [efX, eLX, eQX] at hPX
  refine lv_pop2_2 hx hb dL_law_1440 rfl ?_
  refine lv_aload_n hx hb dL_law_1441 rfl (lv_at hl 2 rfl) ?_
  refine lv_aload_n hx hb dL_law_1442 rfl (lv_at hl 0 rfl) ?_
  refine lv_iload_n hx hb dL_law_1443 rfl (lv_at hl 3 rfl) ?_
  refine lv_iconst (v := 1) hx hb dL_law_1444 (by decide) ?_
  refine lv_iadd hx hb dL_law_1445 ?_
  rw [← ev_1]
  refine va_sld hx hb hXs hbl hbA hS (i := v_1) (vp_in_iff.mpr ⟨by omega, by omega⟩) dL_law_1446 ?_
  rw [← ev_3]
  refine lv_aload_n hx hb dL_law_1447 rfl (lv_at hl 0 rfl) ?_
  refine lv_iload_n hx hb dL_law_1448 rfl (lv_at hl 3 rfl) ?_
  refine lv_iconst (v := 2) hx hb dL_law_1449 (by decide) ?_
  refine lv_iadd hx hb dL_law_1450 ?_
  rw [← ev_4]
  refine va_sld hx hb hXs hbl hbA hS (i := v_4) (vp_in_iff.mpr ⟨by omega, by omega⟩) dL_law_1451 ?_
  rw [← ev_6]
  refine lw_callL (va_runV (As := [.int v_3, .int v_6]) (rest := []) ⟨hx, hb, hml, hown, hts⟩ (kX12_element l D ca za hM hhM fM LM QM hIM (v_3) (v_6) H.size) (cwV 2 hts (gw_V (fun _ h => h) mw_1260 mw_1261 mw_1262 mw_619 mw_1259) rfl rfl rfl (by decide +kernel) ⟨Nat.le_of_ble_eq_true rfl, Nat.le_of_ble_eq_true rfl⟩) (sg_preV (ci := 12) (C := RX12) (T := TX12) (N := 55) hAM hK hPM hS (show sgZ zcM za (fun q => s.heap.size ≤ q) s.heap.size s from fun i q h => by simp [zcM] at h) 0 (by decide) rfl rfl) rfl rfl hl.1 rfl (lv_room (Nat.le_of_ble_eq_true rfl)) dL_law_1452 hcl) hAM hS (fun r2 fM1 LM1 QM1 H locs hqr2 hP1 hkr2 hS => ?_)
  have hPM := hP1
  have hPX := lw_kept hPX hdis2 hkr2
  obtain ⟨⟨efM, eLM, eQM⟩, hvr2, hur2⟩ := hqr2
  rw [efM, eLM, eQM] at hPM
  refine lv_pop2_2 hx hb dL_law_1455 rfl ?_
  refine lv_goto (tgt := 1578) hx hb dL_law_1456 (by decide) ?_
  exact hJ _ _ _ _ _ _ _ _ _ ⟨hIX, hJX, hIM, hJM, ⟨rDesk.fr hR.1 (sgK.rf0 36 2 (by decide)) (fun j => sgK.rf0 37 j (by rfl)) (sgK.rf0 0 45 (by decide)) (fun j => sgK.rf0 20 j (by rfl)), rTrace.fr hR.2.1 (sgK.rf0 36 3 (by decide)) (fun j => sgK.rf0 38 j (by rfl)) (sgK.rf0 0 48 (by decide)) (fun j => sgK.rf0 21 j (by rfl)), rShelf.fr hR.2.2.1 (fun t j => sgK.rf0 _ _ (sgin_lo (c := 40) (by decide) (by omega))) (sgK.rf0 36 2 (by decide)) (fun j => sgK.rf0 22 j (by rfl)) (fun j => sgK.rf0 23 j (by rfl)), rEl.fr hR.2.2.2.1 (fun t j => sgK.rf0 _ _ (sgin_lo (c := 40) (by decide) (by omega))), rNum.fr hR.2.2.2.2.1 (sgK.rf0 1 3 (by decide)) (fun j => sgK.rf0 2 j (by rfl)) (sgK.rf0 0 6 (by decide)) (fun j => sgK.rf0 1 j (by rfl)), rChg.fr hR.2.2.2.2.2.1 (sgK.rf0 1 3 (by decide)) (sgK.rf0 32 3 (by decide)) (sgK.rf0 32 4 (by decide)) (fun j => sgK.rf0 33 j (by rfl)) (fun j => sgK.rf0 34 j (by rfl)) (fun j => sgK.rf0 35 j (by rfl)) (sgK.rf0 0 5 (by decide)) (sgK.rf0 0 4 (by decide)) (fun j => sgK.rf0 2 j (by rfl)) (fun j => sgK.rf0 3 j (by rfl)) (fun j => sgK.rf0 4 j (by rfl)), rByte.fr hR.2.2.2.2.2.2.1 (fun t j => sgK.rf0 _ _ (sgin_lo (c := 40) (by decide) (by omega))), rTape.fr hR.2.2.2.2.2.2.2.1 (sgK.rf0 4 1 (by decide)) (fun j => sgK.rf0 5 j (by rfl)) (sgK.rf0 0 9 (by decide)) (fun j => sgK.rf0 6 j (by rfl)), rLs.fr hR.2.2.2.2.2.2.2.2.1 (sgK.rf0 4 2 (by decide)) (sgK.rf0 4 9 (by decide)) (fun j => sgK.rf0 7 j (by rfl)) (sgK.rf0 1 3 (by decide)) (fun j => sgK.rf0 2 j (by rfl)) (sgK.rf0 32 4 (by decide)) (fun j => sgK.rf0 33 j (by rfl)) (fun j => sgK.rf0 34 j (by rfl)) (fun j => sgK.rf0 35 j (by rfl)) (fun j => sgK.rf0 9 j (by rfl)) (sgK.rf0 0 11 (by decide)) (fun j => sgK.rf0 7 j (by rfl)), rSt.fr hR.2.2.2.2.2.2.2.2.2.1 (fun j => sgK.rf0 3 j (by rfl)) (fun j => sgK.rf0 5 j (by rfl)), rIdle.fr hR.2.2.2.2.2.2.2.2.2.2.1 (sgK.rf0 13 7 (by decide)) (sgK.rf0 13 9 (by decide)) (sgK.rf0 0 20 (by decide)) (sgK.rf0 0 22 (by decide)) (sgK.rf0 0 23 (by decide)) (sgK.rf0 0 24 (by decide)) (fun j => sgK.rf0 11 j (by rfl)), rIm.fr hR.2.2.2.2.2.2.2.2.2.2.2 (sgK.rf0 29 0 (by decide)) (sgK.rf0 28 5 (by decide)) (sgK.rf0 30 0 (by decide)) (fun j => sgK.rf0 31 j (by rfl)) (sgK.rf0 0 38 (by decide)) (sgK.rf0 0 43 (by decide)) (fun j => sgK.rf0 19 j (by rfl))⟩⟩ hPX hPM hS (lv_sub hl [0, 1, 2, 3] rfl)

set_option maxHeartbeats 4000000 in
set_option maxRecDepth 100000 in
theorem lc_37 {p : Program} {e : Env} {s : State} {m : MethodId} {below : List Frame} {meth : Method} {cd : Code} {Qz : State → Prop} (l : Launch) {b : Nat} {N : Nat} {xs : Nat → Int32} {D : va_G} {ca : Nat → ClassId} {za hX hM : Nat → Nat} {cells slots : Nat} {H : Heap} {locs : List Loc} {ls : Array Slot} {i : Int32} {fX fM : sg_F} {LX LM : sg_L} {QX QM : sg_Q} (hx : p.tables.exec = Jvm.exec) (hb : cd.code = code) (hml : cd.maxLocals = 4) (hown : s.vm.findClass R_law = some m.cls) (hts : ∀ w ∈ gwL, w.before #[Value.ref b] s = true) (hXs : va_X b N xs s s.heap) (hN : N ≤ 3072) (hi : 0 ≤ i.toInt ∧ i.toInt + 6 ≤ (N : Int)) (hbl : b < s.heap.size) (hK : va_K D vwCl (tyX ca) s) (hZ : sgZ zcX za (fun q => s.heap.size ≤ q) s.heap.size s) (hhX : sgH 52 hX) (hhM : sgH 26 hM) (hAX : sgY (fun q => s.heap.size ≤ q) 52 hX s.heap.size) (hAM : sgY (fun q => s.heap.size ≤ q) 26 hM s.heap.size) (hdis : ∀ i j : Nat, i < 52 → j < 26 → hX i ≠ hM j) (hdis2 : ∀ i j : Nat, i < 26 → j < 52 → hM i ≠ hX j) (hcl : cells ≤ room_1.cells ∧ slots ≤ room_1.slots) (hV : lwInv fX LX QX fM LM QM) (hPX : va_P D vwCl (sgw 52 hX (eX ca hX) fX LX QX) H) (hPM : va_P D vwCl (sgw 26 hM (eM ca hM) fM LM QM) H) (hS : va_S (fun q => s.heap.size ≤ q) s.heap H locs) (hl : lv_has ls 4 [(0, .ref b), (1, .ref (hX 0)), (2, .ref (hM 0)), (3, .int i)]) (hJ : ∀ (fX : sg_F) (LX : sg_L) (QX : sg_Q) (fM : sg_F) (LM : sg_L) (QM : sg_Q) (H : Heap) (locs : List Loc) (ls : Array Slot), lwInv fX LX QX fM LM QM → va_P D vwCl (sgw 52 hX (eX ca hX) fX LX QX) H → va_P D vwCl (sgw 26 hM (eM ca hM) fM LM QM) H → va_S (fun q => s.heap.size ≤ q) s.heap H locs → lv_has ls 4 [(0, .ref b), (1, .ref (hX 0)), (2, .ref (hM 0)), (3, .int i)] → W p l e room_1 s m #[Value.ref b] below meth cd H locs cells slots Qz (F0 m 1578 ls [])) : W p l e room_1 s m #[Value.ref b] below meth cd H locs cells slots Qz (F0 m 1459 ls []) := by
  have hbA : ¬ (fun q => s.heap.size ≤ q) b := Nat.not_le.mpr hbl
  have hown : s.vm.findClass RL = some m.cls := hown
  obtain ⟨hIX, hJX, hIM, hJM, hR⟩ := hV
  have hIX0 := hIX; have hIM0 := hIM; have hJM0 := hJM
  refine lv_aload_n hx hb dL_law_1459 rfl (lv_at hl 1 rfl) ?_
  refine lv_aload_n hx hb dL_law_1460 rfl (lv_at hl 0 rfl) ?_
  refine lv_iload_n hx hb dL_law_1461 rfl (lv_at hl 3 rfl) ?_
  refine lv_iconst (v := 1) hx hb dL_law_1462 (by decide) ?_
  refine lv_iadd hx hb dL_law_1463 ?_
  refine lv_topi (fun v_1 ev_1 => ?_)
  have q_2 : v_1.toInt = i.toInt + 1 := by rw [ev_1]; have k1 : (1 : Int32).toInt = 1 := (by decide); exact (bn_addI (by omega) (by omega)).trans (by omega)
  refine va_sld hx hb hXs hbl hbA hS (i := v_1) (vp_in_iff.mpr ⟨by omega, by omega⟩) dL_law_1464 ?_
  refine lv_topi (fun v_3 ev_3 => ?_)
  refine lv_aload_n hx hb dL_law_1465 rfl (lv_at hl 0 rfl) ?_
  refine lv_iload_n hx hb dL_law_1466 rfl (lv_at hl 3 rfl) ?_
  refine lv_iconst (v := 2) hx hb dL_law_1467 (by decide) ?_
  refine lv_iadd hx hb dL_law_1468 ?_
  refine lv_topi (fun v_4 ev_4 => ?_)
  have q_5 : v_4.toInt = i.toInt + 2 := by rw [ev_4]; have k1 : (2 : Int32).toInt = 2 := (by decide); exact (bn_addI (by omega) (by omega)).trans (by omega)
  refine va_sld hx hb hXs hbl hbA hS (i := v_4) (vp_in_iff.mpr ⟨by omega, by omega⟩) dL_law_1469 ?_
  refine lv_topi (fun v_6 ev_6 => ?_)
  refine lv_aload_n hx hb dL_law_1470 rfl (lv_at hl 0 rfl) ?_
  refine lv_iload_n hx hb dL_law_1471 rfl (lv_at hl 3 rfl) ?_
  refine lv_iconst (v := 3) hx hb dL_law_1472 (by decide) ?_
  refine lv_iadd hx hb dL_law_1473 ?_
  refine lv_topi (fun v_7 ev_7 => ?_)
  have q_8 : v_7.toInt = i.toInt + 3 := by rw [ev_7]; have k1 : (3 : Int32).toInt = 3 := (by decide); exact (bn_addI (by omega) (by omega)).trans (by omega)
  refine va_sld hx hb hXs hbl hbA hS (i := v_7) (vp_in_iff.mpr ⟨by omega, by omega⟩) dL_law_1474 ?_
  refine lv_topi (fun v_9 ev_9 => ?_)
  refine lv_aload_n hx hb dL_law_1475 rfl (lv_at hl 0 rfl) ?_
  refine lv_iload_n hx hb dL_law_1476 rfl (lv_at hl 3 rfl) ?_
  refine lv_iconst (v := 4) hx hb dL_law_1477 (by decide) ?_
  refine lv_iadd hx hb dL_law_1478 ?_
  refine lv_topi (fun v_10 ev_10 => ?_)
  have q_11 : v_10.toInt = i.toInt + 4 := by rw [ev_10]; have k1 : (4 : Int32).toInt = 4 := (by decide); exact (bn_addI (by omega) (by omega)).trans (by omega)
  refine va_sld hx hb hXs hbl hbA hS (i := v_10) (vp_in_iff.mpr ⟨by omega, by omega⟩) dL_law_1479 ?_
  refine lv_topi (fun v_12 ev_12 => ?_)
  refine lv_aload_n hx hb dL_law_1480 rfl (lv_at hl 0 rfl) ?_
  refine lv_iload_n hx hb dL_law_1481 rfl (lv_at hl 3 rfl) ?_
  refine lv_iconst (v := 5) hx hb dL_law_1482 (by decide) ?_
  refine lv_iadd hx hb dL_law_1483 ?_
  refine lv_topi (fun v_13 ev_13 => ?_)
  have q_14 : v_13.toInt = i.toInt + 5 := by rw [ev_13]; have k1 : (5 : Int32).toInt = 5 := (by decide); exact (bn_addI (by omega) (by omega)).trans (by omega)
  refine va_sld hx hb hXs hbl hbA hS (i := v_13) (vp_in_iff.mpr ⟨by omega, by omega⟩) dL_law_1484 ?_
  refine lv_topi (fun v_15 ev_15 => ?_)
  refine lw_callI (va_runV (As := [.int v_3, .int v_6, .int v_9, .int v_12, .int v_15]) (rest := []) ⟨hx, hb, hml, hown, hts⟩ (kX11_shift l D ca za hX hhX fX LX QX hIX (v_3) (v_6) (v_9) (v_12) (v_15) H.size) (cwV 5 hts (gw_V (fun _ h => h) mw_1264 mw_1265 mw_1266 mw_37 mw_1263) rfl rfl rfl (by decide +kernel) ⟨Nat.le_of_ble_eq_true rfl, Nat.le_of_ble_eq_true rfl⟩) (sg_preV (ci := 11) (C := RX11) (T := TX11) (N := 10) hAX hK hPX hS hZ 0 (by decide) rfl rfl) rfl rfl hl.1 rfl (lv_room (Nat.le_of_ble_eq_true rfl)) dL_law_1485 hcl) hAX hS (fun r1 fX1 LX1 QX1 H locs hqr1 hP1 hkr1 hS => ?_)
  have hPX := hP1
  have hPM := lw_kept hPM hdis hkr1
  obtain ⟨⟨efX, eLX, eQX⟩, hvr1, hur1⟩ := hqr1
  rw [efX, eQX] at hPX
  refine lv_pop hx hb dL_law_1488 rfl ?_
  refine lv_aload_n hx hb dL_law_1489 rfl (lv_at hl 2 rfl) ?_
  refine lv_aload_n hx hb dL_law_1490 rfl (lv_at hl 0 rfl) ?_
  refine lv_iload_n hx hb dL_law_1491 rfl (lv_at hl 3 rfl) ?_
  refine lv_iconst (v := 1) hx hb dL_law_1492 (by decide) ?_
  refine lv_iadd hx hb dL_law_1493 ?_
  rw [← ev_1]
  refine va_sld hx hb hXs hbl hbA hS (i := v_1) (vp_in_iff.mpr ⟨by omega, by omega⟩) dL_law_1494 ?_
  rw [← ev_3]
  refine lv_aload_n hx hb dL_law_1495 rfl (lv_at hl 0 rfl) ?_
  refine lv_iload_n hx hb dL_law_1496 rfl (lv_at hl 3 rfl) ?_
  refine lv_iconst (v := 2) hx hb dL_law_1497 (by decide) ?_
  refine lv_iadd hx hb dL_law_1498 ?_
  rw [← ev_4]
  refine va_sld hx hb hXs hbl hbA hS (i := v_4) (vp_in_iff.mpr ⟨by omega, by omega⟩) dL_law_1499 ?_
  rw [← ev_6]
  refine lv_aload_n hx hb dL_law_1500 rfl (lv_at hl 0 rfl) ?_
  refine lv_iload_n hx hb dL_law_1501 rfl (lv_at hl 3 rfl) ?_
  refine lv_iconst (v := 3) hx hb dL_law_1502 (by decide) ?_
  refine lv_iadd hx hb dL_law_1503 ?_
  rw [← ev_7]
  refine va_sld hx hb hXs hbl hbA hS (i := v_7) (vp_in_iff.mpr ⟨by omega, by omega⟩) dL_law_1504 ?_
  rw [← ev_9]
  refine lv_aload_n hx hb dL_law_1505 rfl (lv_at hl 0 rfl) ?_
  refine lv_iload_n hx hb dL_law_1506 rfl (lv_at hl 3 rfl) ?_
  refine lv_iconst (v := 4) hx hb dL_law_1507 (by decide) ?_
  refine lv_iadd hx hb dL_law_1508 ?_
  rw [← ev_10]
  refine va_sld hx hb hXs hbl hbA hS (i := v_10) (vp_in_iff.mpr ⟨by omega, by omega⟩) dL_law_1509 ?_
  rw [← ev_12]
  refine lv_aload_n hx hb dL_law_1510 rfl (lv_at hl 0 rfl) ?_
  refine lv_iload_n hx hb dL_law_1511 rfl (lv_at hl 3 rfl) ?_
  refine lv_iconst (v := 5) hx hb dL_law_1512 (by decide) ?_
  refine lv_iadd hx hb dL_law_1513 ?_
  rw [← ev_13]
  refine va_sld hx hb hXs hbl hbA hS (i := v_13) (vp_in_iff.mpr ⟨by omega, by omega⟩) dL_law_1514 ?_
  rw [← ev_15]
  refine lw_callI (va_runV (As := [.int v_3, .int v_6, .int v_9, .int v_12, .int v_15]) (rest := []) ⟨hx, hb, hml, hown, hts⟩ (kX12_shift l D ca za hM hhM fM LM QM hIM (v_3) (v_6) (v_9) (v_12) (v_15) H.size) (cwV 5 hts (gw_V (fun _ h => h) mw_1268 mw_1269 mw_1270 mw_619 mw_1267) rfl rfl rfl (by decide +kernel) ⟨Nat.le_of_ble_eq_true rfl, Nat.le_of_ble_eq_true rfl⟩) (sg_preV (ci := 12) (C := RX12) (T := TX12) (N := 55) hAM hK hPM hS (show sgZ zcM za (fun q => s.heap.size ≤ q) s.heap.size s from fun i q h => by simp [zcM] at h) 0 (by decide) rfl rfl) rfl rfl hl.1 rfl (lv_room (Nat.le_of_ble_eq_true rfl)) dL_law_1515 hcl) hAM hS (fun r2 fM1 LM1 QM1 H locs hqr2 hP1 hkr2 hS => ?_)
  have hPM := hP1
  have hPX := lw_kept hPX hdis2 hkr2
  obtain ⟨⟨efM, eLM, eQM⟩, hvr2, hur2⟩ := hqr2
  rw [efM, eQM] at hPM
  refine lv_pop hx hb dL_law_1518 rfl ?_
  refine lv_goto (tgt := 1578) hx hb dL_law_1519 (by decide) ?_
  exact hJ _ _ _ _ _ _ _ _ _ ⟨hIX, hJX, hIM, hJM, ⟨rDesk.fr hR.1 (sgK.rf0 36 2 (by decide)) (fun j => sgK.rf0 37 j (by rfl)) (sgK.rf0 0 45 (by decide)) (fun j => sgK.rf0 20 j (by rfl)), rTrace.fr hR.2.1 (sgK.rf0 36 3 (by decide)) (fun j => sgK.rf0 38 j (by rfl)) (sgK.rf0 0 48 (by decide)) (fun j => sgK.rf0 21 j (by rfl)), rShelf.fr hR.2.2.1 (fun t j => sgK.rf0 _ _ (sgin_lo (c := 40) (by decide) (by omega))) (sgK.rf0 36 2 (by decide)) (fun j => sgK.rf0 22 j (by rfl)) (fun j => sgK.rf0 23 j (by rfl)), ((hR.2.2.1.cshift hR.2.2.2.1 hIX0 (hIX0 36 2).2 (hIM0 23) hur1 hur2).2), rNum.fr hR.2.2.2.2.1 (sgK.rf0 1 3 (by decide)) (fun j => sgK.rf0 2 j (by rfl)) (sgK.rf0 0 6 (by decide)) (fun j => sgK.rf0 1 j (by rfl)), rChg.fr hR.2.2.2.2.2.1 (sgK.rf0 1 3 (by decide)) (sgK.rf0 32 3 (by decide)) (sgK.rf0 32 4 (by decide)) (fun j => sgK.rf0 33 j (by rfl)) (fun j => sgK.rf0 34 j (by rfl)) (fun j => sgK.rf0 35 j (by rfl)) (sgK.rf0 0 5 (by decide)) (sgK.rf0 0 4 (by decide)) (fun j => sgK.rf0 2 j (by rfl)) (fun j => sgK.rf0 3 j (by rfl)) (fun j => sgK.rf0 4 j (by rfl)), (hR.2.2.2.2.2.2.1.shift hIX0 hur1), rTape.fr hR.2.2.2.2.2.2.2.1 (sgK.rf0 4 1 (by decide)) (fun j => sgK.rf0 5 j (by rfl)) (sgK.rf0 0 9 (by decide)) (fun j => sgK.rf0 6 j (by rfl)), rLs.fr hR.2.2.2.2.2.2.2.2.1 (sgK.rf0 4 2 (by decide)) (sgK.rf0 4 9 (by decide)) (fun j => sgK.rf0 7 j (by rfl)) (sgK.rf0 1 3 (by decide)) (fun j => sgK.rf0 2 j (by rfl)) (sgK.rf0 32 4 (by decide)) (fun j => sgK.rf0 33 j (by rfl)) (fun j => sgK.rf0 34 j (by rfl)) (fun j => sgK.rf0 35 j (by rfl)) (fun j => sgK.rf0 9 j (by rfl)) (sgK.rf0 0 11 (by decide)) (fun j => sgK.rf0 7 j (by rfl)), rSt.fr hR.2.2.2.2.2.2.2.2.2.1 (fun j => sgK.rf0 3 j (by rfl)) (fun j => sgK.rf0 5 j (by rfl)), rIdle.fr hR.2.2.2.2.2.2.2.2.2.2.1 (sgK.rf0 13 7 (by decide)) (sgK.rf0 13 9 (by decide)) (sgK.rf0 0 20 (by decide)) (sgK.rf0 0 22 (by decide)) (sgK.rf0 0 23 (by decide)) (sgK.rf0 0 24 (by decide)) (fun j => sgK.rf0 11 j (by rfl)), rIm.fr hR.2.2.2.2.2.2.2.2.2.2.2 (sgK.rf0 29 0 (by decide)) (sgK.rf0 28 5 (by decide)) (sgK.rf0 30 0 (by decide)) (fun j => sgK.rf0 31 j (by rfl)) (sgK.rf0 0 38 (by decide)) (sgK.rf0 0 43 (by decide)) (fun j => sgK.rf0 19 j (by rfl))⟩⟩ hPX hPM hS (lv_sub hl [0, 1, 2, 3] rfl)

set_option maxHeartbeats 4000000 in
set_option maxRecDepth 100000 in
theorem lc_38 {p : Program} {e : Env} {s : State} {m : MethodId} {below : List Frame} {meth : Method} {cd : Code} {Qz : State → Prop} (l : Launch) {b : Nat} {N : Nat} {xs : Nat → Int32} {D : va_G} {ca : Nat → ClassId} {za hX hM : Nat → Nat} {cells slots : Nat} {H : Heap} {locs : List Loc} {ls : Array Slot} {i : Int32} {fX fM : sg_F} {LX LM : sg_L} {QX QM : sg_Q} (hx : p.tables.exec = Jvm.exec) (hb : cd.code = code) (hml : cd.maxLocals = 4) (hown : s.vm.findClass R_law = some m.cls) (hts : ∀ w ∈ gwL, w.before #[Value.ref b] s = true) (hXs : va_X b N xs s s.heap) (hN : N ≤ 3072) (hi : 0 ≤ i.toInt ∧ i.toInt + 6 ≤ (N : Int)) (hbl : b < s.heap.size) (hK : va_K D vwCl (tyX ca) s) (hZ : sgZ zcX za (fun q => s.heap.size ≤ q) s.heap.size s) (hhX : sgH 52 hX) (hhM : sgH 26 hM) (hAX : sgY (fun q => s.heap.size ≤ q) 52 hX s.heap.size) (hAM : sgY (fun q => s.heap.size ≤ q) 26 hM s.heap.size) (hdis : ∀ i j : Nat, i < 52 → j < 26 → hX i ≠ hM j) (hdis2 : ∀ i j : Nat, i < 26 → j < 52 → hM i ≠ hX j) (hcl : cells ≤ room_1.cells ∧ slots ≤ room_1.slots) (hV : lwInv fX LX QX fM LM QM) (hPX : va_P D vwCl (sgw 52 hX (eX ca hX) fX LX QX) H) (hPM : va_P D vwCl (sgw 26 hM (eM ca hM) fM LM QM) H) (hS : va_S (fun q => s.heap.size ≤ q) s.heap H locs) (hl : lv_has ls 4 [(0, .ref b), (1, .ref (hX 0)), (2, .ref (hM 0)), (3, .int i)]) (hJ : ∀ (fX : sg_F) (LX : sg_L) (QX : sg_Q) (fM : sg_F) (LM : sg_L) (QM : sg_Q) (H : Heap) (locs : List Loc) (ls : Array Slot), lwInv fX LX QX fM LM QM → va_P D vwCl (sgw 52 hX (eX ca hX) fX LX QX) H → va_P D vwCl (sgw 26 hM (eM ca hM) fM LM QM) H → va_S (fun q => s.heap.size ≤ q) s.heap H locs → lv_has ls 4 [(0, .ref b), (1, .ref (hX 0)), (2, .ref (hM 0)), (3, .int i)] → W p l e room_1 s m #[Value.ref b] below meth cd H locs cells slots Qz (F0 m 1578 ls [])) : W p l e room_1 s m #[Value.ref b] below meth cd H locs cells slots Qz (F0 m 1522 ls []) := by
  have hbA : ¬ (fun q => s.heap.size ≤ q) b := Nat.not_le.mpr hbl
  have hown : s.vm.findClass RL = some m.cls := hown
  obtain ⟨hIX, hJX, hIM, hJM, hR⟩ := hV
  have hIX0 := hIX; have hIM0 := hIM; have hJM0 := hJM
  refine lv_aload_n hx hb dL_law_1522 rfl (lv_at hl 1 rfl) ?_
  refine lv_aload_n hx hb dL_law_1523 rfl (lv_at hl 0 rfl) ?_
  refine lv_iload_n hx hb dL_law_1524 rfl (lv_at hl 3 rfl) ?_
  refine lv_iconst (v := 1) hx hb dL_law_1525 (by decide) ?_
  refine lv_iadd hx hb dL_law_1526 ?_
  refine lv_topi (fun v_1 ev_1 => ?_)
  have q_2 : v_1.toInt = i.toInt + 1 := by rw [ev_1]; have k1 : (1 : Int32).toInt = 1 := (by decide); exact (bn_addI (by omega) (by omega)).trans (by omega)
  refine va_sld hx hb hXs hbl hbA hS (i := v_1) (vp_in_iff.mpr ⟨by omega, by omega⟩) dL_law_1527 ?_
  refine lv_topi (fun v_3 ev_3 => ?_)
  refine lv_aload_n hx hb dL_law_1528 rfl (lv_at hl 0 rfl) ?_
  refine lv_iload_n hx hb dL_law_1529 rfl (lv_at hl 3 rfl) ?_
  refine lv_iconst (v := 2) hx hb dL_law_1530 (by decide) ?_
  refine lv_iadd hx hb dL_law_1531 ?_
  refine lv_topi (fun v_4 ev_4 => ?_)
  have q_5 : v_4.toInt = i.toInt + 2 := by rw [ev_4]; have k1 : (2 : Int32).toInt = 2 := (by decide); exact (bn_addI (by omega) (by omega)).trans (by omega)
  refine va_sld hx hb hXs hbl hbA hS (i := v_4) (vp_in_iff.mpr ⟨by omega, by omega⟩) dL_law_1532 ?_
  refine lv_topi (fun v_6 ev_6 => ?_)
  refine lw_callI (va_runV (As := [.int v_3, .int v_6]) (rest := []) ⟨hx, hb, hml, hown, hts⟩ (kX11_taken l D ca za hX hhX fX LX QX hIX hJX (v_3) (v_6) H.size) (cwV 2 hts (gw_V (fun _ h => h) mw_1272 mw_1273 mw_1274 mw_37 mw_1271) rfl rfl rfl (by decide +kernel) ⟨Nat.le_of_ble_eq_true rfl, Nat.le_of_ble_eq_true rfl⟩) (sg_preV (ci := 11) (C := RX11) (T := TX11) (N := 10) hAX hK hPX hS hZ 0 (by decide) rfl rfl) rfl rfl hl.1 rfl (lv_room (Nat.le_of_ble_eq_true rfl)) dL_law_1533 hcl) hAX hS (fun r1 fX1 LX1 QX1 H locs hqr1 hP1 hkr1 hS => ?_)
  have hPX := hP1
  have hPM := lw_kept hPM hdis hkr1
  obtain ⟨⟨efX, eLX, eQX⟩, hvr1, hur1⟩ := hqr1
  rw [efX, eLX, eQX] at hPX
  refine lv_pop hx hb dL_law_1536 rfl ?_
  refine lv_aload_n hx hb dL_law_1537 rfl (lv_at hl 2 rfl) ?_
  refine lv_aload_n hx hb dL_law_1538 rfl (lv_at hl 0 rfl) ?_
  refine lv_iload_n hx hb dL_law_1539 rfl (lv_at hl 3 rfl) ?_
  refine lv_iconst (v := 1) hx hb dL_law_1540 (by decide) ?_
  refine lv_iadd hx hb dL_law_1541 ?_
  rw [← ev_1]
  refine va_sld hx hb hXs hbl hbA hS (i := v_1) (vp_in_iff.mpr ⟨by omega, by omega⟩) dL_law_1542 ?_
  rw [← ev_3]
  refine lv_aload_n hx hb dL_law_1543 rfl (lv_at hl 0 rfl) ?_
  refine lv_iload_n hx hb dL_law_1544 rfl (lv_at hl 3 rfl) ?_
  refine lv_iconst (v := 2) hx hb dL_law_1545 (by decide) ?_
  refine lv_iadd hx hb dL_law_1546 ?_
  rw [← ev_4]
  refine va_sld hx hb hXs hbl hbA hS (i := v_4) (vp_in_iff.mpr ⟨by omega, by omega⟩) dL_law_1547 ?_
  rw [← ev_6]
  refine lw_callI (va_runV (As := [.int v_3, .int v_6]) (rest := []) ⟨hx, hb, hml, hown, hts⟩ (kX12_taken l D ca za hM hhM fM LM QM hIM (v_3) (v_6) H.size) (cwV 2 hts (gw_V (fun _ h => h) mw_1276 mw_1277 mw_1278 mw_619 mw_1275) rfl rfl rfl (by decide +kernel) ⟨Nat.le_of_ble_eq_true rfl, Nat.le_of_ble_eq_true rfl⟩) (sg_preV (ci := 12) (C := RX12) (T := TX12) (N := 55) hAM hK hPM hS (show sgZ zcM za (fun q => s.heap.size ≤ q) s.heap.size s from fun i q h => by simp [zcM] at h) 0 (by decide) rfl rfl) rfl rfl hl.1 rfl (lv_room (Nat.le_of_ble_eq_true rfl)) dL_law_1548 hcl) hAM hS (fun r2 fM1 LM1 QM1 H locs hqr2 hP1 hkr2 hS => ?_)
  have hPM := hP1
  have hPX := lw_kept hPX hdis2 hkr2
  obtain ⟨⟨efM, eLM, eQM⟩, hvr2, hur2⟩ := hqr2
  rw [efM, eLM, eQM] at hPM
  refine lv_pop hx hb dL_law_1551 rfl ?_
  refine lv_goto (tgt := 1578) hx hb dL_law_1552 (by decide) ?_
  exact hJ _ _ _ _ _ _ _ _ _ ⟨hIX, hJX, hIM, hJM, ⟨rDesk.fr hR.1 (sgK.rf0 36 2 (by decide)) (fun j => sgK.rf0 37 j (by rfl)) (sgK.rf0 0 45 (by decide)) (fun j => sgK.rf0 20 j (by rfl)), rTrace.fr hR.2.1 (sgK.rf0 36 3 (by decide)) (fun j => sgK.rf0 38 j (by rfl)) (sgK.rf0 0 48 (by decide)) (fun j => sgK.rf0 21 j (by rfl)), rShelf.fr hR.2.2.1 (fun t j => sgK.rf0 _ _ (sgin_lo (c := 40) (by decide) (by omega))) (sgK.rf0 36 2 (by decide)) (fun j => sgK.rf0 22 j (by rfl)) (fun j => sgK.rf0 23 j (by rfl)), rEl.fr hR.2.2.2.1 (fun t j => sgK.rf0 _ _ (sgin_lo (c := 40) (by decide) (by omega))), rNum.fr hR.2.2.2.2.1 (sgK.rf0 1 3 (by decide)) (fun j => sgK.rf0 2 j (by rfl)) (sgK.rf0 0 6 (by decide)) (fun j => sgK.rf0 1 j (by rfl)), rChg.fr hR.2.2.2.2.2.1 (sgK.rf0 1 3 (by decide)) (sgK.rf0 32 3 (by decide)) (sgK.rf0 32 4 (by decide)) (fun j => sgK.rf0 33 j (by rfl)) (fun j => sgK.rf0 34 j (by rfl)) (fun j => sgK.rf0 35 j (by rfl)) (sgK.rf0 0 5 (by decide)) (sgK.rf0 0 4 (by decide)) (fun j => sgK.rf0 2 j (by rfl)) (fun j => sgK.rf0 3 j (by rfl)) (fun j => sgK.rf0 4 j (by rfl)), rByte.fr hR.2.2.2.2.2.2.1 (fun t j => sgK.rf0 _ _ (sgin_lo (c := 40) (by decide) (by omega))), rTape.fr hR.2.2.2.2.2.2.2.1 (sgK.rf0 4 1 (by decide)) (fun j => sgK.rf0 5 j (by rfl)) (sgK.rf0 0 9 (by decide)) (fun j => sgK.rf0 6 j (by rfl)), rLs.fr hR.2.2.2.2.2.2.2.2.1 (sgK.rf0 4 2 (by decide)) (sgK.rf0 4 9 (by decide)) (fun j => sgK.rf0 7 j (by rfl)) (sgK.rf0 1 3 (by decide)) (fun j => sgK.rf0 2 j (by rfl)) (sgK.rf0 32 4 (by decide)) (fun j => sgK.rf0 33 j (by rfl)) (fun j => sgK.rf0 34 j (by rfl)) (fun j => sgK.rf0 35 j (by rfl)) (fun j => sgK.rf0 9 j (by rfl)) (sgK.rf0 0 11 (by decide)) (fun j => sgK.rf0 7 j (by rfl)), rSt.fr hR.2.2.2.2.2.2.2.2.2.1 (fun j => sgK.rf0 3 j (by rfl)) (fun j => sgK.rf0 5 j (by rfl)), rIdle.fr hR.2.2.2.2.2.2.2.2.2.2.1 (sgK.rf0 13 7 (by decide)) (sgK.rf0 13 9 (by decide)) (sgK.rf0 0 20 (by decide)) (sgK.rf0 0 22 (by decide)) (sgK.rf0 0 23 (by decide)) (sgK.rf0 0 24 (by decide)) (fun j => sgK.rf0 11 j (by rfl)), rIm.fr hR.2.2.2.2.2.2.2.2.2.2.2 (sgK.rf0 29 0 (by decide)) (sgK.rf0 28 5 (by decide)) (sgK.rf0 30 0 (by decide)) (fun j => sgK.rf0 31 j (by rfl)) (sgK.rf0 0 38 (by decide)) (sgK.rf0 0 43 (by decide)) (fun j => sgK.rf0 19 j (by rfl))⟩⟩ hPX hPM hS (lv_sub hl [0, 1, 2, 3] rfl)

set_option maxHeartbeats 4000000 in
set_option maxRecDepth 100000 in
theorem lc_39 {p : Program} {e : Env} {s : State} {m : MethodId} {below : List Frame} {meth : Method} {cd : Code} {Qz : State → Prop} (l : Launch) {b : Nat} {N : Nat} {xs : Nat → Int32} {D : va_G} {ca : Nat → ClassId} {za hX hM : Nat → Nat} {cells slots : Nat} {H : Heap} {locs : List Loc} {ls : Array Slot} {i : Int32} {fX fM : sg_F} {LX LM : sg_L} {QX QM : sg_Q} (hx : p.tables.exec = Jvm.exec) (hb : cd.code = code) (hml : cd.maxLocals = 4) (hown : s.vm.findClass R_law = some m.cls) (hts : ∀ w ∈ gwL, w.before #[Value.ref b] s = true) (hXs : va_X b N xs s s.heap) (hN : N ≤ 3072) (hi : 0 ≤ i.toInt ∧ i.toInt + 6 ≤ (N : Int)) (hbl : b < s.heap.size) (hK : va_K D vwCl (tyX ca) s) (hZ : sgZ zcX za (fun q => s.heap.size ≤ q) s.heap.size s) (hhX : sgH 52 hX) (hhM : sgH 26 hM) (hAX : sgY (fun q => s.heap.size ≤ q) 52 hX s.heap.size) (hAM : sgY (fun q => s.heap.size ≤ q) 26 hM s.heap.size) (hdis : ∀ i j : Nat, i < 52 → j < 26 → hX i ≠ hM j) (hdis2 : ∀ i j : Nat, i < 26 → j < 52 → hM i ≠ hX j) (hcl : cells ≤ room_1.cells ∧ slots ≤ room_1.slots) (hV : lwInv fX LX QX fM LM QM) (hPX : va_P D vwCl (sgw 52 hX (eX ca hX) fX LX QX) H) (hPM : va_P D vwCl (sgw 26 hM (eM ca hM) fM LM QM) H) (hS : va_S (fun q => s.heap.size ≤ q) s.heap H locs) (hl : lv_has ls 4 [(0, .ref b), (1, .ref (hX 0)), (2, .ref (hM 0)), (3, .int i)]) (hJ : ∀ (fX : sg_F) (LX : sg_L) (QX : sg_Q) (fM : sg_F) (LM : sg_L) (QM : sg_Q) (H : Heap) (locs : List Loc) (ls : Array Slot), lwInv fX LX QX fM LM QM → va_P D vwCl (sgw 52 hX (eX ca hX) fX LX QX) H → va_P D vwCl (sgw 26 hM (eM ca hM) fM LM QM) H → va_S (fun q => s.heap.size ≤ q) s.heap H locs → lv_has ls 4 [(0, .ref b), (1, .ref (hX 0)), (2, .ref (hM 0)), (3, .int i)] → W p l e room_1 s m #[Value.ref b] below meth cd H locs cells slots Qz (F0 m 1578 ls [])) : W p l e room_1 s m #[Value.ref b] below meth cd H locs cells slots Qz (F0 m 1555 ls []) := by
  have hbA : ¬ (fun q => s.heap.size ≤ q) b := Nat.not_le.mpr hbl
  have hown : s.vm.findClass RL = some m.cls := hown
  obtain ⟨hIX, hJX, hIM, hJM, hR⟩ := hV
  have hIX0 := hIX; have hIM0 := hIM; have hJM0 := hJM
  refine lv_aload_n hx hb dL_law_1555 rfl (lv_at hl 1 rfl) ?_
  refine lv_aload_n hx hb dL_law_1556 rfl (lv_at hl 0 rfl) ?_
  refine lv_iload_n hx hb dL_law_1557 rfl (lv_at hl 3 rfl) ?_
  refine lv_iconst (v := 1) hx hb dL_law_1558 (by decide) ?_
  refine lv_iadd hx hb dL_law_1559 ?_
  refine lv_topi (fun v_1 ev_1 => ?_)
  have q_2 : v_1.toInt = i.toInt + 1 := by rw [ev_1]; have k1 : (1 : Int32).toInt = 1 := (by decide); exact (bn_addI (by omega) (by omega)).trans (by omega)
  refine va_sld hx hb hXs hbl hbA hS (i := v_1) (vp_in_iff.mpr ⟨by omega, by omega⟩) dL_law_1560 ?_
  refine lv_topi (fun v_3 ev_3 => ?_)
  refine lw_callI (va_runV (As := [.int v_3]) (rest := []) ⟨hx, hb, hml, hown, hts⟩ (kX11_count l D ca za hX hhX fX LX QX hIX (v_3) H.size) (cwV 1 hts (gw_V (fun _ h => h) mw_1280 mw_1281 mw_1282 mw_37 mw_1279) rfl rfl rfl (by decide +kernel) ⟨Nat.le_of_ble_eq_true rfl, Nat.le_of_ble_eq_true rfl⟩) (sg_preV (ci := 11) (C := RX11) (T := TX11) (N := 10) hAX hK hPX hS hZ 0 (by decide) rfl rfl) rfl rfl hl.1 rfl (lv_room (Nat.le_of_ble_eq_true rfl)) dL_law_1561 hcl) hAX hS (fun r1 fX1 LX1 QX1 H locs hqr1 hP1 hkr1 hS => ?_)
  have hPX := hP1
  have hPM := lw_kept hPM hdis hkr1
  obtain ⟨⟨efX, eLX, eQX⟩, hvr1, hur1⟩ := hqr1
  rw [efX, eLX, eQX] at hPX
  refine lv_pop hx hb dL_law_1564 rfl ?_
  refine lv_aload_n hx hb dL_law_1565 rfl (lv_at hl 2 rfl) ?_
  refine lv_aload_n hx hb dL_law_1566 rfl (lv_at hl 0 rfl) ?_
  refine lv_iload_n hx hb dL_law_1567 rfl (lv_at hl 3 rfl) ?_
  refine lv_iconst (v := 1) hx hb dL_law_1568 (by decide) ?_
  refine lv_iadd hx hb dL_law_1569 ?_
  rw [← ev_1]
  refine va_sld hx hb hXs hbl hbA hS (i := v_1) (vp_in_iff.mpr ⟨by omega, by omega⟩) dL_law_1570 ?_
  rw [← ev_3]
  refine lw_callI (va_runV (As := [.int v_3]) (rest := []) ⟨hx, hb, hml, hown, hts⟩ (kX12_count l D ca za hM hhM fM LM QM hIM (v_3) H.size) (cwV 1 hts (gw_V (fun _ h => h) mw_1284 mw_1285 mw_1286 mw_619 mw_1283) rfl rfl rfl (by decide +kernel) ⟨Nat.le_of_ble_eq_true rfl, Nat.le_of_ble_eq_true rfl⟩) (sg_preV (ci := 12) (C := RX12) (T := TX12) (N := 55) hAM hK hPM hS (show sgZ zcM za (fun q => s.heap.size ≤ q) s.heap.size s from fun i q h => by simp [zcM] at h) 0 (by decide) rfl rfl) rfl rfl hl.1 rfl (lv_room (Nat.le_of_ble_eq_true rfl)) dL_law_1571 hcl) hAM hS (fun r2 fM1 LM1 QM1 H locs hqr2 hP1 hkr2 hS => ?_)
  have hPM := hP1
  have hPX := lw_kept hPX hdis2 hkr2
  obtain ⟨⟨efM, eLM, eQM⟩, hvr2, hur2⟩ := hqr2
  rw [efM, eLM, eQM] at hPM
  refine lv_pop hx hb dL_law_1574 rfl ?_
  refine lv_goto (tgt := 1578) hx hb dL_law_1575 (by decide) ?_
  exact hJ _ _ _ _ _ _ _ _ _ ⟨hIX, hJX, hIM, hJM, ⟨rDesk.fr hR.1 (sgK.rf0 36 2 (by decide)) (fun j => sgK.rf0 37 j (by rfl)) (sgK.rf0 0 45 (by decide)) (fun j => sgK.rf0 20 j (by rfl)), rTrace.fr hR.2.1 (sgK.rf0 36 3 (by decide)) (fun j => sgK.rf0 38 j (by rfl)) (sgK.rf0 0 48 (by decide)) (fun j => sgK.rf0 21 j (by rfl)), rShelf.fr hR.2.2.1 (fun t j => sgK.rf0 _ _ (sgin_lo (c := 40) (by decide) (by omega))) (sgK.rf0 36 2 (by decide)) (fun j => sgK.rf0 22 j (by rfl)) (fun j => sgK.rf0 23 j (by rfl)), rEl.fr hR.2.2.2.1 (fun t j => sgK.rf0 _ _ (sgin_lo (c := 40) (by decide) (by omega))), rNum.fr hR.2.2.2.2.1 (sgK.rf0 1 3 (by decide)) (fun j => sgK.rf0 2 j (by rfl)) (sgK.rf0 0 6 (by decide)) (fun j => sgK.rf0 1 j (by rfl)), rChg.fr hR.2.2.2.2.2.1 (sgK.rf0 1 3 (by decide)) (sgK.rf0 32 3 (by decide)) (sgK.rf0 32 4 (by decide)) (fun j => sgK.rf0 33 j (by rfl)) (fun j => sgK.rf0 34 j (by rfl)) (fun j => sgK.rf0 35 j (by rfl)) (sgK.rf0 0 5 (by decide)) (sgK.rf0 0 4 (by decide)) (fun j => sgK.rf0 2 j (by rfl)) (fun j => sgK.rf0 3 j (by rfl)) (fun j => sgK.rf0 4 j (by rfl)), rByte.fr hR.2.2.2.2.2.2.1 (fun t j => sgK.rf0 _ _ (sgin_lo (c := 40) (by decide) (by omega))), rTape.fr hR.2.2.2.2.2.2.2.1 (sgK.rf0 4 1 (by decide)) (fun j => sgK.rf0 5 j (by rfl)) (sgK.rf0 0 9 (by decide)) (fun j => sgK.rf0 6 j (by rfl)), rLs.fr hR.2.2.2.2.2.2.2.2.1 (sgK.rf0 4 2 (by decide)) (sgK.rf0 4 9 (by decide)) (fun j => sgK.rf0 7 j (by rfl)) (sgK.rf0 1 3 (by decide)) (fun j => sgK.rf0 2 j (by rfl)) (sgK.rf0 32 4 (by decide)) (fun j => sgK.rf0 33 j (by rfl)) (fun j => sgK.rf0 34 j (by rfl)) (fun j => sgK.rf0 35 j (by rfl)) (fun j => sgK.rf0 9 j (by rfl)) (sgK.rf0 0 11 (by decide)) (fun j => sgK.rf0 7 j (by rfl)), rSt.fr hR.2.2.2.2.2.2.2.2.2.1 (fun j => sgK.rf0 3 j (by rfl)) (fun j => sgK.rf0 5 j (by rfl)), rIdle.fr hR.2.2.2.2.2.2.2.2.2.2.1 (sgK.rf0 13 7 (by decide)) (sgK.rf0 13 9 (by decide)) (sgK.rf0 0 20 (by decide)) (sgK.rf0 0 22 (by decide)) (sgK.rf0 0 23 (by decide)) (sgK.rf0 0 24 (by decide)) (fun j => sgK.rf0 11 j (by rfl)), rIm.fr hR.2.2.2.2.2.2.2.2.2.2.2 (sgK.rf0 29 0 (by decide)) (sgK.rf0 28 5 (by decide)) (sgK.rf0 30 0 (by decide)) (fun j => sgK.rf0 31 j (by rfl)) (sgK.rf0 0 38 (by decide)) (sgK.rf0 0 43 (by decide)) (fun j => sgK.rf0 19 j (by rfl))⟩⟩ hPX hPM hS (lv_sub hl [0, 1, 2, 3] rfl)

