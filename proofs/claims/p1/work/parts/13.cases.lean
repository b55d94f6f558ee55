/-! the law's cases: a call of each, on fresh objects. Laid by a program (wip/tool) -/
theorem lw_calli {p : Program} {l : Launch} {e : Env} {R : Room} {s : State} {m : MethodId} {args : Array Value} {below : List Frame} {meth : Method} {c : Code} {H : Heap} {locs : List Loc} {cells slots : Nat} {Qz : State → Prop} {pc : Nat} {ls : Array Slot} {rest : List Value} {D : va_G} {cl : List vw_C} {n : Nat} {h : Nat → Nat} {ee : sg_E} {A : Nat → Prop} {st0 : List Value} {a : Array Value} {post : Int32 → sg_F → sg_L → sg_Q → Prop} (hr : va_Run p l e R s m args below meth c H locs cells slots 0 0 (F0 m pc ls st0) rest (sgQi D cl n h ee H.size post a) (sgA n h H.size)) (hA : sgY A n h s.heap.size) (hS : va_S A s.heap H locs)
    (kk : ∀ (r : Int32) (H1 : Heap) (locs1 : List Loc), (∃ (f1 : sg_F) (L1 : sg_L) (Q1 : sg_Q), post r f1 L1 Q1) → (∀ q : Nat, q < H.size → ¬ sgA n h H.size q → H1[q]? = H[q]?) → H.size ≤ H1.size → va_S A s.heap H1 locs1 → W p l e R s m args below meth c H1 locs1 cells slots Qz (F0 m (pc + 3) ls (.int r :: rest))) : W p l e R s m args below meth c H locs cells slots Qz (F0 m pc ls st0) :=
  va_calli hr hS (fun q _ hq => hA.sub hS.1 hq) (fun q hq => hA.sub hS.1 hq) (fun r u t H1 locs1 _ _ hw _ hz hk hS1 => kk r H1 locs1 ⟨u.1, u.2.1, u.2.2, hw⟩ hk hz hS1)
theorem lw_calll {p : Program} {l : Launch} {e : Env} {R : Room} {s : State} {m : MethodId} {args : Array Value} {below : List Frame} {meth : Method} {c : Code} {H : Heap} {locs : List Loc} {cells slots : Nat} {Qz : State → Prop} {pc : Nat} {ls : Array Slot} {rest : List Value} {D : va_G} {cl : List vw_C} {n : Nat} {h : Nat → Nat} {ee : sg_E} {A : Nat → Prop} {st0 : List Value} {a : Array Value} {post : Int64 → sg_F → sg_L → sg_Q → Prop} (hr : va_Run p l e R s m args below meth c H locs cells slots 0 0 (F0 m pc ls st0) rest (sgQl D cl n h ee H.size post a) (sgA n h H.size)) (hA : sgY A n h s.heap.size) (hS : va_S A s.heap H locs)
    (kk : ∀ (r : Int64) (H1 : Heap) (locs1 : List Loc), (∃ (f1 : sg_F) (L1 : sg_L) (Q1 : sg_Q), post r f1 L1 Q1) → (∀ q : Nat, q < H.size → ¬ sgA n h H.size q → H1[q]? = H[q]?) → H.size ≤ H1.size → va_S A s.heap H1 locs1 → W p l e R s m args below meth c H1 locs1 cells slots Qz (F0 m (pc + 3) ls (.long r :: rest))) : W p l e R s m args below meth c H locs cells slots Qz (F0 m pc ls st0) :=
  va_calll hr hS (fun q _ hq => hA.sub hS.1 hq) (fun q hq => hA.sub hS.1 hq) (fun r u t H1 locs1 _ _ hw _ hz hk hS1 => kk r H1 locs1 ⟨u.1, u.2.1, u.2.2, hw⟩ hk hz hS1)
theorem lw_kept {D : va_G} {cl : List vw_C} {n n1 : Nat} {h h1 : Nat → Nat} {e : sg_E} {f : sg_F} {L : sg_L} {Q : sg_Q} {H H1 : Heap} (hP : va_P D cl (sgw n1 h1 e f L Q) H) (hdis : ∀ i j : Nat, i < n → j < n1 → h i ≠ h1 j) (hk : ∀ q : Nat, q < H.size → ¬ sgA n h H.size q → H1[q]? = H[q]?) : va_P D cl (sgw n1 h1 e f L Q) H1 :=
  hP.kept (fun k q hq => by
    have hlt := (hP k q hq).lt
    obtain ⟨hkn, e1⟩ := sgw_inv hq
    refine hk _ hlt (fun z => ?_)
    rcases z with ⟨i, hi, e2⟩ | z
    · rw [e1] at e2; exact hdis i k hi hkn e2.symm
    · omega)
theorem lg_cmp_self (x : Int64) : lg_cmp x x = 0 := by
  unfold lg_cmp
  have h : ¬ x < x := fun z => by have := Int64.lt_iff_toInt_lt.mp z; omega
  first | rw [if_neg h, if_pos rfl] | simp
set_option maxHeartbeats 4000000 in
set_option maxRecDepth 100000 in
theorem lc_0 {p : Program} {e : Env} {s : State} {m : MethodId} {below : List Frame} {meth : Method} {cd : Code} {Qz : State → Prop} (l : Launch) {b : Nat} {xs : Nat → Int32} {D : va_G} {ca : Nat → ClassId} {za hX hM : Nat → Nat} {cells slots : Nat} {H : Heap} {locs : List Loc} {ls : Array Slot} (hx : p.tables.exec = Jvm.exec) (hb : cd.code = code) (hml : cd.maxLocals = 4) (hown : s.vm.findClass R_law = some m.cls) (hts : ∀ w ∈ gwL, w.before #[Value.ref b] s = true) (hXs : va_X b 6 xs s s.heap) (hbl : b < s.heap.size) (hK : va_K D vwCl (tyX ca) s) (hZ : sgZ zcX za (fun q => s.heap.size ≤ q) s.heap.size s) (hhX : sgH 52 hX) (hhM : sgH 26 hM) (hAX : sgY (fun q => s.heap.size ≤ q) 52 hX s.heap.size) (hAM : sgY (fun q => s.heap.size ≤ q) 26 hM s.heap.size) (hdis : ∀ i j : Nat, i < 52 → j < 26 → hX i ≠ hM j) (hcl : cells ≤ room_1.cells ∧ slots ≤ room_1.slots) (hPX : va_P D vwCl (sgw 52 hX (eX ca hX) f0X L0 Q0) H) (hPM : va_P D vwCl (sgw 26 hM (eM ca hM) f0M L0 Q0) H) (hS : va_S (fun q => s.heap.size ≤ q) s.heap H locs) (hl : lv_has ls 4 [(0, .ref b), (1, .ref (hX 0)), (2, .ref (hM 0)), (3, .int 0)]) (hJ : ∀ (H : Heap) (locs : List Loc) (ls : Array Slot), va_S (fun q => s.heap.size ≤ q) s.heap H locs → lv_has ls 4 [(0, .ref b), (3, .int 0)] → W p l e room_1 s m #[Value.ref b] below meth cd H locs cells slots Qz (F0 m 1579 ls [])) : W p l e room_1 s m #[Value.ref b] below meth cd H locs cells slots Qz (F0 m 208 ls []) := by
  have hbA : ¬ (fun q => s.heap.size ≤ q) b := Nat.not_le.mpr hbl
  have hown : s.vm.findClass RL = some m.cls := hown
  refine lv_aload_n hx hb dL_law_208 rfl (lv_at hl 1 rfl) ?_
  refine lv_aload_n hx hb dL_law_209 rfl (lv_at hl 0 rfl) ?_
  refine lv_iload_n hx hb dL_law_210 rfl (lv_at hl 3 rfl) ?_
  refine lv_iconst (v := 1) hx hb dL_law_211 (by decide) ?_
  refine lv_iadd hx hb dL_law_212 ?_
  refine W.eq (g2 := F0 m 213 ls [.int 1, .ref b, .ref (hX 0)]) (by rw [show (0 + 1 : Int32) = 1 from by decide]) ?_
  refine va_sld hx hb hXs hbl hbA hS (i := 1) (vp_in_iff.mpr (by decide)) dL_law_213 ?_
  refine lv_aload_n hx hb dL_law_214 rfl (lv_at hl 0 rfl) ?_
  refine lv_iload_n hx hb dL_law_215 rfl (lv_at hl 3 rfl) ?_
  refine lv_iconst (v := 2) hx hb dL_law_216 (by decide) ?_
  refine lv_iadd hx hb dL_law_217 ?_
  refine W.eq (g2 := F0 m 218 ls [.int 2, .ref b, .int (xs (Int32.toNatClampNeg 1)), .ref (hX 0)]) (by rw [show (0 + 2 : Int32) = 2 from by decide]) ?_
  refine va_sld hx hb hXs hbl hbA hS (i := 2) (vp_in_iff.mpr (by decide)) dL_law_218 ?_
  refine lw_calli (va_runV (As := [.int (xs (Int32.toNatClampNeg 1)), .int (xs (Int32.toNatClampNeg 2))]) (rest := []) ⟨hx, hb, hml, hown, hts⟩ (cf_X11_sitter l D ca za hX hhX ((xs (Int32.toNatClampNeg 1))) ((xs (Int32.toNatClampNeg 2))) H.size) (cwV 2 hts (gw_V (fun _ h => h) mw_477 mw_478 mw_479 mw_9 mw_476) rfl rfl rfl (by decide +kernel) ⟨Nat.le_of_ble_eq_true rfl, Nat.le_of_ble_eq_true rfl⟩) (sg_preV (ci := 11) (C := RX11) (T := TX11) (N := 10) hAX hK hPX hS hZ 0 (by decide) rfl rfl) rfl rfl hl.1 rfl (lv_room (Nat.le_of_ble_eq_true rfl)) dL_law_219 hcl) hAX hS (fun r1 H1 locs hqr1 hkr1 hzr1 hS => ?_)
  have hPM := lw_kept hPM hdis hkr1
  clear hPX
  obtain ⟨H, hHe⟩ : ∃ z, z = H1 := ⟨_, rfl⟩
  rw [← hHe] at hS hPM
  rw [← hHe]
  refine lv_aload_n hx hb dL_law_222 rfl (lv_at hl 2 rfl) ?_
  refine lv_aload_n hx hb dL_law_223 rfl (lv_at hl 0 rfl) ?_
  refine lv_iload_n hx hb dL_law_224 rfl (lv_at hl 3 rfl) ?_
  refine lv_iconst (v := 1) hx hb dL_law_225 (by decide) ?_
  refine lv_iadd hx hb dL_law_226 ?_
  refine W.eq (g2 := F0 m 227 ls [.int 1, .ref b, .ref (hM 0), .int r1]) (by rw [show (0 + 1 : Int32) = 1 from by decide]) ?_
  refine va_sld hx hb hXs hbl hbA hS (i := 1) (vp_in_iff.mpr (by decide)) dL_law_227 ?_
  refine lv_aload_n hx hb dL_law_228 rfl (lv_at hl 0 rfl) ?_
  refine lv_iload_n hx hb dL_law_229 rfl (lv_at hl 3 rfl) ?_
  refine lv_iconst (v := 2) hx hb dL_law_230 (by decide) ?_
  refine lv_iadd hx hb dL_law_231 ?_
  refine W.eq (g2 := F0 m 232 ls [.int 2, .ref b, .int (xs (Int32.toNatClampNeg 1)), .ref (hM 0), .int r1]) (by rw [show (0 + 2 : Int32) = 2 from by decide]) ?_
  refine va_sld hx hb hXs hbl hbA hS (i := 2) (vp_in_iff.mpr (by decide)) dL_law_232 ?_
  refine lw_calli (va_runV (As := [.int (xs (Int32.toNatClampNeg 1)), .int (xs (Int32.toNatClampNeg 2))]) (rest := [.int r1]) ⟨hx, hb, hml, hown, hts⟩ (cf_X12_sitter l D ca za hM hhM ((xs (Int32.toNatClampNeg 1))) ((xs (Int32.toNatClampNeg 2))) H.size) (cwV 2 hts (gw_V (fun _ h => h) mw_481 mw_482 mw_483 mw_217 mw_480) rfl rfl rfl (by decide +kernel) ⟨Nat.le_of_ble_eq_true rfl, Nat.le_of_ble_eq_true rfl⟩) (sg_preV (ci := 12) (C := RX12) (T := TX12) (N := 55) hAM hK hPM hS (show sgZ zcM za (fun q => s.heap.size ≤ q) s.heap.size s from fun i q h => by simp [zcM] at h) 0 (by decide) rfl rfl) rfl rfl hl.1 rfl (lv_room (Nat.le_of_ble_eq_true rfl)) dL_law_233 hcl) hAM hS (fun r2 H1 locs hqr2 hkr2 hzr2 hS => ?_)
  obtain ⟨H, hHe⟩ : ∃ z, z = H1 := ⟨_, rfl⟩
  rw [← hHe] at hS
  rw [← hHe]
  obtain ⟨f1, L1, Q1, -, h1⟩ := hqr1
  obtain ⟨f2, L2, Q2, -, h2⟩ := hqr2
  have hr : r1 = r2 := by
    rcases h1 with ⟨rfl, h8⟩ | ⟨rfl, h8⟩ <;> rcases h2 with ⟨rfl, h9⟩ | ⟨rfl, h9⟩ <;> first | rfl | (exfalso; omega) | exact Int32.toInt_inj.mp (by have k1 : (0 : Int32).toInt = 0 := (by decide); have k2 : (-1 : Int32).toInt = -1 := (by decide); have k3 : (-2 : Int32).toInt = -2 := (by decide); omega)
  refine lv_icmp_eq (tgt := 1579) hx hb dL_law_236 (by decide) (fun _ => ?_) (fun c => absurd hr c)
  exact hJ _ _ _ hS (lv_sub hl [0, 3] rfl)

set_option maxHeartbeats 4000000 in
set_option maxRecDepth 100000 in
theorem lc_1 {p : Program} {e : Env} {s : State} {m : MethodId} {below : List Frame} {meth : Method} {cd : Code} {Qz : State → Prop} (l : Launch) {b : Nat} {xs : Nat → Int32} {D : va_G} {ca : Nat → ClassId} {za hX hM : Nat → Nat} {cells slots : Nat} {H : Heap} {locs : List Loc} {ls : Array Slot} (hx : p.tables.exec = Jvm.exec) (hb : cd.code = code) (hml : cd.maxLocals = 4) (hown : s.vm.findClass R_law = some m.cls) (hts : ∀ w ∈ gwL, w.before #[Value.ref b] s = true) (hXs : va_X b 6 xs s s.heap) (hbl : b < s.heap.size) (hK : va_K D vwCl (tyX ca) s) (hZ : sgZ zcX za (fun q => s.heap.size ≤ q) s.heap.size s) (hhX : sgH 52 hX) (hhM : sgH 26 hM) (hAX : sgY (fun q => s.heap.size ≤ q) 52 hX s.heap.size) (hAM : sgY (fun q => s.heap.size ≤ q) 26 hM s.heap.size) (hdis : ∀ i j : Nat, i < 52 → j < 26 → hX i ≠ hM j) (hcl : cells ≤ room_1.cells ∧ slots ≤ room_1.slots) (hPX : va_P D vwCl (sgw 52 hX (eX ca hX) f0X L0 Q0) H) (hPM : va_P D vwCl (sgw 26 hM (eM ca hM) f0M L0 Q0) H) (hS : va_S (fun q => s.heap.size ≤ q) s.heap H locs) (hl : lv_has ls 4 [(0, .ref b), (1, .ref (hX 0)), (2, .ref (hM 0)), (3, .int 0)]) (hJ : ∀ (H : Heap) (locs : List Loc) (ls : Array Slot), va_S (fun q => s.heap.size ≤ q) s.heap H locs → lv_has ls 4 [(0, .ref b), (3, .int 0)] → W p l e room_1 s m #[Value.ref b] below meth cd H locs cells slots Qz (F0 m 1579 ls [])) : W p l e room_1 s m #[Value.ref b] below meth cd H locs cells slots Qz (F0 m 241 ls []) := by
  have hbA : ¬ (fun q => s.heap.size ≤ q) b := Nat.not_le.mpr hbl
  have hown : s.vm.findClass RL = some m.cls := hown
  refine lv_aload_n hx hb dL_law_241 rfl (lv_at hl 1 rfl) ?_
  refine lv_aload_n hx hb dL_law_242 rfl (lv_at hl 0 rfl) ?_
  refine lv_iload_n hx hb dL_law_243 rfl (lv_at hl 3 rfl) ?_
  refine lv_iconst (v := 1) hx hb dL_law_244 (by decide) ?_
  refine lv_iadd hx hb dL_law_245 ?_
  refine W.eq (g2 := F0 m 246 ls [.int 1, .ref b, .ref (hX 0)]) (by rw [show (0 + 1 : Int32) = 1 from by decide]) ?_
  refine va_sld hx hb hXs hbl hbA hS (i := 1) (vp_in_iff.mpr (by decide)) dL_law_246 ?_
  refine lv_aload_n hx hb dL_law_247 rfl (lv_at hl 0 rfl) ?_
  refine lv_iload_n hx hb dL_law_248 rfl (lv_at hl 3 rfl) ?_
  refine lv_iconst (v := 2) hx hb dL_law_249 (by decide) ?_
  refine lv_iadd hx hb dL_law_250 ?_
  refine W.eq (g2 := F0 m 251 ls [.int 2, .ref b, .int (xs (Int32.toNatClampNeg 1)), .ref (hX 0)]) (by rw [show (0 + 2 : Int32) = 2 from by decide]) ?_
  refine va_sld hx hb hXs hbl hbA hS (i := 2) (vp_in_iff.mpr (by decide)) dL_law_251 ?_
  refine lv_aload_n hx hb dL_law_252 rfl (lv_at hl 0 rfl) ?_
  refine lv_iload_n hx hb dL_law_253 rfl (lv_at hl 3 rfl) ?_
  refine lv_iconst (v := 3) hx hb dL_law_254 (by decide) ?_
  refine lv_iadd hx hb dL_law_255 ?_
  refine W.eq (g2 := F0 m 256 ls [.int 3, .ref b, .int (xs (Int32.toNatClampNeg 2)), .int (xs (Int32.toNatClampNeg 1)), .ref (hX 0)]) (by rw [show (0 + 3 : Int32) = 3 from by decide]) ?_
  refine va_sld hx hb hXs hbl hbA hS (i := 3) (vp_in_iff.mpr (by decide)) dL_law_256 ?_
  refine lw_calli (va_runV (As := [.int (xs (Int32.toNatClampNeg 1)), .int (xs (Int32.toNatClampNeg 2)), .int (xs (Int32.toNatClampNeg 3))]) (rest := []) ⟨hx, hb, hml, hown, hts⟩ (cf_X11_sitters l D ca za hX hhX ((xs (Int32.toNatClampNeg 1))) ((xs (Int32.toNatClampNeg 2))) ((xs (Int32.toNatClampNeg 3))) H.size) (cwV 3 hts (gw_V (fun _ h => h) mw_485 mw_486 mw_487 mw_9 mw_484) rfl rfl rfl (by decide +kernel) ⟨Nat.le_of_ble_eq_true rfl, Nat.le_of_ble_eq_true rfl⟩) (sg_preV (ci := 11) (C := RX11) (T := TX11) (N := 10) hAX hK hPX hS hZ 0 (by decide) rfl rfl) rfl rfl hl.1 rfl (lv_room (Nat.le_of_ble_eq_true rfl)) dL_law_257 hcl) hAX hS (fun r1 H1 locs hqr1 hkr1 hzr1 hS => ?_)
  have hPM := lw_kept hPM hdis hkr1
  clear hPX
  obtain ⟨H, hHe⟩ : ∃ z, z = H1 := ⟨_, rfl⟩
  rw [← hHe] at hS hPM
  rw [← hHe]
  refine lv_aload_n hx hb dL_law_260 rfl (lv_at hl 2 rfl) ?_
  refine lv_aload_n hx hb dL_law_261 rfl (lv_at hl 0 rfl) ?_
  refine lv_iload_n hx hb dL_law_262 rfl (lv_at hl 3 rfl) ?_
  refine lv_iconst (v := 1) hx hb dL_law_263 (by decide) ?_
  refine lv_iadd hx hb dL_law_264 ?_
  refine W.eq (g2 := F0 m 265 ls [.int 1, .ref b, .ref (hM 0), .int r1]) (by rw [show (0 + 1 : Int32) = 1 from by decide]) ?_
  refine va_sld hx hb hXs hbl hbA hS (i := 1) (vp_in_iff.mpr (by decide)) dL_law_265 ?_
  refine lv_aload_n hx hb dL_law_266 rfl (lv_at hl 0 rfl) ?_
  refine lv_iload_n hx hb dL_law_267 rfl (lv_at hl 3 rfl) ?_
  refine lv_iconst (v := 2) hx hb dL_law_268 (by decide) ?_
  refine lv_iadd hx hb dL_law_269 ?_
  refine W.eq (g2 := F0 m 270 ls [.int 2, .ref b, .int (xs (Int32.toNatClampNeg 1)), .ref (hM 0), .int r1]) (by rw [show (0 + 2 : Int32) = 2 from by decide]) ?_
  refine va_sld hx hb hXs hbl hbA hS (i := 2) (vp_in_iff.mpr (by decide)) dL_law_270 ?_
  refine lv_aload_n hx hb dL_law_271 rfl (lv_at hl 0 rfl) ?_
  refine lv_iload_n hx hb dL_law_272 rfl (lv_at hl 3 rfl) ?_
  refine lv_iconst (v := 3) hx hb dL_law_273 (by decide) ?_
  refine lv_iadd hx hb dL_law_274 ?_
  refine W.eq (g2 := F0 m 275 ls [.int 3, .ref b, .int (xs (Int32.toNatClampNeg 2)), .int (xs (Int32.toNatClampNeg 1)), .ref (hM 0), .int r1]) (by rw [show (0 + 3 : Int32) = 3 from by decide]) ?_
  refine va_sld hx hb hXs hbl hbA hS (i := 3) (vp_in_iff.mpr (by decide)) dL_law_275 ?_
  refine lw_calli (va_runV (As := [.int (xs (Int32.toNatClampNeg 1)), .int (xs (Int32.toNatClampNeg 2)), .int (xs (Int32.toNatClampNeg 3))]) (rest := [.int r1]) ⟨hx, hb, hml, hown, hts⟩ (cf_X12_sitters l D ca za hM hhM ((xs (Int32.toNatClampNeg 1))) ((xs (Int32.toNatClampNeg 2))) ((xs (Int32.toNatClampNeg 3))) H.size) (cwV 3 hts (gw_V (fun _ h => h) mw_489 mw_490 mw_491 mw_217 mw_488) rfl rfl rfl (by decide +kernel) ⟨Nat.le_of_ble_eq_true rfl, Nat.le_of_ble_eq_true rfl⟩) (sg_preV (ci := 12) (C := RX12) (T := TX12) (N := 55) hAM hK hPM hS (show sgZ zcM za (fun q => s.heap.size ≤ q) s.heap.size s from fun i q h => by simp [zcM] at h) 0 (by decide) rfl rfl) rfl rfl hl.1 rfl (lv_room (Nat.le_of_ble_eq_true rfl)) dL_law_276 hcl) hAM hS (fun r2 H1 locs hqr2 hkr2 hzr2 hS => ?_)
  obtain ⟨H, hHe⟩ : ∃ z, z = H1 := ⟨_, rfl⟩
  rw [← hHe] at hS
  rw [← hHe]
  obtain ⟨f1, L1, Q1, -, h1⟩ := hqr1
  obtain ⟨f2, L2, Q2, -, h2⟩ := hqr2
  have hr : r1 = r2 := by
    rcases h1 with ⟨rfl, h8⟩ | ⟨rfl, h8⟩ <;> rcases h2 with ⟨rfl, h9⟩ | ⟨rfl, h9⟩ <;> first | rfl | (exfalso; omega) | exact Int32.toInt_inj.mp (by have k1 : (0 : Int32).toInt = 0 := (by decide); have k2 : (-1 : Int32).toInt = -1 := (by decide); have k3 : (-2 : Int32).toInt = -2 := (by decide); omega)
  refine lv_icmp_eq (tgt := 1579) hx hb dL_law_279 (by decide) (fun _ => ?_) (fun c => absurd hr c)
  exact hJ _ _ _ hS (lv_sub hl [0, 3] rfl)

set_option maxHeartbeats 4000000 in
set_option maxRecDepth 100000 in
theorem lc_2 {p : Program} {e : Env} {s : State} {m : MethodId} {below : List Frame} {meth : Method} {cd : Code} {Qz : State → Prop} (l : Launch) {b : Nat} {xs : Nat → Int32} {D : va_G} {ca : Nat → ClassId} {za hX hM : Nat → Nat} {cells slots : Nat} {H : Heap} {locs : List Loc} {ls : Array Slot} (hx : p.tables.exec = Jvm.exec) (hb : cd.code = code) (hml : cd.maxLocals = 4) (hown : s.vm.findClass R_law = some m.cls) (hts : ∀ w ∈ gwL, w.before #[Value.ref b] s = true) (hXs : va_X b 6 xs s s.heap) (hbl : b < s.heap.size) (hK : va_K D vwCl (tyX ca) s) (hZ : sgZ zcX za (fun q => s.heap.size ≤ q) s.heap.size s) (hhX : sgH 52 hX) (hhM : sgH 26 hM) (hAX : sgY (fun q => s.heap.size ≤ q) 52 hX s.heap.size) (hAM : sgY (fun q => s.heap.size ≤ q) 26 hM s.heap.size) (hdis : ∀ i j : Nat, i < 52 → j < 26 → hX i ≠ hM j) (hcl : cells ≤ room_1.cells ∧ slots ≤ room_1.slots) (hPX : va_P D vwCl (sgw 52 hX (eX ca hX) f0X L0 Q0) H) (hPM : va_P D vwCl (sgw 26 hM (eM ca hM) f0M L0 Q0) H) (hS : va_S (fun q => s.heap.size ≤ q) s.heap H locs) (hl : lv_has ls 4 [(0, .ref b), (1, .ref (hX 0)), (2, .ref (hM 0)), (3, .int 0)]) (hJ : ∀ (H : Heap) (locs : List Loc) (ls : Array Slot), va_S (fun q => s.heap.size ≤ q) s.heap H locs → lv_has ls 4 [(0, .ref b), (3, .int 0)] → W p l e room_1 s m #[Value.ref b] below meth cd H locs cells slots Qz (F0 m 1579 ls [])) : W p l e room_1 s m #[Value.ref b] below meth cd H locs cells slots Qz (F0 m 284 ls []) := by
  have hbA : ¬ (fun q => s.heap.size ≤ q) b := Nat.not_le.mpr hbl
  have hown : s.vm.findClass RL = some m.cls := hown
  refine lv_aload_n hx hb dL_law_284 rfl (lv_at hl 1 rfl) ?_
  refine lv_aload_n hx hb dL_law_285 rfl (lv_at hl 0 rfl) ?_
  refine lv_iload_n hx hb dL_law_286 rfl (lv_at hl 3 rfl) ?_
  refine lv_iconst (v := 1) hx hb dL_law_287 (by decide) ?_
  refine lv_iadd hx hb dL_law_288 ?_
  refine W.eq (g2 := F0 m 289 ls [.int 1, .ref b, .ref (hX 0)]) (by rw [show (0 + 1 : Int32) = 1 from by decide]) ?_
  refine va_sld hx hb hXs hbl hbA hS (i := 1) (vp_in_iff.mpr (by decide)) dL_law_289 ?_
  refine lv_aload_n hx hb dL_law_290 rfl (lv_at hl 0 rfl) ?_
  refine lv_iload_n hx hb dL_law_291 rfl (lv_at hl 3 rfl) ?_
  refine lv_iconst (v := 2) hx hb dL_law_292 (by decide) ?_
  refine lv_iadd hx hb dL_law_293 ?_
  refine W.eq (g2 := F0 m 294 ls [.int 2, .ref b, .int (xs (Int32.toNatClampNeg 1)), .ref (hX 0)]) (by rw [show (0 + 2 : Int32) = 2 from by decide]) ?_
  refine va_sld hx hb hXs hbl hbA hS (i := 2) (vp_in_iff.mpr (by decide)) dL_law_294 ?_
  refine lv_aload_n hx hb dL_law_295 rfl (lv_at hl 0 rfl) ?_
  refine lv_iload_n hx hb dL_law_296 rfl (lv_at hl 3 rfl) ?_
  refine lv_iconst (v := 3) hx hb dL_law_297 (by decide) ?_
  refine lv_iadd hx hb dL_law_298 ?_
  refine W.eq (g2 := F0 m 299 ls [.int 3, .ref b, .int (xs (Int32.toNatClampNeg 2)), .int (xs (Int32.toNatClampNeg 1)), .ref (hX 0)]) (by rw [show (0 + 3 : Int32) = 3 from by decide]) ?_
  refine va_sld hx hb hXs hbl hbA hS (i := 3) (vp_in_iff.mpr (by decide)) dL_law_299 ?_
  refine lw_calli (va_runV (As := [.int (xs (Int32.toNatClampNeg 1)), .int (xs (Int32.toNatClampNeg 2)), .int (xs (Int32.toNatClampNeg 3))]) (rest := []) ⟨hx, hb, hml, hown, hts⟩ (cf_X11_mend l D ca za hX hhX ((xs (Int32.toNatClampNeg 1))) ((xs (Int32.toNatClampNeg 2))) ((xs (Int32.toNatClampNeg 3))) H.size) (cwV 3 hts (gw_V (fun _ h => h) mw_493 mw_494 mw_495 mw_9 mw_492) rfl rfl rfl (by decide +kernel) ⟨Nat.le_of_ble_eq_true rfl, Nat.le_of_ble_eq_true rfl⟩) (sg_preV (ci := 11) (C := RX11) (T := TX11) (N := 10) hAX hK hPX hS hZ 0 (by decide) rfl rfl) rfl rfl hl.1 rfl (lv_room (Nat.le_of_ble_eq_true rfl)) dL_law_300 hcl) hAX hS (fun r1 H1 locs hqr1 hkr1 hzr1 hS => ?_)
  have hPM := lw_kept hPM hdis hkr1
  clear hPX
  obtain ⟨H, hHe⟩ : ∃ z, z = H1 := ⟨_, rfl⟩
  rw [← hHe] at hS hPM
  rw [← hHe]
  refine lv_aload_n hx hb dL_law_303 rfl (lv_at hl 2 rfl) ?_
  refine lv_aload_n hx hb dL_law_304 rfl (lv_at hl 0 rfl) ?_
  refine lv_iload_n hx hb dL_law_305 rfl (lv_at hl 3 rfl) ?_
  refine lv_iconst (v := 1) hx hb dL_law_306 (by decide) ?_
  refine lv_iadd hx hb dL_law_307 ?_
  refine W.eq (g2 := F0 m 308 ls [.int 1, .ref b, .ref (hM 0), .int r1]) (by rw [show (0 + 1 : Int32) = 1 from by decide]) ?_
  refine va_sld hx hb hXs hbl hbA hS (i := 1) (vp_in_iff.mpr (by decide)) dL_law_308 ?_
  refine lv_aload_n hx hb dL_law_309 rfl (lv_at hl 0 rfl) ?_
  refine lv_iload_n hx hb dL_law_310 rfl (lv_at hl 3 rfl) ?_
  refine lv_iconst (v := 2) hx hb dL_law_311 (by decide) ?_
  refine lv_iadd hx hb dL_law_312 ?_
  refine W.eq (g2 := F0 m 313 ls [.int 2, .ref b, .int (xs (Int32.toNatClampNeg 1)), .ref (hM 0), .int r1]) (by rw [show (0 + 2 : Int32) = 2 from by decide]) ?_
  refine va_sld hx hb hXs hbl hbA hS (i := 2) (vp_in_iff.mpr (by decide)) dL_law_313 ?_
  refine lv_aload_n hx hb dL_law_314 rfl (lv_at hl 0 rfl) ?_
  refine lv_iload_n hx hb dL_law_315 rfl (lv_at hl 3 rfl) ?_
  refine lv_iconst (v := 3) hx hb dL_law_316 (by decide) ?_
  refine lv_iadd hx hb dL_law_317 ?_
  refine W.eq (g2 := F0 m 318 ls [.int 3, .ref b, .int (xs (Int32.toNatClampNeg 2)), .int (xs (Int32.toNatClampNeg 1)), .ref (hM 0), .int r1]) (by rw [show (0 + 3 : Int32) = 3 from by decide]) ?_
  refine va_sld hx hb hXs hbl hbA hS (i := 3) (vp_in_iff.mpr (by decide)) dL_law_318 ?_
  refine lw_calli (va_runV (As := [.int (xs (Int32.toNatClampNeg 1)), .int (xs (Int32.toNatClampNeg 2)), .int (xs (Int32.toNatClampNeg 3))]) (rest := [.int r1]) ⟨hx, hb, hml, hown, hts⟩ (cf_X12_mend l D ca za hM hhM ((xs (Int32.toNatClampNeg 1))) ((xs (Int32.toNatClampNeg 2))) ((xs (Int32.toNatClampNeg 3))) H.size) (cwV 3 hts (gw_V (fun _ h => h) mw_497 mw_498 mw_499 mw_217 mw_496) rfl rfl rfl (by decide +kernel) ⟨Nat.le_of_ble_eq_true rfl, Nat.le_of_ble_eq_true rfl⟩) (sg_preV (ci := 12) (C := RX12) (T := TX12) (N := 55) hAM hK hPM hS (show sgZ zcM za (fun q => s.heap.size ≤ q) s.heap.size s from fun i q h => by simp [zcM] at h) 0 (by decide) rfl rfl) rfl rfl hl.1 rfl (lv_room (Nat.le_of_ble_eq_true rfl)) dL_law_319 hcl) hAM hS (fun r2 H1 locs hqr2 hkr2 hzr2 hS => ?_)
  obtain ⟨H, hHe⟩ : ∃ z, z = H1 := ⟨_, rfl⟩
  rw [← hHe] at hS
  rw [← hHe]
  obtain ⟨f1, L1, Q1, -, h1⟩ := hqr1
  obtain ⟨f2, L2, Q2, -, h2⟩ := hqr2
  have hr : r1 = r2 := by
    rcases h1 with ⟨rfl, h8⟩ | ⟨rfl, h8⟩ | ⟨rfl, h8⟩ | ⟨rfl, h8⟩ <;> rcases h2 with ⟨rfl, h9⟩ | ⟨rfl, h9⟩ | ⟨rfl, h9⟩ | ⟨rfl, h9⟩ <;> first | rfl | (exfalso; omega) | exact Int32.toInt_inj.mp (by have k1 : (0 : Int32).toInt = 0 := (by decide); have k2 : (-1 : Int32).toInt = -1 := (by decide); have k3 : (-2 : Int32).toInt = -2 := (by decide); omega)
  refine lv_icmp_eq (tgt := 1579) hx hb dL_law_322 (by decide) (fun _ => ?_) (fun c => absurd hr c)
  exact hJ _ _ _ hS (lv_sub hl [0, 3] rfl)

set_option maxHeartbeats 4000000 in
set_option maxRecDepth 100000 in
theorem lc_3 {p : Program} {e : Env} {s : State} {m : MethodId} {below : List Frame} {meth : Method} {cd : Code} {Qz : State → Prop} (l : Launch) {b : Nat} {xs : Nat → Int32} {D : va_G} {ca : Nat → ClassId} {za hX hM : Nat → Nat} {cells slots : Nat} {H : Heap} {locs : List Loc} {ls : Array Slot} (hx : p.tables.exec = Jvm.exec) (hb : cd.code = code) (hml : cd.maxLocals = 4) (hown : s.vm.findClass R_law = some m.cls) (hts : ∀ w ∈ gwL, w.before #[Value.ref b] s = true) (hXs : va_X b 6 xs s s.heap) (hbl : b < s.heap.size) (hK : va_K D vwCl (tyX ca) s) (hZ : sgZ zcX za (fun q => s.heap.size ≤ q) s.heap.size s) (hhX : sgH 52 hX) (hhM : sgH 26 hM) (hAX : sgY (fun q => s.heap.size ≤ q) 52 hX s.heap.size) (hAM : sgY (fun q => s.heap.size ≤ q) 26 hM s.heap.size) (hdis : ∀ i j : Nat, i < 52 → j < 26 → hX i ≠ hM j) (hcl : cells ≤ room_1.cells ∧ slots ≤ room_1.slots) (hPX : va_P D vwCl (sgw 52 hX (eX ca hX) f0X L0 Q0) H) (hPM : va_P D vwCl (sgw 26 hM (eM ca hM) f0M L0 Q0) H) (hS : va_S (fun q => s.heap.size ≤ q) s.heap H locs) (hl : lv_has ls 4 [(0, .ref b), (1, .ref (hX 0)), (2, .ref (hM 0)), (3, .int 0)]) (hJ : ∀ (H : Heap) (locs : List Loc) (ls : Array Slot), va_S (fun q => s.heap.size ≤ q) s.heap H locs → lv_has ls 4 [(0, .ref b), (3, .int 0)] → W p l e room_1 s m #[Value.ref b] below meth cd H locs cells slots Qz (F0 m 1579 ls [])) : W p l e room_1 s m #[Value.ref b] below meth cd H locs cells slots Qz (F0 m 327 ls []) := by
  have hbA : ¬ (fun q => s.heap.size ≤ q) b := Nat.not_le.mpr hbl
  have hown : s.vm.findClass RL = some m.cls := hown
  refine lv_aload_n hx hb dL_law_327 rfl (lv_at hl 1 rfl) ?_
  refine lv_aload_n hx hb dL_law_328 rfl (lv_at hl 0 rfl) ?_
  refine lv_iload_n hx hb dL_law_329 rfl (lv_at hl 3 rfl) ?_
  refine lv_iconst (v := 1) hx hb dL_law_330 (by decide) ?_
  refine lv_iadd hx hb dL_law_331 ?_
  refine W.eq (g2 := F0 m 332 ls [.int 1, .ref b, .ref (hX 0)]) (by rw [show (0 + 1 : Int32) = 1 from by decide]) ?_
  refine va_sld hx hb hXs hbl hbA hS (i := 1) (vp_in_iff.mpr (by decide)) dL_law_332 ?_
  refine lv_aload_n hx hb dL_law_333 rfl (lv_at hl 0 rfl) ?_
  refine lv_iload_n hx hb dL_law_334 rfl (lv_at hl 3 rfl) ?_
  refine lv_iconst (v := 2) hx hb dL_law_335 (by decide) ?_
  refine lv_iadd hx hb dL_law_336 ?_
  refine W.eq (g2 := F0 m 337 ls [.int 2, .ref b, .int (xs (Int32.toNatClampNeg 1)), .ref (hX 0)]) (by rw [show (0 + 2 : Int32) = 2 from by decide]) ?_
  refine va_sld hx hb hXs hbl hbA hS (i := 2) (vp_in_iff.mpr (by decide)) dL_law_337 ?_
  refine lw_calli (va_runV (As := [.int (xs (Int32.toNatClampNeg 1)), .int (xs (Int32.toNatClampNeg 2))]) (rest := []) ⟨hx, hb, hml, hown, hts⟩ (cf_X11_of l D ca za hX hhX ((xs (Int32.toNatClampNeg 1))) ((xs (Int32.toNatClampNeg 2))) H.size) (cwV 2 hts (gw_V (fun _ h => h) mw_501 mw_502 mw_503 mw_9 mw_500) rfl rfl rfl (by decide +kernel) ⟨Nat.le_of_ble_eq_true rfl, Nat.le_of_ble_eq_true rfl⟩) (sg_preV (ci := 11) (C := RX11) (T := TX11) (N := 10) hAX hK hPX hS hZ 0 (by decide) rfl rfl) rfl rfl hl.1 rfl (lv_room (Nat.le_of_ble_eq_true rfl)) dL_law_338 hcl) hAX hS (fun r1 H1 locs hqr1 hkr1 hzr1 hS => ?_)
  have hPM := lw_kept hPM hdis hkr1
  clear hPX
  obtain ⟨H, hHe⟩ : ∃ z, z = H1 := ⟨_, rfl⟩
  rw [← hHe] at hS hPM
  rw [← hHe]
  refine lv_aload_n hx hb dL_law_341 rfl (lv_at hl 2 rfl) ?_
  refine lv_aload_n hx hb dL_law_342 rfl (lv_at hl 0 rfl) ?_
  refine lv_iload_n hx hb dL_law_343 rfl (lv_at hl 3 rfl) ?_
  refine lv_iconst (v := 1) hx hb dL_law_344 (by decide) ?_
  refine lv_iadd hx hb dL_law_345 ?_
  refine W.eq (g2 := F0 m 346 ls [.int 1, .ref b, .ref (hM 0), .int r1]) (by rw [show (0 + 1 : Int32) = 1 from by decide]) ?_
  refine va_sld hx hb hXs hbl hbA hS (i := 1) (vp_in_iff.mpr (by decide)) dL_law_346 ?_
  refine lv_aload_n hx hb dL_law_347 rfl (lv_at hl 0 rfl) ?_
  refine lv_iload_n hx hb dL_law_348 rfl (lv_at hl 3 rfl) ?_
  refine lv_iconst (v := 2) hx hb dL_law_349 (by decide) ?_
  refine lv_iadd hx hb dL_law_350 ?_
  refine W.eq (g2 := F0 m 351 ls [.int 2, .ref b, .int (xs (Int32.toNatClampNeg 1)), .ref (hM 0), .int r1]) (by rw [show (0 + 2 : Int32) = 2 from by decide]) ?_
  refine va_sld hx hb hXs hbl hbA hS (i := 2) (vp_in_iff.mpr (by decide)) dL_law_351 ?_
  refine lw_calli (va_runV (As := [.int (xs (Int32.toNatClampNeg 1)), .int (xs (Int32.toNatClampNeg 2))]) (rest := [.int r1]) ⟨hx, hb, hml, hown, hts⟩ (cf_X12_of l D ca za hM hhM ((xs (Int32.toNatClampNeg 1))) ((xs (Int32.toNatClampNeg 2))) H.size) (cwV 2 hts (gw_V (fun _ h => h) mw_505 mw_506 mw_507 mw_217 mw_504) rfl rfl rfl (by decide +kernel) ⟨Nat.le_of_ble_eq_true rfl, Nat.le_of_ble_eq_true rfl⟩) (sg_preV (ci := 12) (C := RX12) (T := TX12) (N := 55) hAM hK hPM hS (show sgZ zcM za (fun q => s.heap.size ≤ q) s.heap.size s from fun i q h => by simp [zcM] at h) 0 (by decide) rfl rfl) rfl rfl hl.1 rfl (lv_room (Nat.le_of_ble_eq_true rfl)) dL_law_352 hcl) hAM hS (fun r2 H1 locs hqr2 hkr2 hzr2 hS => ?_)
  obtain ⟨H, hHe⟩ : ∃ z, z = H1 := ⟨_, rfl⟩
  rw [← hHe] at hS
  rw [← hHe]
  obtain ⟨f1, L1, Q1, -, h1⟩ := hqr1
  obtain ⟨f2, L2, Q2, -, h2⟩ := hqr2
  have hr : r1 = r2 := by
    rcases h1 with ⟨rfl, h8⟩ | ⟨rfl, h8⟩ | ⟨rfl, h8⟩ | ⟨rfl, h8⟩ | ⟨rfl, h8⟩ <;> rcases h2 with ⟨rfl, h9⟩ | ⟨rfl, h9⟩ | ⟨rfl, h9⟩ | ⟨rfl, h9⟩ | ⟨rfl, h9⟩ <;> first | rfl | (exfalso; omega) | exact Int32.toInt_inj.mp (by have k1 : (0 : Int32).toInt = 0 := (by decide); have k2 : (-1 : Int32).toInt = -1 := (by decide); have k3 : (-2 : Int32).toInt = -2 := (by decide); omega)
  refine lv_icmp_eq (tgt := 1579) hx hb dL_law_355 (by decide) (fun _ => ?_) (fun c => absurd hr c)
  exact hJ _ _ _ hS (lv_sub hl [0, 3] rfl)

set_option maxHeartbeats 4000000 in
set_option maxRecDepth 100000 in
theorem lc_4 {p : Program} {e : Env} {s : State} {m : MethodId} {below : List Frame} {meth : Method} {cd : Code} {Qz : State → Prop} (l : Launch) {b : Nat} {xs : Nat → Int32} {D : va_G} {ca : Nat → ClassId} {za hX hM : Nat → Nat} {cells slots : Nat} {H : Heap} {locs : List Loc} {ls : Array Slot} (hx : p.tables.exec = Jvm.exec) (hb : cd.code = code) (hml : cd.maxLocals = 4) (hown : s.vm.findClass R_law = some m.cls) (hts : ∀ w ∈ gwL, w.before #[Value.ref b] s = true) (hXs : va_X b 6 xs s s.heap) (hbl : b < s.heap.size) (hK : va_K D vwCl (tyX ca) s) (hZ : sgZ zcX za (fun q => s.heap.size ≤ q) s.heap.size s) (hhX : sgH 52 hX) (hhM : sgH 26 hM) (hAX : sgY (fun q => s.heap.size ≤ q) 52 hX s.heap.size) (hAM : sgY (fun q => s.heap.size ≤ q) 26 hM s.heap.size) (hdis : ∀ i j : Nat, i < 52 → j < 26 → hX i ≠ hM j) (hcl : cells ≤ room_1.cells ∧ slots ≤ room_1.slots) (hPX : va_P D vwCl (sgw 52 hX (eX ca hX) f0X L0 Q0) H) (hPM : va_P D vwCl (sgw 26 hM (eM ca hM) f0M L0 Q0) H) (hS : va_S (fun q => s.heap.size ≤ q) s.heap H locs) (hl : lv_has ls 4 [(0, .ref b), (1, .ref (hX 0)), (2, .ref (hM 0)), (3, .int 0)]) (hJ : ∀ (H : Heap) (locs : List Loc) (ls : Array Slot), va_S (fun q => s.heap.size ≤ q) s.heap H locs → lv_has ls 4 [(0, .ref b), (3, .int 0)] → W p l e room_1 s m #[Value.ref b] below meth cd H locs cells slots Qz (F0 m 1579 ls [])) : W p l e room_1 s m #[Value.ref b] below meth cd H locs cells slots Qz (F0 m 360 ls []) := by
  have hbA : ¬ (fun q => s.heap.size ≤ q) b := Nat.not_le.mpr hbl
  have hown : s.vm.findClass RL = some m.cls := hown
  refine lv_aload_n hx hb dL_law_360 rfl (lv_at hl 1 rfl) ?_
  refine lv_aload_n hx hb dL_law_361 rfl (lv_at hl 0 rfl) ?_
  refine lv_iload_n hx hb dL_law_362 rfl (lv_at hl 3 rfl) ?_
  refine lv_iconst (v := 1) hx hb dL_law_363 (by decide) ?_
  refine lv_iadd hx hb dL_law_364 ?_
  refine W.eq (g2 := F0 m 365 ls [.int 1, .ref b, .ref (hX 0)]) (by rw [show (0 + 1 : Int32) = 1 from by decide]) ?_
  refine va_sld hx hb hXs hbl hbA hS (i := 1) (vp_in_iff.mpr (by decide)) dL_law_365 ?_
  refine lw_calli (va_runV (As := [.int (xs (Int32.toNatClampNeg 1))]) (rest := []) ⟨hx, hb, hml, hown, hts⟩ (cf_X11_feed l D ca za hX hhX ((xs (Int32.toNatClampNeg 1))) H.size) (cwV 1 hts (gw_V (fun _ h => h) mw_509 mw_510 mw_511 mw_9 mw_508) rfl rfl rfl (by decide +kernel) ⟨Nat.le_of_ble_eq_true rfl, Nat.le_of_ble_eq_true rfl⟩) (sg_preV (ci := 11) (C := RX11) (T := TX11) (N := 10) hAX hK hPX hS hZ 0 (by decide) rfl rfl) rfl rfl hl.1 rfl (lv_room (Nat.le_of_ble_eq_true rfl)) dL_law_366 hcl) hAX hS (fun r1 H1 locs hqr1 hkr1 hzr1 hS => ?_)
  have hPM := lw_kept hPM hdis hkr1
  clear hPX
  obtain ⟨H, hHe⟩ : ∃ z, z = H1 := ⟨_, rfl⟩
  rw [← hHe] at hS hPM
  rw [← hHe]
  refine lv_aload_n hx hb dL_law_369 rfl (lv_at hl 2 rfl) ?_
  refine lv_aload_n hx hb dL_law_370 rfl (lv_at hl 0 rfl) ?_
  refine lv_iload_n hx hb dL_law_371 rfl (lv_at hl 3 rfl) ?_
  refine lv_iconst (v := 1) hx hb dL_law_372 (by decide) ?_
  refine lv_iadd hx hb dL_law_373 ?_
  refine W.eq (g2 := F0 m 374 ls [.int 1, .ref b, .ref (hM 0), .int r1]) (by rw [show (0 + 1 : Int32) = 1 from by decide]) ?_
  refine va_sld hx hb hXs hbl hbA hS (i := 1) (vp_in_iff.mpr (by decide)) dL_law_374 ?_
  refine lw_calli (va_runV (As := [.int (xs (Int32.toNatClampNeg 1))]) (rest := [.int r1]) ⟨hx, hb, hml, hown, hts⟩ (cf_X12_feed l D ca za hM hhM ((xs (Int32.toNatClampNeg 1))) H.size) (cwV 1 hts (gw_V (fun _ h => h) mw_513 mw_514 mw_515 mw_217 mw_512) rfl rfl rfl (by decide +kernel) ⟨Nat.le_of_ble_eq_true rfl, Nat.le_of_ble_eq_true rfl⟩) (sg_preV (ci := 12) (C := RX12) (T := TX12) (N := 55) hAM hK hPM hS (show sgZ zcM za (fun q => s.heap.size ≤ q) s.heap.size s from fun i q h => by simp [zcM] at h) 0 (by decide) rfl rfl) rfl rfl hl.1 rfl (lv_room (Nat.le_of_ble_eq_true rfl)) dL_law_375 hcl) hAM hS (fun r2 H1 locs hqr2 hkr2 hzr2 hS => ?_)
  obtain ⟨H, hHe⟩ : ∃ z, z = H1 := ⟨_, rfl⟩
  rw [← hHe] at hS
  rw [← hHe]
  obtain ⟨f1, L1, Q1, -, h1⟩ := hqr1
  obtain ⟨f2, L2, Q2, -, h2⟩ := hqr2
  have hr : r1 = r2 := by
    rcases h1 with ⟨rfl, h8⟩ | ⟨rfl, h8⟩ <;> rcases h2 with ⟨rfl, h9⟩ | ⟨rfl, h9⟩ <;> first | rfl | (exfalso; omega) | exact Int32.toInt_inj.mp (by have k1 : (0 : Int32).toInt = 0 := (by decide); have k2 : (-1 : Int32).toInt = -1 := (by decide); have k3 : (-2 : Int32).toInt = -2 := (by decide); omega)
  refine lv_icmp_eq (tgt := 1579) hx hb dL_law_378 (by decide) (fun _ => ?_) (fun c => absurd hr c)
  exact hJ _ _ _ hS (lv_sub hl [0, 3] rfl)

set_option maxHeartbeats 4000000 in
set_option maxRecDepth 100000 in
theorem lc_5 {p : Program} {e : Env} {s : State} {m : MethodId} {below : List Frame} {meth : Method} {cd : Code} {Qz : State → Prop} (l : Launch) {b : Nat} {xs : Nat → Int32} {D : va_G} {ca : Nat → ClassId} {za hX hM : Nat → Nat} {cells slots : Nat} {H : Heap} {locs : List Loc} {ls : Array Slot} (hx : p.tables.exec = Jvm.exec) (hb : cd.code = code) (hml : cd.maxLocals = 4) (hown : s.vm.findClass R_law = some m.cls) (hts : ∀ w ∈ gwL, w.before #[Value.ref b] s = true) (hXs : va_X b 6 xs s s.heap) (hbl : b < s.heap.size) (hK : va_K D vwCl (tyX ca) s) (hZ : sgZ zcX za (fun q => s.heap.size ≤ q) s.heap.size s) (hhX : sgH 52 hX) (hhM : sgH 26 hM) (hAX : sgY (fun q => s.heap.size ≤ q) 52 hX s.heap.size) (hAM : sgY (fun q => s.heap.size ≤ q) 26 hM s.heap.size) (hdis : ∀ i j : Nat, i < 52 → j < 26 → hX i ≠ hM j) (hcl : cells ≤ room_1.cells ∧ slots ≤ room_1.slots) (hPX : va_P D vwCl (sgw 52 hX (eX ca hX) f0X L0 Q0) H) (hPM : va_P D vwCl (sgw 26 hM (eM ca hM) f0M L0 Q0) H) (hS : va_S (fun q => s.heap.size ≤ q) s.heap H locs) (hl : lv_has ls 4 [(0, .ref b), (1, .ref (hX 0)), (2, .ref (hM 0)), (3, .int 0)]) (hJ : ∀ (H : Heap) (locs : List Loc) (ls : Array Slot), va_S (fun q => s.heap.size ≤ q) s.heap H locs → lv_has ls 4 [(0, .ref b), (3, .int 0)] → W p l e room_1 s m #[Value.ref b] below meth cd H locs cells slots Qz (F0 m 1579 ls [])) : W p l e room_1 s m #[Value.ref b] below meth cd H locs cells slots Qz (F0 m 383 ls []) := by
  have hbA : ¬ (fun q => s.heap.size ≤ q) b := Nat.not_le.mpr hbl
  have hown : s.vm.findClass RL = some m.cls := hown
  refine lv_aload_n hx hb dL_law_383 rfl (lv_at hl 1 rfl) ?_
  refine lw_calli (va_runV (As := []) (rest := []) ⟨hx, hb, hml, hown, hts⟩ (cf_X11_law l D ca za hX hhX  H.size) (cwV 0 hts (gw_V (fun _ h => h) mw_517 mw_518 mw_519 mw_9 mw_516) rfl rfl rfl (by decide +kernel) ⟨Nat.le_of_ble_eq_true rfl, Nat.le_of_ble_eq_true rfl⟩) (sg_preV (ci := 11) (C := RX11) (T := TX11) (N := 10) hAX hK hPX hS hZ 0 (by decide) rfl rfl) rfl rfl hl.1 rfl (lv_room (Nat.le_of_ble_eq_true rfl)) dL_law_384 hcl) hAX hS (fun r1 H1 locs hqr1 hkr1 hzr1 hS => ?_)
  have hPM := lw_kept hPM hdis hkr1
  clear hPX
  obtain ⟨H, hHe⟩ : ∃ z, z = H1 := ⟨_, rfl⟩
  rw [← hHe] at hS hPM
  rw [← hHe]
  refine lv_aload_n hx hb dL_law_387 rfl (lv_at hl 2 rfl) ?_
  refine lw_calli (va_runV (As := []) (rest := [.int r1]) ⟨hx, hb, hml, hown, hts⟩ (cf_X12_law l D ca za hM hhM  H.size) (cwV 0 hts (gw_V (fun _ h => h) mw_521 mw_522 mw_523 mw_217 mw_520) rfl rfl rfl (by decide +kernel) ⟨Nat.le_of_ble_eq_true rfl, Nat.le_of_ble_eq_true rfl⟩) (sg_preV (ci := 12) (C := RX12) (T := TX12) (N := 55) hAM hK hPM hS (show sgZ zcM za (fun q => s.heap.size ≤ q) s.heap.size s from fun i q h => by simp [zcM] at h) 0 (by decide) rfl rfl) rfl rfl hl.1 rfl (lv_room (Nat.le_of_ble_eq_true rfl)) dL_law_388 hcl) hAM hS (fun r2 H1 locs hqr2 hkr2 hzr2 hS => ?_)
  obtain ⟨H, hHe⟩ : ∃ z, z = H1 := ⟨_, rfl⟩
  rw [← hHe] at hS
  rw [← hHe]
  obtain ⟨f1, L1, Q1, -, h1⟩ := hqr1
  obtain ⟨f2, L2, Q2, -, h2⟩ := hqr2
  have hr : r1 = r2 := by
    rcases h1 with ⟨rfl, h8⟩ <;> rcases h2 with ⟨rfl, h9⟩ <;> first | rfl | (exfalso; omega) | exact Int32.toInt_inj.mp (by have k1 : (0 : Int32).toInt = 0 := (by decide); have k2 : (-1 : Int32).toInt = -1 := (by decide); have k3 : (-2 : Int32).toInt = -2 := (by decide); omega)
  refine lv_icmp_eq (tgt := 1579) hx hb dL_law_391 (by decide) (fun _ => ?_) (fun c => absurd hr c)
  exact hJ _ _ _ hS (lv_sub hl [0, 3] rfl)

set_option maxHeartbeats 4000000 in
set_option maxRecDepth 100000 in
theorem lc_6 {p : Program} {e : Env} {s : State} {m : MethodId} {below : List Frame} {meth : Method} {cd : Code} {Qz : State → Prop} (l : Launch) {b : Nat} {xs : Nat → Int32} {D : va_G} {ca : Nat → ClassId} {za hX hM : Nat → Nat} {cells slots : Nat} {H : Heap} {locs : List Loc} {ls : Array Slot} (hx : p.tables.exec = Jvm.exec) (hb : cd.code = code) (hml : cd.maxLocals = 4) (hown : s.vm.findClass R_law = some m.cls) (hts : ∀ w ∈ gwL, w.before #[Value.ref b] s = true) (hXs : va_X b 6 xs s s.heap) (hbl : b < s.heap.size) (hK : va_K D vwCl (tyX ca) s) (hZ : sgZ zcX za (fun q => s.heap.size ≤ q) s.heap.size s) (hhX : sgH 52 hX) (hhM : sgH 26 hM) (hAX : sgY (fun q => s.heap.size ≤ q) 52 hX s.heap.size) (hAM : sgY (fun q => s.heap.size ≤ q) 26 hM s.heap.size) (hdis : ∀ i j : Nat, i < 52 → j < 26 → hX i ≠ hM j) (hcl : cells ≤ room_1.cells ∧ slots ≤ room_1.slots) (hPX : va_P D vwCl (sgw 52 hX (eX ca hX) f0X L0 Q0) H) (hPM : va_P D vwCl (sgw 26 hM (eM ca hM) f0M L0 Q0) H) (hS : va_S (fun q => s.heap.size ≤ q) s.heap H locs) (hl : lv_has ls 4 [(0, .ref b), (1, .ref (hX 0)), (2, .ref (hM 0)), (3, .int 0)]) (hJ : ∀ (H : Heap) (locs : List Loc) (ls : Array Slot), va_S (fun q => s.heap.size ≤ q) s.heap H locs → lv_has ls 4 [(0, .ref b), (3, .int 0)] → W p l e room_1 s m #[Value.ref b] below meth cd H locs cells slots Qz (F0 m 1579 ls [])) : W p l e room_1 s m #[Value.ref b] below meth cd H locs cells slots Qz (F0 m 396 ls []) := by
  have hbA : ¬ (fun q => s.heap.size ≤ q) b := Nat.not_le.mpr hbl
  have hown : s.vm.findClass RL = some m.cls := hown
  refine lv_aload_n hx hb dL_law_396 rfl (lv_at hl 1 rfl) ?_
  refine lv_aload_n hx hb dL_law_397 rfl (lv_at hl 0 rfl) ?_
  refine lv_iload_n hx hb dL_law_398 rfl (lv_at hl 3 rfl) ?_
  refine lv_iconst (v := 1) hx hb dL_law_399 (by decide) ?_
  refine lv_iadd hx hb dL_law_400 ?_
  refine W.eq (g2 := F0 m 401 ls [.int 1, .ref b, .ref (hX 0)]) (by rw [show (0 + 1 : Int32) = 1 from by decide]) ?_
  refine va_sld hx hb hXs hbl hbA hS (i := 1) (vp_in_iff.mpr (by decide)) dL_law_401 ?_
  refine lv_aload_n hx hb dL_law_402 rfl (lv_at hl 0 rfl) ?_
  refine lv_iload_n hx hb dL_law_403 rfl (lv_at hl 3 rfl) ?_
  refine lv_iconst (v := 2) hx hb dL_law_404 (by decide) ?_
  refine lv_iadd hx hb dL_law_405 ?_
  refine W.eq (g2 := F0 m 406 ls [.int 2, .ref b, .int (xs (Int32.toNatClampNeg 1)), .ref (hX 0)]) (by rw [show (0 + 2 : Int32) = 2 from by decide]) ?_
  refine va_sld hx hb hXs hbl hbA hS (i := 2) (vp_in_iff.mpr (by decide)) dL_law_406 ?_
  refine lv_aload_n hx hb dL_law_407 rfl (lv_at hl 0 rfl) ?_
  refine lv_iload_n hx hb dL_law_408 rfl (lv_at hl 3 rfl) ?_
  refine lv_iconst (v := 3) hx hb dL_law_409 (by decide) ?_
  refine lv_iadd hx hb dL_law_410 ?_
  refine W.eq (g2 := F0 m 411 ls [.int 3, .ref b, .int (xs (Int32.toNatClampNeg 2)), .int (xs (Int32.toNatClampNeg 1)), .ref (hX 0)]) (by rw [show (0 + 3 : Int32) = 3 from by decide]) ?_
  refine va_sld hx hb hXs hbl hbA hS (i := 3) (vp_in_iff.mpr (by decide)) dL_law_411 ?_
  refine lw_calli (va_runV (As := [.int (xs (Int32.toNatClampNeg 1)), .int (xs (Int32.toNatClampNeg 2)), .int (xs (Int32.toNatClampNeg 3))]) (rest := []) ⟨hx, hb, hml, hown, hts⟩ (cf_X11_loss l D ca za hX hhX ((xs (Int32.toNatClampNeg 1))) ((xs (Int32.toNatClampNeg 2))) ((xs (Int32.toNatClampNeg 3))) H.size) (cwV 3 hts (gw_V (fun _ h => h) mw_525 mw_526 mw_527 mw_9 mw_524) rfl rfl rfl (by decide +kernel) ⟨Nat.le_of_ble_eq_true rfl, Nat.le_of_ble_eq_true rfl⟩) (sg_preV (ci := 11) (C := RX11) (T := TX11) (N := 10) hAX hK hPX hS hZ 0 (by decide) rfl rfl) rfl rfl hl.1 rfl (lv_room (Nat.le_of_ble_eq_true rfl)) dL_law_412 hcl) hAX hS (fun r1 H1 locs hqr1 hkr1 hzr1 hS => ?_)
  have hPM := lw_kept hPM hdis hkr1
  clear hPX
  obtain ⟨H, hHe⟩ : ∃ z, z = H1 := ⟨_, rfl⟩
  rw [← hHe] at hS hPM
  rw [← hHe]
  refine lv_aload_n hx hb dL_law_415 rfl (lv_at hl 2 rfl) ?_
  refine lv_aload_n hx hb dL_law_416 rfl (lv_at hl 0 rfl) ?_
  refine lv_iload_n hx hb dL_law_417 rfl (lv_at hl 3 rfl) ?_
  refine lv_iconst (v := 1) hx hb dL_law_418 (by decide) ?_
  refine lv_iadd hx hb dL_law_419 ?_
  refine W.eq (g2 := F0 m 420 ls [.int 1, .ref b, .ref (hM 0), .int r1]) (by rw [show (0 + 1 : Int32) = 1 from by decide]) ?_
  refine va_sld hx hb hXs hbl hbA hS (i := 1) (vp_in_iff.mpr (by decide)) dL_law_420 ?_
  refine lv_aload_n hx hb dL_law_421 rfl (lv_at hl 0 rfl) ?_
  refine lv_iload_n hx hb dL_law_422 rfl (lv_at hl 3 rfl) ?_
  refine lv_iconst (v := 2) hx hb dL_law_423 (by decide) ?_
  refine lv_iadd hx hb dL_law_424 ?_
  refine W.eq (g2 := F0 m 425 ls [.int 2, .ref b, .int (xs (Int32.toNatClampNeg 1)), .ref (hM 0), .int r1]) (by rw [show (0 + 2 : Int32) = 2 from by decide]) ?_
  refine va_sld hx hb hXs hbl hbA hS (i := 2) (vp_in_iff.mpr (by decide)) dL_law_425 ?_
  refine lv_aload_n hx hb dL_law_426 rfl (lv_at hl 0 rfl) ?_
  refine lv_iload_n hx hb dL_law_427 rfl (lv_at hl 3 rfl) ?_
  refine lv_iconst (v := 3) hx hb dL_law_428 (by decide) ?_
  refine lv_iadd hx hb dL_law_429 ?_
  refine W.eq (g2 := F0 m 430 ls [.int 3, .ref b, .int (xs (Int32.toNatClampNeg 2)), .int (xs (Int32.toNatClampNeg 1)), .ref (hM 0), .int r1]) (by rw [show (0 + 3 : Int32) = 3 from by decide]) ?_
  refine va_sld hx hb hXs hbl hbA hS (i := 3) (vp_in_iff.mpr (by decide)) dL_law_430 ?_
  refine lw_calli (va_runV (As := [.int (xs (Int32.toNatClampNeg 1)), .int (xs (Int32.toNatClampNeg 2)), .int (xs (Int32.toNatClampNeg 3))]) (rest := [.int r1]) ⟨hx, hb, hml, hown, hts⟩ (cf_X12_loss l D ca za hM hhM ((xs (Int32.toNatClampNeg 1))) ((xs (Int32.toNatClampNeg 2))) ((xs (Int32.toNatClampNeg 3))) H.size) (cwV 3 hts (gw_V (fun _ h => h) mw_529 mw_530 mw_531 mw_217 mw_528) rfl rfl rfl (by decide +kernel) ⟨Nat.le_of_ble_eq_true rfl, Nat.le_of_ble_eq_true rfl⟩) (sg_preV (ci := 12) (C := RX12) (T := TX12) (N := 55) hAM hK hPM hS (show sgZ zcM za (fun q => s.heap.size ≤ q) s.heap.size s from fun i q h => by simp [zcM] at h) 0 (by decide) rfl rfl) rfl rfl hl.1 rfl (lv_room (Nat.le_of_ble_eq_true rfl)) dL_law_431 hcl) hAM hS (fun r2 H1 locs hqr2 hkr2 hzr2 hS => ?_)
  obtain ⟨H, hHe⟩ : ∃ z, z = H1 := ⟨_, rfl⟩
  rw [← hHe] at hS
  rw [← hHe]
  obtain ⟨f1, L1, Q1, -, h1⟩ := hqr1
  obtain ⟨f2, L2, Q2, -, h2⟩ := hqr2
  have hr : r1 = r2 := by
    rcases h1 with ⟨rfl, h8⟩ <;> rcases h2 with ⟨rfl, h9⟩ <;> first | rfl | (exfalso; omega) | exact Int32.toInt_inj.mp (by have k1 : (0 : Int32).toInt = 0 := (by decide); have k2 : (-1 : Int32).toInt = -1 := (by decide); have k3 : (-2 : Int32).toInt = -2 := (by decide); omega)
  refine lv_icmp_eq (tgt := 1579) hx hb dL_law_434 (by decide) (fun _ => ?_) (fun c => absurd hr c)
  exact hJ _ _ _ hS (lv_sub hl [0, 3] rfl)

set_option maxHeartbeats 4000000 in
set_option maxRecDepth 100000 in
theorem lc_7 {p : Program} {e : Env} {s : State} {m : MethodId} {below : List Frame} {meth : Method} {cd : Code} {Qz : State → Prop} (l : Launch) {b : Nat} {xs : Nat → Int32} {D : va_G} {ca : Nat → ClassId} {za hX hM : Nat → Nat} {cells slots : Nat} {H : Heap} {locs : List Loc} {ls : Array Slot} (hx : p.tables.exec = Jvm.exec) (hb : cd.code = code) (hml : cd.maxLocals = 4) (hown : s.vm.findClass R_law = some m.cls) (hts : ∀ w ∈ gwL, w.before #[Value.ref b] s = true) (hXs : va_X b 6 xs s s.heap) (hbl : b < s.heap.size) (hK : va_K D vwCl (tyX ca) s) (hZ : sgZ zcX za (fun q => s.heap.size ≤ q) s.heap.size s) (hhX : sgH 52 hX) (hhM : sgH 26 hM) (hAX : sgY (fun q => s.heap.size ≤ q) 52 hX s.heap.size) (hAM : sgY (fun q => s.heap.size ≤ q) 26 hM s.heap.size) (hdis : ∀ i j : Nat, i < 52 → j < 26 → hX i ≠ hM j) (hcl : cells ≤ room_1.cells ∧ slots ≤ room_1.slots) (hPX : va_P D vwCl (sgw 52 hX (eX ca hX) f0X L0 Q0) H) (hPM : va_P D vwCl (sgw 26 hM (eM ca hM) f0M L0 Q0) H) (hS : va_S (fun q => s.heap.size ≤ q) s.heap H locs) (hl : lv_has ls 4 [(0, .ref b), (1, .ref (hX 0)), (2, .ref (hM 0)), (3, .int 0)]) (hJ : ∀ (H : Heap) (locs : List Loc) (ls : Array Slot), va_S (fun q => s.heap.size ≤ q) s.heap H locs → lv_has ls 4 [(0, .ref b), (3, .int 0)] → W p l e room_1 s m #[Value.ref b] below meth cd H locs cells slots Qz (F0 m 1579 ls [])) : W p l e room_1 s m #[Value.ref b] below meth cd H locs cells slots Qz (F0 m 439 ls []) := by
  have hbA : ¬ (fun q => s.heap.size ≤ q) b := Nat.not_le.mpr hbl
  have hown : s.vm.findClass RL = some m.cls := hown
  refine lv_aload_n hx hb dL_law_439 rfl (lv_at hl 1 rfl) ?_
  refine lv_aload_n hx hb dL_law_440 rfl (lv_at hl 0 rfl) ?_
  refine lv_iload_n hx hb dL_law_441 rfl (lv_at hl 3 rfl) ?_
  refine lv_iconst (v := 1) hx hb dL_law_442 (by decide) ?_
  refine lv_iadd hx hb dL_law_443 ?_
  refine W.eq (g2 := F0 m 444 ls [.int 1, .ref b, .ref (hX 0)]) (by rw [show (0 + 1 : Int32) = 1 from by decide]) ?_
  refine va_sld hx hb hXs hbl hbA hS (i := 1) (vp_in_iff.mpr (by decide)) dL_law_444 ?_
  refine lv_aload_n hx hb dL_law_445 rfl (lv_at hl 0 rfl) ?_
  refine lv_iload_n hx hb dL_law_446 rfl (lv_at hl 3 rfl) ?_
  refine lv_iconst (v := 2) hx hb dL_law_447 (by decide) ?_
  refine lv_iadd hx hb dL_law_448 ?_
  refine W.eq (g2 := F0 m 449 ls [.int 2, .ref b, .int (xs (Int32.toNatClampNeg 1)), .ref (hX 0)]) (by rw [show (0 + 2 : Int32) = 2 from by decide]) ?_
  refine va_sld hx hb hXs hbl hbA hS (i := 2) (vp_in_iff.mpr (by decide)) dL_law_449 ?_
  refine lv_aload_n hx hb dL_law_450 rfl (lv_at hl 0 rfl) ?_
  refine lv_iload_n hx hb dL_law_451 rfl (lv_at hl 3 rfl) ?_
  refine lv_iconst (v := 3) hx hb dL_law_452 (by decide) ?_
  refine lv_iadd hx hb dL_law_453 ?_
  refine W.eq (g2 := F0 m 454 ls [.int 3, .ref b, .int (xs (Int32.toNatClampNeg 2)), .int (xs (Int32.toNatClampNeg 1)), .ref (hX 0)]) (by rw [show (0 + 3 : Int32) = 3 from by decide]) ?_
  refine va_sld hx hb hXs hbl hbA hS (i := 3) (vp_in_iff.mpr (by decide)) dL_law_454 ?_
  refine lw_calli (va_runV (As := [.int (xs (Int32.toNatClampNeg 1)), .int (xs (Int32.toNatClampNeg 2)), .int (xs (Int32.toNatClampNeg 3))]) (rest := []) ⟨hx, hb, hml, hown, hts⟩ (cf_X11_never l D ca za hX hhX ((xs (Int32.toNatClampNeg 1))) ((xs (Int32.toNatClampNeg 2))) ((xs (Int32.toNatClampNeg 3))) H.size) (cwV 3 hts (gw_V (fun _ h => h) mw_533 mw_534 mw_535 mw_9 mw_532) rfl rfl rfl (by decide +kernel) ⟨Nat.le_of_ble_eq_true rfl, Nat.le_of_ble_eq_true rfl⟩) (sg_preV (ci := 11) (C := RX11) (T := TX11) (N := 10) hAX hK hPX hS hZ 0 (by decide) rfl rfl) rfl rfl hl.1 rfl (lv_room (Nat.le_of_ble_eq_true rfl)) dL_law_455 hcl) hAX hS (fun r1 H1 locs hqr1 hkr1 hzr1 hS => ?_)
  have hPM := lw_kept hPM hdis hkr1
  clear hPX
  obtain ⟨H, hHe⟩ : ∃ z, z = H1 := ⟨_, rfl⟩
  rw [← hHe] at hS hPM
  rw [← hHe]
  refine lv_aload_n hx hb dL_law_458 rfl (lv_at hl 2 rfl) ?_
  refine lv_aload_n hx hb dL_law_459 rfl (lv_at hl 0 rfl) ?_
  refine lv_iload_n hx hb dL_law_460 rfl (lv_at hl 3 rfl) ?_
  refine lv_iconst (v := 1) hx hb dL_law_461 (by decide) ?_
  refine lv_iadd hx hb dL_law_462 ?_
  refine W.eq (g2 := F0 m 463 ls [.int 1, .ref b, .ref (hM 0), .int r1]) (by rw [show (0 + 1 : Int32) = 1 from by decide]) ?_
  refine va_sld hx hb hXs hbl hbA hS (i := 1) (vp_in_iff.mpr (by decide)) dL_law_463 ?_
  refine lv_aload_n hx hb dL_law_464 rfl (lv_at hl 0 rfl) ?_
  refine lv_iload_n hx hb dL_law_465 rfl (lv_at hl 3 rfl) ?_
  refine lv_iconst (v := 2) hx hb dL_law_466 (by decide) ?_
  refine lv_iadd hx hb dL_law_467 ?_
  refine W.eq (g2 := F0 m 468 ls [.int 2, .ref b, .int (xs (Int32.toNatClampNeg 1)), .ref (hM 0), .int r1]) (by rw [show (0 + 2 : Int32) = 2 from by decide]) ?_
  refine va_sld hx hb hXs hbl hbA hS (i := 2) (vp_in_iff.mpr (by decide)) dL_law_468 ?_
  refine lv_aload_n hx hb dL_law_469 rfl (lv_at hl 0 rfl) ?_
  refine lv_iload_n hx hb dL_law_470 rfl (lv_at hl 3 rfl) ?_
  refine lv_iconst (v := 3) hx hb dL_law_471 (by decide) ?_
  refine lv_iadd hx hb dL_law_472 ?_
  refine W.eq (g2 := F0 m 473 ls [.int 3, .ref b, .int (xs (Int32.toNatClampNeg 2)), .int (xs (Int32.toNatClampNeg 1)), .ref (hM 0), .int r1]) (by rw [show (0 + 3 : Int32) = 3 from by decide]) ?_
  refine va_sld hx hb hXs hbl hbA hS (i := 3) (vp_in_iff.mpr (by decide)) dL_law_473 ?_
  refine lw_calli (va_runV (As := [.int (xs (Int32.toNatClampNeg 1)), .int (xs (Int32.toNatClampNeg 2)), .int (xs (Int32.toNatClampNeg 3))]) (rest := [.int r1]) ⟨hx, hb, hml, hown, hts⟩ (cf_X12_never l D ca za hM hhM ((xs (Int32.toNatClampNeg 1))) ((xs (Int32.toNatClampNeg 2))) ((xs (Int32.toNatClampNeg 3))) H.size) (cwV 3 hts (gw_V (fun _ h => h) mw_537 mw_538 mw_539 mw_217 mw_536) rfl rfl rfl (by decide +kernel) ⟨Nat.le_of_ble_eq_true rfl, Nat.le_of_ble_eq_true rfl⟩) (sg_preV (ci := 12) (C := RX12) (T := TX12) (N := 55) hAM hK hPM hS (show sgZ zcM za (fun q => s.heap.size ≤ q) s.heap.size s from fun i q h => by simp [zcM] at h) 0 (by decide) rfl rfl) rfl rfl hl.1 rfl (lv_room (Nat.le_of_ble_eq_true rfl)) dL_law_474 hcl) hAM hS (fun r2 H1 locs hqr2 hkr2 hzr2 hS => ?_)
  obtain ⟨H, hHe⟩ : ∃ z, z = H1 := ⟨_, rfl⟩
  rw [← hHe] at hS
  rw [← hHe]
  obtain ⟨f1, L1, Q1, -, h1⟩ := hqr1
  obtain ⟨f2, L2, Q2, -, h2⟩ := hqr2
  have hr : r1 = r2 := by
    rcases h1 with ⟨rfl, h8⟩ | ⟨rfl, h8⟩ <;> rcases h2 with ⟨rfl, h9⟩ | ⟨rfl, h9⟩ <;> first | rfl | (exfalso; omega) | exact Int32.toInt_inj.mp (by have k1 : (0 : Int32).toInt = 0 := (by decide); have k2 : (-1 : Int32).toInt = -1 := (by decide); have k3 : (-2 : Int32).toInt = -2 := (by decide); omega)
  refine lv_icmp_eq (tgt := 1579) hx hb dL_law_477 (by decide) (fun _ => ?_) (fun c => absurd hr c)
  exact hJ _ _ _ hS (lv_sub hl [0, 3] rfl)

set_option maxHeartbeats 4000000 in
set_option maxRecDepth 100000 in
theorem lc_8 {p : Program} {e : Env} {s : State} {m : MethodId} {below : List Frame} {meth : Method} {cd : Code} {Qz : State → Prop} (l : Launch) {b : Nat} {xs : Nat → Int32} {D : va_G} {ca : Nat → ClassId} {za hX hM : Nat → Nat} {cells slots : Nat} {H : Heap} {locs : List Loc} {ls : Array Slot} (hx : p.tables.exec = Jvm.exec) (hb : cd.code = code) (hml : cd.maxLocals = 4) (hown : s.vm.findClass R_law = some m.cls) (hts : ∀ w ∈ gwL, w.before #[Value.ref b] s = true) (hXs : va_X b 6 xs s s.heap) (hbl : b < s.heap.size) (hK : va_K D vwCl (tyX ca) s) (hZ : sgZ zcX za (fun q => s.heap.size ≤ q) s.heap.size s) (hhX : sgH 52 hX) (hhM : sgH 26 hM) (hAX : sgY (fun q => s.heap.size ≤ q) 52 hX s.heap.size) (hAM : sgY (fun q => s.heap.size ≤ q) 26 hM s.heap.size) (hdis : ∀ i j : Nat, i < 52 → j < 26 → hX i ≠ hM j) (hcl : cells ≤ room_1.cells ∧ slots ≤ room_1.slots) (hPX : va_P D vwCl (sgw 52 hX (eX ca hX) f0X L0 Q0) H) (hPM : va_P D vwCl (sgw 26 hM (eM ca hM) f0M L0 Q0) H) (hS : va_S (fun q => s.heap.size ≤ q) s.heap H locs) (hl : lv_has ls 4 [(0, .ref b), (1, .ref (hX 0)), (2, .ref (hM 0)), (3, .int 0)]) (hJ : ∀ (H : Heap) (locs : List Loc) (ls : Array Slot), va_S (fun q => s.heap.size ≤ q) s.heap H locs → lv_has ls 4 [(0, .ref b), (3, .int 0)] → W p l e room_1 s m #[Value.ref b] below meth cd H locs cells slots Qz (F0 m 1579 ls [])) : W p l e room_1 s m #[Value.ref b] below meth cd H locs cells slots Qz (F0 m 482 ls []) := by
  have hbA : ¬ (fun q => s.heap.size ≤ q) b := Nat.not_le.mpr hbl
  have hown : s.vm.findClass RL = some m.cls := hown
  refine lv_aload_n hx hb dL_law_482 rfl (lv_at hl 1 rfl) ?_
  refine lv_aload_n hx hb dL_law_483 rfl (lv_at hl 0 rfl) ?_
  refine lv_iload_n hx hb dL_law_484 rfl (lv_at hl 3 rfl) ?_
  refine lv_iconst (v := 1) hx hb dL_law_485 (by decide) ?_
  refine lv_iadd hx hb dL_law_486 ?_
  refine W.eq (g2 := F0 m 487 ls [.int 1, .ref b, .ref (hX 0)]) (by rw [show (0 + 1 : Int32) = 1 from by decide]) ?_
  refine va_sld hx hb hXs hbl hbA hS (i := 1) (vp_in_iff.mpr (by decide)) dL_law_487 ?_
  refine lv_aload_n hx hb dL_law_488 rfl (lv_at hl 0 rfl) ?_
  refine lv_iload_n hx hb dL_law_489 rfl (lv_at hl 3 rfl) ?_
  refine lv_iconst (v := 2) hx hb dL_law_490 (by decide) ?_
  refine lv_iadd hx hb dL_law_491 ?_
  refine W.eq (g2 := F0 m 492 ls [.int 2, .ref b, .int (xs (Int32.toNatClampNeg 1)), .ref (hX 0)]) (by rw [show (0 + 2 : Int32) = 2 from by decide]) ?_
  refine va_sld hx hb hXs hbl hbA hS (i := 2) (vp_in_iff.mpr (by decide)) dL_law_492 ?_
  refine lv_aload_n hx hb dL_law_493 rfl (lv_at hl 0 rfl) ?_
  refine lv_iload_n hx hb dL_law_494 rfl (lv_at hl 3 rfl) ?_
  refine lv_iconst (v := 3) hx hb dL_law_495 (by decide) ?_
  refine lv_iadd hx hb dL_law_496 ?_
  refine W.eq (g2 := F0 m 497 ls [.int 3, .ref b, .int (xs (Int32.toNatClampNeg 2)), .int (xs (Int32.toNatClampNeg 1)), .ref (hX 0)]) (by rw [show (0 + 3 : Int32) = 3 from by decide]) ?_
  refine va_sld hx hb hXs hbl hbA hS (i := 3) (vp_in_iff.mpr (by decide)) dL_law_497 ?_
  refine lw_calli (va_runV (As := [.int (xs (Int32.toNatClampNeg 1)), .int (xs (Int32.toNatClampNeg 2)), .int (xs (Int32.toNatClampNeg 3))]) (rest := []) ⟨hx, hb, hml, hown, hts⟩ (cf_X11_best l D ca za hX hhX ((xs (Int32.toNatClampNeg 1))) ((xs (Int32.toNatClampNeg 2))) ((xs (Int32.toNatClampNeg 3))) H.size) (cwV 3 hts (gw_V (fun _ h => h) mw_541 mw_542 mw_543 mw_9 mw_540) rfl rfl rfl (by decide +kernel) ⟨Nat.le_of_ble_eq_true rfl, Nat.le_of_ble_eq_true rfl⟩) (sg_preV (ci := 11) (C := RX11) (T := TX11) (N := 10) hAX hK hPX hS hZ 0 (by decide) rfl rfl) rfl rfl hl.1 rfl (lv_room (Nat.le_of_ble_eq_true rfl)) dL_law_498 hcl) hAX hS (fun r1 H1 locs hqr1 hkr1 hzr1 hS => ?_)
  have hPM := lw_kept hPM hdis hkr1
  clear hPX
  obtain ⟨H, hHe⟩ : ∃ z, z = H1 := ⟨_, rfl⟩
  rw [← hHe] at hS hPM
  rw [← hHe]
  refine lv_aload_n hx hb dL_law_501 rfl (lv_at hl 2 rfl) ?_
  refine lv_aload_n hx hb dL_law_502 rfl (lv_at hl 0 rfl) ?_
  refine lv_iload_n hx hb dL_law_503 rfl (lv_at hl 3 rfl) ?_
  refine lv_iconst (v := 1) hx hb dL_law_504 (by decide) ?_
  refine lv_iadd hx hb dL_law_505 ?_
  refine W.eq (g2 := F0 m 506 ls [.int 1, .ref b, .ref (hM 0), .int r1]) (by rw [show (0 + 1 : Int32) = 1 from by decide]) ?_
  refine va_sld hx hb hXs hbl hbA hS (i := 1) (vp_in_iff.mpr (by decide)) dL_law_506 ?_
  refine lv_aload_n hx hb dL_law_507 rfl (lv_at hl 0 rfl) ?_
  refine lv_iload_n hx hb dL_law_508 rfl (lv_at hl 3 rfl) ?_
  refine lv_iconst (v := 2) hx hb dL_law_509 (by decide) ?_
  refine lv_iadd hx hb dL_law_510 ?_
  refine W.eq (g2 := F0 m 511 ls [.int 2, .ref b, .int (xs (Int32.toNatClampNeg 1)), .ref (hM 0), .int r1]) (by rw [show (0 + 2 : Int32) = 2 from by decide]) ?_
  refine va_sld hx hb hXs hbl hbA hS (i := 2) (vp_in_iff.mpr (by decide)) dL_law_511 ?_
  refine lv_aload_n hx hb dL_law_512 rfl (lv_at hl 0 rfl) ?_
  refine lv_iload_n hx hb dL_law_513 rfl (lv_at hl 3 rfl) ?_
  refine lv_iconst (v := 3) hx hb dL_law_514 (by decide) ?_
  refine lv_iadd hx hb dL_law_515 ?_
  refine W.eq (g2 := F0 m 516 ls [.int 3, .ref b, .int (xs (Int32.toNatClampNeg 2)), .int (xs (Int32.toNatClampNeg 1)), .ref (hM 0), .int r1]) (by rw [show (0 + 3 : Int32) = 3 from by decide]) ?_
  refine va_sld hx hb hXs hbl hbA hS (i := 3) (vp_in_iff.mpr (by decide)) dL_law_516 ?_
  refine lw_calli (va_runV (As := [.int (xs (Int32.toNatClampNeg 1)), .int (xs (Int32.toNatClampNeg 2)), .int (xs (Int32.toNatClampNeg 3))]) (rest := [.int r1]) ⟨hx, hb, hml, hown, hts⟩ (cf_X12_best l D ca za hM hhM ((xs (Int32.toNatClampNeg 1))) ((xs (Int32.toNatClampNeg 2))) ((xs (Int32.toNatClampNeg 3))) H.size) (cwV 3 hts (gw_V (fun _ h => h) mw_545 mw_546 mw_547 mw_217 mw_544) rfl rfl rfl (by decide +kernel) ⟨Nat.le_of_ble_eq_true rfl, Nat.le_of_ble_eq_true rfl⟩) (sg_preV (ci := 12) (C := RX12) (T := TX12) (N := 55) hAM hK hPM hS (show sgZ zcM za (fun q => s.heap.size ≤ q) s.heap.size s from fun i q h => by simp [zcM] at h) 0 (by decide) rfl rfl) rfl rfl hl.1 rfl (lv_room (Nat.le_of_ble_eq_true rfl)) dL_law_517 hcl) hAM hS (fun r2 H1 locs hqr2 hkr2 hzr2 hS => ?_)
  obtain ⟨H, hHe⟩ : ∃ z, z = H1 := ⟨_, rfl⟩
  rw [← hHe] at hS
  rw [← hHe]
  obtain ⟨f1, L1, Q1, -, h1⟩ := hqr1
  obtain ⟨f2, L2, Q2, -, h2⟩ := hqr2
  have hr : r1 = r2 := by
    rcases h1 with ⟨rfl, h8⟩ | ⟨rfl, h8⟩ <;> rcases h2 with ⟨rfl, h9⟩ | ⟨rfl, h9⟩ <;> first | rfl | (exfalso; omega) | exact Int32.toInt_inj.mp (by have k1 : (0 : Int32).toInt = 0 := (by decide); have k2 : (-1 : Int32).toInt = -1 := (by decide); have k3 : (-2 : Int32).toInt = -2 := (by decide); omega)
  refine lv_icmp_eq (tgt := 1579) hx hb dL_law_520 (by decide) (fun _ => ?_) (fun c => absurd hr c)
  exact hJ _ _ _ hS (lv_sub hl [0, 3] rfl)

set_option maxHeartbeats 4000000 in
set_option maxRecDepth 100000 in
theorem lc_9 {p : Program} {e : Env} {s : State} {m : MethodId} {below : List Frame} {meth : Method} {cd : Code} {Qz : State → Prop} (l : Launch) {b : Nat} {xs : Nat → Int32} {D : va_G} {ca : Nat → ClassId} {za hX hM : Nat → Nat} {cells slots : Nat} {H : Heap} {locs : List Loc} {ls : Array Slot} (hx : p.tables.exec = Jvm.exec) (hb : cd.code = code) (hml : cd.maxLocals = 4) (hown : s.vm.findClass R_law = some m.cls) (hts : ∀ w ∈ gwL, w.before #[Value.ref b] s = true) (hXs : va_X b 6 xs s s.heap) (hbl : b < s.heap.size) (hK : va_K D vwCl (tyX ca) s) (hZ : sgZ zcX za (fun q => s.heap.size ≤ q) s.heap.size s) (hhX : sgH 52 hX) (hhM : sgH 26 hM) (hAX : sgY (fun q => s.heap.size ≤ q) 52 hX s.heap.size) (hAM : sgY (fun q => s.heap.size ≤ q) 26 hM s.heap.size) (hdis : ∀ i j : Nat, i < 52 → j < 26 → hX i ≠ hM j) (hcl : cells ≤ room_1.cells ∧ slots ≤ room_1.slots) (hPX : va_P D vwCl (sgw 52 hX (eX ca hX) f0X L0 Q0) H) (hPM : va_P D vwCl (sgw 26 hM (eM ca hM) f0M L0 Q0) H) (hS : va_S (fun q => s.heap.size ≤ q) s.heap H locs) (hl : lv_has ls 4 [(0, .ref b), (1, .ref (hX 0)), (2, .ref (hM 0)), (3, .int 0)]) (hJ : ∀ (H : Heap) (locs : List Loc) (ls : Array Slot), va_S (fun q => s.heap.size ≤ q) s.heap H locs → lv_has ls 4 [(0, .ref b), (3, .int 0)] → W p l e room_1 s m #[Value.ref b] below meth cd H locs cells slots Qz (F0 m 1579 ls [])) : W p l e room_1 s m #[Value.ref b] below meth cd H locs cells slots Qz (F0 m 525 ls []) := by
  have hbA : ¬ (fun q => s.heap.size ≤ q) b := Nat.not_le.mpr hbl
  have hown : s.vm.findClass RL = some m.cls := hown
  refine lv_aload_n hx hb dL_law_525 rfl (lv_at hl 1 rfl) ?_
  refine lv_aload_n hx hb dL_law_526 rfl (lv_at hl 0 rfl) ?_
  refine lv_iload_n hx hb dL_law_527 rfl (lv_at hl 3 rfl) ?_
  refine lv_iconst (v := 1) hx hb dL_law_528 (by decide) ?_
  refine lv_iadd hx hb dL_law_529 ?_
  refine W.eq (g2 := F0 m 530 ls [.int 1, .ref b, .ref (hX 0)]) (by rw [show (0 + 1 : Int32) = 1 from by decide]) ?_
  refine va_sld hx hb hXs hbl hbA hS (i := 1) (vp_in_iff.mpr (by decide)) dL_law_530 ?_
  refine lv_aload_n hx hb dL_law_531 rfl (lv_at hl 0 rfl) ?_
  refine lv_iload_n hx hb dL_law_532 rfl (lv_at hl 3 rfl) ?_
  refine lv_iconst (v := 2) hx hb dL_law_533 (by decide) ?_
  refine lv_iadd hx hb dL_law_534 ?_
  refine W.eq (g2 := F0 m 535 ls [.int 2, .ref b, .int (xs (Int32.toNatClampNeg 1)), .ref (hX 0)]) (by rw [show (0 + 2 : Int32) = 2 from by decide]) ?_
  refine va_sld hx hb hXs hbl hbA hS (i := 2) (vp_in_iff.mpr (by decide)) dL_law_535 ?_
  refine lw_calli (va_runV (As := [.int (xs (Int32.toNatClampNeg 1)), .int (xs (Int32.toNatClampNeg 2))]) (rest := []) ⟨hx, hb, hml, hown, hts⟩ (cf_X11_middle l D ca za hX hhX ((xs (Int32.toNatClampNeg 1))) ((xs (Int32.toNatClampNeg 2))) H.size) (cwV 2 hts (gw_V (fun _ h => h) mw_549 mw_550 mw_551 mw_9 mw_548) rfl rfl rfl (by decide +kernel) ⟨Nat.le_of_ble_eq_true rfl, Nat.le_of_ble_eq_true rfl⟩) (sg_preV (ci := 11) (C := RX11) (T := TX11) (N := 10) hAX hK hPX hS hZ 0 (by decide) rfl rfl) rfl rfl hl.1 rfl (lv_room (Nat.le_of_ble_eq_true rfl)) dL_law_536 hcl) hAX hS (fun r1 H1 locs hqr1 hkr1 hzr1 hS => ?_)
  have hPM := lw_kept hPM hdis hkr1
  clear hPX
  obtain ⟨H, hHe⟩ : ∃ z, z = H1 := ⟨_, rfl⟩
  rw [← hHe] at hS hPM
  rw [← hHe]
  refine lv_aload_n hx hb dL_law_539 rfl (lv_at hl 2 rfl) ?_
  refine lv_aload_n hx hb dL_law_540 rfl (lv_at hl 0 rfl) ?_
  refine lv_iload_n hx hb dL_law_541 rfl (lv_at hl 3 rfl) ?_
  refine lv_iconst (v := 1) hx hb dL_law_542 (by decide) ?_
  refine lv_iadd hx hb dL_law_543 ?_
  refine W.eq (g2 := F0 m 544 ls [.int 1, .ref b, .ref (hM 0), .int r1]) (by rw [show (0 + 1 : Int32) = 1 from by decide]) ?_
  refine va_sld hx hb hXs hbl hbA hS (i := 1) (vp_in_iff.mpr (by decide)) dL_law_544 ?_
  refine lv_aload_n hx hb dL_law_545 rfl (lv_at hl 0 rfl) ?_
  refine lv_iload_n hx hb dL_law_546 rfl (lv_at hl 3 rfl) ?_
  refine lv_iconst (v := 2) hx hb dL_law_547 (by decide) ?_
  refine lv_iadd hx hb dL_law_548 ?_
  refine W.eq (g2 := F0 m 549 ls [.int 2, .ref b, .int (xs (Int32.toNatClampNeg 1)), .ref (hM 0), .int r1]) (by rw [show (0 + 2 : Int32) = 2 from by decide]) ?_
  refine va_sld hx hb hXs hbl hbA hS (i := 2) (vp_in_iff.mpr (by decide)) dL_law_549 ?_
  refine lw_calli (va_runV (As := [.int (xs (Int32.toNatClampNeg 1)), .int (xs (Int32.toNatClampNeg 2))]) (rest := [.int r1]) ⟨hx, hb, hml, hown, hts⟩ (cf_X12_middle l D ca za hM hhM ((xs (Int32.toNatClampNeg 1))) ((xs (Int32.toNatClampNeg 2))) H.size) (cwV 2 hts (gw_V (fun _ h => h) mw_553 mw_554 mw_555 mw_217 mw_552) rfl rfl rfl (by decide +kernel) ⟨Nat.le_of_ble_eq_true rfl, Nat.le_of_ble_eq_true rfl⟩) (sg_preV (ci := 12) (C := RX12) (T := TX12) (N := 55) hAM hK hPM hS (show sgZ zcM za (fun q => s.heap.size ≤ q) s.heap.size s from fun i q h => by simp [zcM] at h) 0 (by decide) rfl rfl) rfl rfl hl.1 rfl (lv_room (Nat.le_of_ble_eq_true rfl)) dL_law_550 hcl) hAM hS (fun r2 H1 locs hqr2 hkr2 hzr2 hS => ?_)
  obtain ⟨H, hHe⟩ : ∃ z, z = H1 := ⟨_, rfl⟩
  rw [← hHe] at hS
  rw [← hHe]
  obtain ⟨f1, L1, Q1, -, h1⟩ := hqr1
  obtain ⟨f2, L2, Q2, -, h2⟩ := hqr2
  have hr : r1 = r2 := by
    rcases h1 with ⟨rfl, h8⟩ | ⟨rfl, h8⟩ <;> rcases h2 with ⟨rfl, h9⟩ | ⟨rfl, h9⟩ <;> first | rfl | (exfalso; omega) | exact Int32.toInt_inj.mp (by have k1 : (0 : Int32).toInt = 0 := (by decide); have k2 : (-1 : Int32).toInt = -1 := (by decide); have k3 : (-2 : Int32).toInt = -2 := (by decide); omega)
  refine lv_icmp_eq (tgt := 1579) hx hb dL_law_553 (by decide) (fun _ => ?_) (fun c => absurd hr c)
  exact hJ _ _ _ hS (lv_sub hl [0, 3] rfl)

set_option maxHeartbeats 4000000 in
set_option maxRecDepth 100000 in
theorem lc_10 {p : Program} {e : Env} {s : State} {m : MethodId} {below : List Frame} {meth : Method} {cd : Code} {Qz : State → Prop} (l : Launch) {b : Nat} {xs : Nat → Int32} {D : va_G} {ca : Nat → ClassId} {za hX hM : Nat → Nat} {cells slots : Nat} {H : Heap} {locs : List Loc} {ls : Array Slot} (hx : p.tables.exec = Jvm.exec) (hb : cd.code = code) (hml : cd.maxLocals = 4) (hown : s.vm.findClass R_law = some m.cls) (hts : ∀ w ∈ gwL, w.before #[Value.ref b] s = true) (hXs : va_X b 6 xs s s.heap) (hbl : b < s.heap.size) (hK : va_K D vwCl (tyX ca) s) (hZ : sgZ zcX za (fun q => s.heap.size ≤ q) s.heap.size s) (hhX : sgH 52 hX) (hhM : sgH 26 hM) (hAX : sgY (fun q => s.heap.size ≤ q) 52 hX s.heap.size) (hAM : sgY (fun q => s.heap.size ≤ q) 26 hM s.heap.size) (hdis : ∀ i j : Nat, i < 52 → j < 26 → hX i ≠ hM j) (hcl : cells ≤ room_1.cells ∧ slots ≤ room_1.slots) (hPX : va_P D vwCl (sgw 52 hX (eX ca hX) f0X L0 Q0) H) (hPM : va_P D vwCl (sgw 26 hM (eM ca hM) f0M L0 Q0) H) (hS : va_S (fun q => s.heap.size ≤ q) s.heap H locs) (hl : lv_has ls 4 [(0, .ref b), (1, .ref (hX 0)), (2, .ref (hM 0)), (3, .int 0)]) (hJ : ∀ (H : Heap) (locs : List Loc) (ls : Array Slot), va_S (fun q => s.heap.size ≤ q) s.heap H locs → lv_has ls 4 [(0, .ref b), (3, .int 0)] → W p l e room_1 s m #[Value.ref b] below meth cd H locs cells slots Qz (F0 m 1579 ls [])) : W p l e room_1 s m #[Value.ref b] below meth cd H locs cells slots Qz (F0 m 558 ls []) := by
  have hbA : ¬ (fun q => s.heap.size ≤ q) b := Nat.not_le.mpr hbl
  have hown : s.vm.findClass RL = some m.cls := hown
  refine lv_aload_n hx hb dL_law_558 rfl (lv_at hl 1 rfl) ?_
  refine lv_aload_n hx hb dL_law_559 rfl (lv_at hl 0 rfl) ?_
  refine lv_iload_n hx hb dL_law_560 rfl (lv_at hl 3 rfl) ?_
  refine lv_iconst (v := 1) hx hb dL_law_561 (by decide) ?_
  refine lv_iadd hx hb dL_law_562 ?_
  refine W.eq (g2 := F0 m 563 ls [.int 1, .ref b, .ref (hX 0)]) (by rw [show (0 + 1 : Int32) = 1 from by decide]) ?_
  refine va_sld hx hb hXs hbl hbA hS (i := 1) (vp_in_iff.mpr (by decide)) dL_law_563 ?_
  refine lv_aload_n hx hb dL_law_564 rfl (lv_at hl 0 rfl) ?_
  refine lv_iload_n hx hb dL_law_565 rfl (lv_at hl 3 rfl) ?_
  refine lv_iconst (v := 2) hx hb dL_law_566 (by decide) ?_
  refine lv_iadd hx hb dL_law_567 ?_
  refine W.eq (g2 := F0 m 568 ls [.int 2, .ref b, .int (xs (Int32.toNatClampNeg 1)), .ref (hX 0)]) (by rw [show (0 + 2 : Int32) = 2 from by decide]) ?_
  refine va_sld hx hb hXs hbl hbA hS (i := 2) (vp_in_iff.mpr (by decide)) dL_law_568 ?_
  refine lv_aload_n hx hb dL_law_569 rfl (lv_at hl 0 rfl) ?_
  refine lv_iload_n hx hb dL_law_570 rfl (lv_at hl 3 rfl) ?_
  refine lv_iconst (v := 3) hx hb dL_law_571 (by decide) ?_
  refine lv_iadd hx hb dL_law_572 ?_
  refine W.eq (g2 := F0 m 573 ls [.int 3, .ref b, .int (xs (Int32.toNatClampNeg 2)), .int (xs (Int32.toNatClampNeg 1)), .ref (hX 0)]) (by rw [show (0 + 3 : Int32) = 3 from by decide]) ?_
  refine va_sld hx hb hXs hbl hbA hS (i := 3) (vp_in_iff.mpr (by decide)) dL_law_573 ?_
  refine lw_calli (va_runV (As := [.int (xs (Int32.toNatClampNeg 1)), .int (xs (Int32.toNatClampNeg 2)), .int (xs (Int32.toNatClampNeg 3))]) (rest := []) ⟨hx, hb, hml, hown, hts⟩ (cf_X11_shifts l D ca za hX hhX ((xs (Int32.toNatClampNeg 1))) ((xs (Int32.toNatClampNeg 2))) ((xs (Int32.toNatClampNeg 3))) H.size) (cwV 3 hts (gw_V (fun _ h => h) mw_557 mw_558 mw_559 mw_9 mw_556) rfl rfl rfl (by decide +kernel) ⟨Nat.le_of_ble_eq_true rfl, Nat.le_of_ble_eq_true rfl⟩) (sg_preV (ci := 11) (C := RX11) (T := TX11) (N := 10) hAX hK hPX hS hZ 0 (by decide) rfl rfl) rfl rfl hl.1 rfl (lv_room (Nat.le_of_ble_eq_true rfl)) dL_law_574 hcl) hAX hS (fun r1 H1 locs hqr1 hkr1 hzr1 hS => ?_)
  have hPM := lw_kept hPM hdis hkr1
  clear hPX
  obtain ⟨H, hHe⟩ : ∃ z, z = H1 := ⟨_, rfl⟩
  rw [← hHe] at hS hPM
  rw [← hHe]
  refine lv_aload_n hx hb dL_law_577 rfl (lv_at hl 2 rfl) ?_
  refine lv_aload_n hx hb dL_law_578 rfl (lv_at hl 0 rfl) ?_
  refine lv_iload_n hx hb dL_law_579 rfl (lv_at hl 3 rfl) ?_
  refine lv_iconst (v := 1) hx hb dL_law_580 (by decide) ?_
  refine lv_iadd hx hb dL_law_581 ?_
  refine W.eq (g2 := F0 m 582 ls [.int 1, .ref b, .ref (hM 0), .int r1]) (by rw [show (0 + 1 : Int32) = 1 from by decide]) ?_
  refine va_sld hx hb hXs hbl hbA hS (i := 1) (vp_in_iff.mpr (by decide)) dL_law_582 ?_
  refine lv_aload_n hx hb dL_law_583 rfl (lv_at hl 0 rfl) ?_
  refine lv_iload_n hx hb dL_law_584 rfl (lv_at hl 3 rfl) ?_
  refine lv_iconst (v := 2) hx hb dL_law_585 (by decide) ?_
  refine lv_iadd hx hb dL_law_586 ?_
  refine W.eq (g2 := F0 m 587 ls [.int 2, .ref b, .int (xs (Int32.toNatClampNeg 1)), .ref (hM 0), .int r1]) (by rw [show (0 + 2 : Int32) = 2 from by decide]) ?_
  refine va_sld hx hb hXs hbl hbA hS (i := 2) (vp_in_iff.mpr (by decide)) dL_law_587 ?_
  refine lv_aload_n hx hb dL_law_588 rfl (lv_at hl 0 rfl) ?_
  refine lv_iload_n hx hb dL_law_589 rfl (lv_at hl 3 rfl) ?_
  refine lv_iconst (v := 3) hx hb dL_law_590 (by decide) ?_
  refine lv_iadd hx hb dL_law_591 ?_
  refine W.eq (g2 := F0 m 592 ls [.int 3, .ref b, .int (xs (Int32.toNatClampNeg 2)), .int (xs (Int32.toNatClampNeg 1)), .ref (hM 0), .int r1]) (by rw [show (0 + 3 : Int32) = 3 from by decide]) ?_
  refine va_sld hx hb hXs hbl hbA hS (i := 3) (vp_in_iff.mpr (by decide)) dL_law_592 ?_
  refine lw_calli (va_runV (As := [.int (xs (Int32.toNatClampNeg 1)), .int (xs (Int32.toNatClampNeg 2)), .int (xs (Int32.toNatClampNeg 3))]) (rest := [.int r1]) ⟨hx, hb, hml, hown, hts⟩ (cf_X12_shifts l D ca za hM hhM ((xs (Int32.toNatClampNeg 1))) ((xs (Int32.toNatClampNeg 2))) ((xs (Int32.toNatClampNeg 3))) H.size) (cwV 3 hts (gw_V (fun _ h => h) mw_561 mw_562 mw_563 mw_217 mw_560) rfl rfl rfl (by decide +kernel) ⟨Nat.le_of_ble_eq_true rfl, Nat.le_of_ble_eq_true rfl⟩) (sg_preV (ci := 12) (C := RX12) (T := TX12) (N := 55) hAM hK hPM hS (show sgZ zcM za (fun q => s.heap.size ≤ q) s.heap.size s from fun i q h => by simp [zcM] at h) 0 (by decide) rfl rfl) rfl rfl hl.1 rfl (lv_room (Nat.le_of_ble_eq_true rfl)) dL_law_593 hcl) hAM hS (fun r2 H1 locs hqr2 hkr2 hzr2 hS => ?_)
  obtain ⟨H, hHe⟩ : ∃ z, z = H1 := ⟨_, rfl⟩
  rw [← hHe] at hS
  rw [← hHe]
  obtain ⟨f1, L1, Q1, -, h1⟩ := hqr1
  obtain ⟨f2, L2, Q2, -, h2⟩ := hqr2
  have hr : r1 = r2 := by
    rcases h1 with ⟨rfl, h8⟩ | ⟨rfl, h8⟩ <;> rcases h2 with ⟨rfl, h9⟩ | ⟨rfl, h9⟩ <;> first | rfl | (exfalso; omega) | exact Int32.toInt_inj.mp (by have k1 : (0 : Int32).toInt = 0 := (by decide); have k2 : (-1 : Int32).toInt = -1 := (by decide); have k3 : (-2 : Int32).toInt = -2 := (by decide); omega)
  refine lv_icmp_eq (tgt := 1579) hx hb dL_law_596 (by decide) (fun _ => ?_) (fun c => absurd hr c)
  exact hJ _ _ _ hS (lv_sub hl [0, 3] rfl)

set_option maxHeartbeats 4000000 in
set_option maxRecDepth 100000 in
theorem lc_11 {p : Program} {e : Env} {s : State} {m : MethodId} {below : List Frame} {meth : Method} {cd : Code} {Qz : State → Prop} (l : Launch) {b : Nat} {xs : Nat → Int32} {D : va_G} {ca : Nat → ClassId} {za hX hM : Nat → Nat} {cells slots : Nat} {H : Heap} {locs : List Loc} {ls : Array Slot} (hx : p.tables.exec = Jvm.exec) (hb : cd.code = code) (hml : cd.maxLocals = 4) (hown : s.vm.findClass R_law = some m.cls) (hts : ∀ w ∈ gwL, w.before #[Value.ref b] s = true) (hXs : va_X b 6 xs s s.heap) (hbl : b < s.heap.size) (hK : va_K D vwCl (tyX ca) s) (hZ : sgZ zcX za (fun q => s.heap.size ≤ q) s.heap.size s) (hhX : sgH 52 hX) (hhM : sgH 26 hM) (hAX : sgY (fun q => s.heap.size ≤ q) 52 hX s.heap.size) (hAM : sgY (fun q => s.heap.size ≤ q) 26 hM s.heap.size) (hdis : ∀ i j : Nat, i < 52 → j < 26 → hX i ≠ hM j) (hcl : cells ≤ room_1.cells ∧ slots ≤ room_1.slots) (hPX : va_P D vwCl (sgw 52 hX (eX ca hX) f0X L0 Q0) H) (hPM : va_P D vwCl (sgw 26 hM (eM ca hM) f0M L0 Q0) H) (hS : va_S (fun q => s.heap.size ≤ q) s.heap H locs) (hl : lv_has ls 4 [(0, .ref b), (1, .ref (hX 0)), (2, .ref (hM 0)), (3, .int 0)]) (hJ : ∀ (H : Heap) (locs : List Loc) (ls : Array Slot), va_S (fun q => s.heap.size ≤ q) s.heap H locs → lv_has ls 4 [(0, .ref b), (3, .int 0)] → W p l e room_1 s m #[Value.ref b] below meth cd H locs cells slots Qz (F0 m 1579 ls [])) : W p l e room_1 s m #[Value.ref b] below meth cd H locs cells slots Qz (F0 m 601 ls []) := by
  have hbA : ¬ (fun q => s.heap.size ≤ q) b := Nat.not_le.mpr hbl
  have hown : s.vm.findClass RL = some m.cls := hown
  refine lv_aload_n hx hb dL_law_601 rfl (lv_at hl 1 rfl) ?_
  refine lv_aload_n hx hb dL_law_602 rfl (lv_at hl 0 rfl) ?_
  refine lv_iload_n hx hb dL_law_603 rfl (lv_at hl 3 rfl) ?_
  refine lv_iconst (v := 1) hx hb dL_law_604 (by decide) ?_
  refine lv_iadd hx hb dL_law_605 ?_
  refine W.eq (g2 := F0 m 606 ls [.int 1, .ref b, .ref (hX 0)]) (by rw [show (0 + 1 : Int32) = 1 from by decide]) ?_
  refine va_sld hx hb hXs hbl hbA hS (i := 1) (vp_in_iff.mpr (by decide)) dL_law_606 ?_
  refine lv_aload_n hx hb dL_law_607 rfl (lv_at hl 0 rfl) ?_
  refine lv_iload_n hx hb dL_law_608 rfl (lv_at hl 3 rfl) ?_
  refine lv_iconst (v := 2) hx hb dL_law_609 (by decide) ?_
  refine lv_iadd hx hb dL_law_610 ?_
  refine W.eq (g2 := F0 m 611 ls [.int 2, .ref b, .int (xs (Int32.toNatClampNeg 1)), .ref (hX 0)]) (by rw [show (0 + 2 : Int32) = 2 from by decide]) ?_
  refine va_sld hx hb hXs hbl hbA hS (i := 2) (vp_in_iff.mpr (by decide)) dL_law_611 ?_
  refine lv_aload_n hx hb dL_law_612 rfl (lv_at hl 0 rfl) ?_
  refine lv_iload_n hx hb dL_law_613 rfl (lv_at hl 3 rfl) ?_
  refine lv_iconst (v := 3) hx hb dL_law_614 (by decide) ?_
  refine lv_iadd hx hb dL_law_615 ?_
  refine W.eq (g2 := F0 m 616 ls [.int 3, .ref b, .int (xs (Int32.toNatClampNeg 2)), .int (xs (Int32.toNatClampNeg 1)), .ref (hX 0)]) (by rw [show (0 + 3 : Int32) = 3 from by decide]) ?_
  refine va_sld hx hb hXs hbl hbA hS (i := 3) (vp_in_iff.mpr (by decide)) dL_law_616 ?_
  refine lw_calli (va_runV (As := [.int (xs (Int32.toNatClampNeg 1)), .int (xs (Int32.toNatClampNeg 2)), .int (xs (Int32.toNatClampNeg 3))]) (rest := []) ⟨hx, hb, hml, hown, hts⟩ (cf_X11_once l D ca za hX hhX ((xs (Int32.toNatClampNeg 1))) ((xs (Int32.toNatClampNeg 2))) ((xs (Int32.toNatClampNeg 3))) H.size) (cwV 3 hts (gw_V (fun _ h => h) mw_565 mw_566 mw_567 mw_9 mw_564) rfl rfl rfl (by decide +kernel) ⟨Nat.le_of_ble_eq_true rfl, Nat.le_of_ble_eq_true rfl⟩) (sg_preV (ci := 11) (C := RX11) (T := TX11) (N := 10) hAX hK hPX hS hZ 0 (by decide) rfl rfl) rfl rfl hl.1 rfl (lv_room (Nat.le_of_ble_eq_true rfl)) dL_law_617 hcl) hAX hS (fun r1 H1 locs hqr1 hkr1 hzr1 hS => ?_)
  have hPM := lw_kept hPM hdis hkr1
  clear hPX
  obtain ⟨H, hHe⟩ : ∃ z, z = H1 := ⟨_, rfl⟩
  rw [← hHe] at hS hPM
  rw [← hHe]
  refine lv_aload_n hx hb dL_law_620 rfl (lv_at hl 2 rfl) ?_
  refine lv_aload_n hx hb dL_law_621 rfl (lv_at hl 0 rfl) ?_
  refine lv_iload_n hx hb dL_law_622 rfl (lv_at hl 3 rfl) ?_
  refine lv_iconst (v := 1) hx hb dL_law_623 (by decide) ?_
  refine lv_iadd hx hb dL_law_624 ?_
  refine W.eq (g2 := F0 m 625 ls [.int 1, .ref b, .ref (hM 0), .int r1]) (by rw [show (0 + 1 : Int32) = 1 from by decide]) ?_
  refine va_sld hx hb hXs hbl hbA hS (i := 1) (vp_in_iff.mpr (by decide)) dL_law_625 ?_
  refine lv_aload_n hx hb dL_law_626 rfl (lv_at hl 0 rfl) ?_
  refine lv_iload_n hx hb dL_law_627 rfl (lv_at hl 3 rfl) ?_
  refine lv_iconst (v := 2) hx hb dL_law_628 (by decide) ?_
  refine lv_iadd hx hb dL_law_629 ?_
  refine W.eq (g2 := F0 m 630 ls [.int 2, .ref b, .int (xs (Int32.toNatClampNeg 1)), .ref (hM 0), .int r1]) (by rw [show (0 + 2 : Int32) = 2 from by decide]) ?_
  refine va_sld hx hb hXs hbl hbA hS (i := 2) (vp_in_iff.mpr (by decide)) dL_law_630 ?_
  refine lv_aload_n hx hb dL_law_631 rfl (lv_at hl 0 rfl) ?_
  refine lv_iload_n hx hb dL_law_632 rfl (lv_at hl 3 rfl) ?_
  refine lv_iconst (v := 3) hx hb dL_law_633 (by decide) ?_
  refine lv_iadd hx hb dL_law_634 ?_
  refine W.eq (g2 := F0 m 635 ls [.int 3, .ref b, .int (xs (Int32.toNatClampNeg 2)), .int (xs (Int32.toNatClampNeg 1)), .ref (hM 0), .int r1]) (by rw [show (0 + 3 : Int32) = 3 from by decide]) ?_
  refine va_sld hx hb hXs hbl hbA hS (i := 3) (vp_in_iff.mpr (by decide)) dL_law_635 ?_
  refine lw_calli (va_runV (As := [.int (xs (Int32.toNatClampNeg 1)), .int (xs (Int32.toNatClampNeg 2)), .int (xs (Int32.toNatClampNeg 3))]) (rest := [.int r1]) ⟨hx, hb, hml, hown, hts⟩ (cf_X12_once l D ca za hM hhM ((xs (Int32.toNatClampNeg 1))) ((xs (Int32.toNatClampNeg 2))) ((xs (Int32.toNatClampNeg 3))) H.size) (cwV 3 hts (gw_V (fun _ h => h) mw_569 mw_570 mw_571 mw_217 mw_568) rfl rfl rfl (by decide +kernel) ⟨Nat.le_of_ble_eq_true rfl, Nat.le_of_ble_eq_true rfl⟩) (sg_preV (ci := 12) (C := RX12) (T := TX12) (N := 55) hAM hK hPM hS (show sgZ zcM za (fun q => s.heap.size ≤ q) s.heap.size s from fun i q h => by simp [zcM] at h) 0 (by decide) rfl rfl) rfl rfl hl.1 rfl (lv_room (Nat.le_of_ble_eq_true rfl)) dL_law_636 hcl) hAM hS (fun r2 H1 locs hqr2 hkr2 hzr2 hS => ?_)
  obtain ⟨H, hHe⟩ : ∃ z, z = H1 := ⟨_, rfl⟩
  rw [← hHe] at hS
  rw [← hHe]
  obtain ⟨f1, L1, Q1, -, h1⟩ := hqr1
  obtain ⟨f2, L2, Q2, -, h2⟩ := hqr2
  have hr : r1 = r2 := by
    rcases h1 with ⟨rfl, h8⟩ | ⟨rfl, h8⟩ <;> rcases h2 with ⟨rfl, h9⟩ | ⟨rfl, h9⟩ <;> first | rfl | (exfalso; omega) | exact Int32.toInt_inj.mp (by have k1 : (0 : Int32).toInt = 0 := (by decide); have k2 : (-1 : Int32).toInt = -1 := (by decide); have k3 : (-2 : Int32).toInt = -2 := (by decide); omega)
  refine lv_icmp_eq (tgt := 1579) hx hb dL_law_639 (by decide) (fun _ => ?_) (fun c => absurd hr c)
  exact hJ _ _ _ hS (lv_sub hl [0, 3] rfl)

set_option maxHeartbeats 4000000 in
set_option maxRecDepth 100000 in
theorem lc_12 {p : Program} {e : Env} {s : State} {m : MethodId} {below : List Frame} {meth : Method} {cd : Code} {Qz : State → Prop} (l : Launch) {b : Nat} {xs : Nat → Int32} {D : va_G} {ca : Nat → ClassId} {za hX hM : Nat → Nat} {cells slots : Nat} {H : Heap} {locs : List Loc} {ls : Array Slot} (hx : p.tables.exec = Jvm.exec) (hb : cd.code = code) (hml : cd.maxLocals = 4) (hown : s.vm.findClass R_law = some m.cls) (hts : ∀ w ∈ gwL, w.before #[Value.ref b] s = true) (hXs : va_X b 6 xs s s.heap) (hbl : b < s.heap.size) (hK : va_K D vwCl (tyX ca) s) (hZ : sgZ zcX za (fun q => s.heap.size ≤ q) s.heap.size s) (hhX : sgH 52 hX) (hhM : sgH 26 hM) (hAX : sgY (fun q => s.heap.size ≤ q) 52 hX s.heap.size) (hAM : sgY (fun q => s.heap.size ≤ q) 26 hM s.heap.size) (hdis : ∀ i j : Nat, i < 52 → j < 26 → hX i ≠ hM j) (hcl : cells ≤ room_1.cells ∧ slots ≤ room_1.slots) (hPX : va_P D vwCl (sgw 52 hX (eX ca hX) f0X L0 Q0) H) (hPM : va_P D vwCl (sgw 26 hM (eM ca hM) f0M L0 Q0) H) (hS : va_S (fun q => s.heap.size ≤ q) s.heap H locs) (hl : lv_has ls 4 [(0, .ref b), (1, .ref (hX 0)), (2, .ref (hM 0)), (3, .int 0)]) (hJ : ∀ (H : Heap) (locs : List Loc) (ls : Array Slot), va_S (fun q => s.heap.size ≤ q) s.heap H locs → lv_has ls 4 [(0, .ref b), (3, .int 0)] → W p l e room_1 s m #[Value.ref b] below meth cd H locs cells slots Qz (F0 m 1579 ls [])) : W p l e room_1 s m #[Value.ref b] below meth cd H locs cells slots Qz (F0 m 644 ls []) := by
  have hbA : ¬ (fun q => s.heap.size ≤ q) b := Nat.not_le.mpr hbl
  have hown : s.vm.findClass RL = some m.cls := hown
  refine lv_aload_n hx hb dL_law_644 rfl (lv_at hl 1 rfl) ?_
  refine lv_aload_n hx hb dL_law_645 rfl (lv_at hl 0 rfl) ?_
  refine lv_iload_n hx hb dL_law_646 rfl (lv_at hl 3 rfl) ?_
  refine lv_iconst (v := 1) hx hb dL_law_647 (by decide) ?_
  refine lv_iadd hx hb dL_law_648 ?_
  refine W.eq (g2 := F0 m 649 ls [.int 1, .ref b, .ref (hX 0)]) (by rw [show (0 + 1 : Int32) = 1 from by decide]) ?_
  refine va_sld hx hb hXs hbl hbA hS (i := 1) (vp_in_iff.mpr (by decide)) dL_law_649 ?_
  refine lv_aload_n hx hb dL_law_650 rfl (lv_at hl 0 rfl) ?_
  refine lv_iload_n hx hb dL_law_651 rfl (lv_at hl 3 rfl) ?_
  refine lv_iconst (v := 2) hx hb dL_law_652 (by decide) ?_
  refine lv_iadd hx hb dL_law_653 ?_
  refine W.eq (g2 := F0 m 654 ls [.int 2, .ref b, .int (xs (Int32.toNatClampNeg 1)), .ref (hX 0)]) (by rw [show (0 + 2 : Int32) = 2 from by decide]) ?_
  refine va_sld hx hb hXs hbl hbA hS (i := 2) (vp_in_iff.mpr (by decide)) dL_law_654 ?_
  refine lw_calli (va_runV (As := [.int (xs (Int32.toNatClampNeg 1)), .int (xs (Int32.toNatClampNeg 2))]) (rest := []) ⟨hx, hb, hml, hown, hts⟩ (cf_X11_week l D ca za hX hhX ((xs (Int32.toNatClampNeg 1))) ((xs (Int32.toNatClampNeg 2))) H.size) (cwV 2 hts (gw_V (fun _ h => h) mw_573 mw_574 mw_575 mw_9 mw_572) rfl rfl rfl (by decide +kernel) ⟨Nat.le_of_ble_eq_true rfl, Nat.le_of_ble_eq_true rfl⟩) (sg_preV (ci := 11) (C := RX11) (T := TX11) (N := 10) hAX hK hPX hS hZ 0 (by decide) rfl rfl) rfl rfl hl.1 rfl (lv_room (Nat.le_of_ble_eq_true rfl)) dL_law_655 hcl) hAX hS (fun r1 H1 locs hqr1 hkr1 hzr1 hS => ?_)
  have hPM := lw_kept hPM hdis hkr1
  clear hPX
  obtain ⟨H, hHe⟩ : ∃ z, z = H1 := ⟨_, rfl⟩
  rw [← hHe] at hS hPM
  rw [← hHe]
  refine lv_aload_n hx hb dL_law_658 rfl (lv_at hl 2 rfl) ?_
  refine lv_aload_n hx hb dL_law_659 rfl (lv_at hl 0 rfl) ?_
  refine lv_iload_n hx hb dL_law_660 rfl (lv_at hl 3 rfl) ?_
  refine lv_iconst (v := 1) hx hb dL_law_661 (by decide) ?_
  refine lv_iadd hx hb dL_law_662 ?_
  refine W.eq (g2 := F0 m 663 ls [.int 1, .ref b, .ref (hM 0), .int r1]) (by rw [show (0 + 1 : Int32) = 1 from by decide]) ?_
  refine va_sld hx hb hXs hbl hbA hS (i := 1) (vp_in_iff.mpr (by decide)) dL_law_663 ?_
  refine lv_aload_n hx hb dL_law_664 rfl (lv_at hl 0 rfl) ?_
  refine lv_iload_n hx hb dL_law_665 rfl (lv_at hl 3 rfl) ?_
  refine lv_iconst (v := 2) hx hb dL_law_666 (by decide) ?_
  refine lv_iadd hx hb dL_law_667 ?_
  refine W.eq (g2 := F0 m 668 ls [.int 2, .ref b, .int (xs (Int32.toNatClampNeg 1)), .ref (hM 0), .int r1]) (by rw [show (0 + 2 : Int32) = 2 from by decide]) ?_
  refine va_sld hx hb hXs hbl hbA hS (i := 2) (vp_in_iff.mpr (by decide)) dL_law_668 ?_
  refine lw_calli (va_runV (As := [.int (xs (Int32.toNatClampNeg 1)), .int (xs (Int32.toNatClampNeg 2))]) (rest := [.int r1]) ⟨hx, hb, hml, hown, hts⟩ (cf_X12_week l D ca za hM hhM ((xs (Int32.toNatClampNeg 1))) ((xs (Int32.toNatClampNeg 2))) H.size) (cwV 2 hts (gw_V (fun _ h => h) mw_577 mw_578 mw_579 mw_217 mw_576) rfl rfl rfl (by decide +kernel) ⟨Nat.le_of_ble_eq_true rfl, Nat.le_of_ble_eq_true rfl⟩) (sg_preV (ci := 12) (C := RX12) (T := TX12) (N := 55) hAM hK hPM hS (show sgZ zcM za (fun q => s.heap.size ≤ q) s.heap.size s from fun i q h => by simp [zcM] at h) 0 (by decide) rfl rfl) rfl rfl hl.1 rfl (lv_room (Nat.le_of_ble_eq_true rfl)) dL_law_669 hcl) hAM hS (fun r2 H1 locs hqr2 hkr2 hzr2 hS => ?_)
  obtain ⟨H, hHe⟩ : ∃ z, z = H1 := ⟨_, rfl⟩
  rw [← hHe] at hS
  rw [← hHe]
  obtain ⟨f1, L1, Q1, -, h1⟩ := hqr1
  obtain ⟨f2, L2, Q2, -, h2⟩ := hqr2
  have hr : r1 = r2 := by
    rcases h1 with ⟨rfl, h8⟩ | ⟨rfl, h8⟩ <;> rcases h2 with ⟨rfl, h9⟩ | ⟨rfl, h9⟩ <;> first | rfl | (exfalso; omega) | exact Int32.toInt_inj.mp (by have k1 : (0 : Int32).toInt = 0 := (by decide); have k2 : (-1 : Int32).toInt = -1 := (by decide); have k3 : (-2 : Int32).toInt = -2 := (by decide); omega)
  refine lv_icmp_eq (tgt := 1579) hx hb dL_law_672 (by decide) (fun _ => ?_) (fun c => absurd hr c)
  exact hJ _ _ _ hS (lv_sub hl [0, 3] rfl)

set_option maxHeartbeats 4000000 in
set_option maxRecDepth 100000 in
theorem lc_13 {p : Program} {e : Env} {s : State} {m : MethodId} {below : List Frame} {meth : Method} {cd : Code} {Qz : State → Prop} (l : Launch) {b : Nat} {xs : Nat → Int32} {D : va_G} {ca : Nat → ClassId} {za hX hM : Nat → Nat} {cells slots : Nat} {H : Heap} {locs : List Loc} {ls : Array Slot} (hx : p.tables.exec = Jvm.exec) (hb : cd.code = code) (hml : cd.maxLocals = 4) (hown : s.vm.findClass R_law = some m.cls) (hts : ∀ w ∈ gwL, w.before #[Value.ref b] s = true) (hXs : va_X b 6 xs s s.heap) (hbl : b < s.heap.size) (hK : va_K D vwCl (tyX ca) s) (hZ : sgZ zcX za (fun q => s.heap.size ≤ q) s.heap.size s) (hhX : sgH 52 hX) (hhM : sgH 26 hM) (hAX : sgY (fun q => s.heap.size ≤ q) 52 hX s.heap.size) (hAM : sgY (fun q => s.heap.size ≤ q) 26 hM s.heap.size) (hdis : ∀ i j : Nat, i < 52 → j < 26 → hX i ≠ hM j) (hcl : cells ≤ room_1.cells ∧ slots ≤ room_1.slots) (hPX : va_P D vwCl (sgw 52 hX (eX ca hX) f0X L0 Q0) H) (hPM : va_P D vwCl (sgw 26 hM (eM ca hM) f0M L0 Q0) H) (hS : va_S (fun q => s.heap.size ≤ q) s.heap H locs) (hl : lv_has ls 4 [(0, .ref b), (1, .ref (hX 0)), (2, .ref (hM 0)), (3, .int 0)]) (hJ : ∀ (H : Heap) (locs : List Loc) (ls : Array Slot), va_S (fun q => s.heap.size ≤ q) s.heap H locs → lv_has ls 4 [(0, .ref b), (3, .int 0)] → W p l e room_1 s m #[Value.ref b] below meth cd H locs cells slots Qz (F0 m 1579 ls [])) : W p l e room_1 s m #[Value.ref b] below meth cd H locs cells slots Qz (F0 m 677 ls []) := by
  have hbA : ¬ (fun q => s.heap.size ≤ q) b := Nat.not_le.mpr hbl
  have hown : s.vm.findClass RL = some m.cls := hown
  refine lv_aload_n hx hb dL_law_677 rfl (lv_at hl 1 rfl) ?_
  refine lv_aload_n hx hb dL_law_678 rfl (lv_at hl 0 rfl) ?_
  refine lv_iload_n hx hb dL_law_679 rfl (lv_at hl 3 rfl) ?_
  refine lv_iconst (v := 1) hx hb dL_law_680 (by decide) ?_
  refine lv_iadd hx hb dL_law_681 ?_
  refine W.eq (g2 := F0 m 682 ls [.int 1, .ref b, .ref (hX 0)]) (by rw [show (0 + 1 : Int32) = 1 from by decide]) ?_
  refine va_sld hx hb hXs hbl hbA hS (i := 1) (vp_in_iff.mpr (by decide)) dL_law_682 ?_
  refine lv_aload_n hx hb dL_law_683 rfl (lv_at hl 0 rfl) ?_
  refine lv_iload_n hx hb dL_law_684 rfl (lv_at hl 3 rfl) ?_
  refine lv_iconst (v := 2) hx hb dL_law_685 (by decide) ?_
  refine lv_iadd hx hb dL_law_686 ?_
  refine W.eq (g2 := F0 m 687 ls [.int 2, .ref b, .int (xs (Int32.toNatClampNeg 1)), .ref (hX 0)]) (by rw [show (0 + 2 : Int32) = 2 from by decide]) ?_
  refine va_sld hx hb hXs hbl hbA hS (i := 2) (vp_in_iff.mpr (by decide)) dL_law_687 ?_
  refine lv_aload_n hx hb dL_law_688 rfl (lv_at hl 0 rfl) ?_
  refine lv_iload_n hx hb dL_law_689 rfl (lv_at hl 3 rfl) ?_
  refine lv_iconst (v := 3) hx hb dL_law_690 (by decide) ?_
  refine lv_iadd hx hb dL_law_691 ?_
  refine W.eq (g2 := F0 m 692 ls [.int 3, .ref b, .int (xs (Int32.toNatClampNeg 2)), .int (xs (Int32.toNatClampNeg 1)), .ref (hX 0)]) (by rw [show (0 + 3 : Int32) = 3 from by decide]) ?_
  refine va_sld hx hb hXs hbl hbA hS (i := 3) (vp_in_iff.mpr (by decide)) dL_law_692 ?_
  refine lw_calli (va_runV (As := [.int (xs (Int32.toNatClampNeg 1)), .int (xs (Int32.toNatClampNeg 2)), .int (xs (Int32.toNatClampNeg 3))]) (rest := []) ⟨hx, hb, hml, hown, hts⟩ (cf_X11_stands l D ca za hX hhX ((xs (Int32.toNatClampNeg 1))) ((xs (Int32.toNatClampNeg 2))) ((xs (Int32.toNatClampNeg 3))) H.size) (cwV 3 hts (gw_V (fun _ h => h) mw_581 mw_582 mw_583 mw_9 mw_580) rfl rfl rfl (by decide +kernel) ⟨Nat.le_of_ble_eq_true rfl, Nat.le_of_ble_eq_true rfl⟩) (sg_preV (ci := 11) (C := RX11) (T := TX11) (N := 10) hAX hK hPX hS hZ 0 (by decide) rfl rfl) rfl rfl hl.1 rfl (lv_room (Nat.le_of_ble_eq_true rfl)) dL_law_693 hcl) hAX hS (fun r1 H1 locs hqr1 hkr1 hzr1 hS => ?_)
  have hPM := lw_kept hPM hdis hkr1
  clear hPX
  obtain ⟨H, hHe⟩ : ∃ z, z = H1 := ⟨_, rfl⟩
  rw [← hHe] at hS hPM
  rw [← hHe]
  refine lv_aload_n hx hb dL_law_696 rfl (lv_at hl 2 rfl) ?_
  refine lv_aload_n hx hb dL_law_697 rfl (lv_at hl 0 rfl) ?_
  refine lv_iload_n hx hb dL_law_698 rfl (lv_at hl 3 rfl) ?_
  refine lv_iconst (v := 1) hx hb dL_law_699 (by decide) ?_
  refine lv_iadd hx hb dL_law_700 ?_
  refine W.eq (g2 := F0 m 701 ls [.int 1, .ref b, .ref (hM 0), .int r1]) (by rw [show (0 + 1 : Int32) = 1 from by decide]) ?_
  refine va_sld hx hb hXs hbl hbA hS (i := 1) (vp_in_iff.mpr (by decide)) dL_law_701 ?_
  refine lv_aload_n hx hb dL_law_702 rfl (lv_at hl 0 rfl) ?_
  refine lv_iload_n hx hb dL_law_703 rfl (lv_at hl 3 rfl) ?_
  refine lv_iconst (v := 2) hx hb dL_law_704 (by decide) ?_
  refine lv_iadd hx hb dL_law_705 ?_
  refine W.eq (g2 := F0 m 706 ls [.int 2, .ref b, .int (xs (Int32.toNatClampNeg 1)), .ref (hM 0), .int r1]) (by rw [show (0 + 2 : Int32) = 2 from by decide]) ?_
  refine va_sld hx hb hXs hbl hbA hS (i := 2) (vp_in_iff.mpr (by decide)) dL_law_706 ?_
  refine lv_aload_n hx hb dL_law_707 rfl (lv_at hl 0 rfl) ?_
  refine lv_iload_n hx hb dL_law_708 rfl (lv_at hl 3 rfl) ?_
  refine lv_iconst (v := 3) hx hb dL_law_709 (by decide) ?_
  refine lv_iadd hx hb dL_law_710 ?_
  refine W.eq (g2 := F0 m 711 ls [.int 3, .ref b, .int (xs (Int32.toNatClampNeg 2)), .int (xs (Int32.toNatClampNeg 1)), .ref (hM 0), .int r1]) (by rw [show (0 + 3 : Int32) = 3 from by decide]) ?_
  refine va_sld hx hb hXs hbl hbA hS (i := 3) (vp_in_iff.mpr (by decide)) dL_law_711 ?_
  refine lw_calli (va_runV (As := [.int (xs (Int32.toNatClampNeg 1)), .int (xs (Int32.toNatClampNeg 2)), .int (xs (Int32.toNatClampNeg 3))]) (rest := [.int r1]) ⟨hx, hb, hml, hown, hts⟩ (cf_X12_stands l D ca za hM hhM ((xs (Int32.toNatClampNeg 1))) ((xs (Int32.toNatClampNeg 2))) ((xs (Int32.toNatClampNeg 3))) H.size) (cwV 3 hts (gw_V (fun _ h => h) mw_585 mw_586 mw_587 mw_217 mw_584) rfl rfl rfl (by decide +kernel) ⟨Nat.le_of_ble_eq_true rfl, Nat.le_of_ble_eq_true rfl⟩) (sg_preV (ci := 12) (C := RX12) (T := TX12) (N := 55) hAM hK hPM hS (show sgZ zcM za (fun q => s.heap.size ≤ q) s.heap.size s from fun i q h => by simp [zcM] at h) 0 (by decide) rfl rfl) rfl rfl hl.1 rfl (lv_room (Nat.le_of_ble_eq_true rfl)) dL_law_712 hcl) hAM hS (fun r2 H1 locs hqr2 hkr2 hzr2 hS => ?_)
  obtain ⟨H, hHe⟩ : ∃ z, z = H1 := ⟨_, rfl⟩
  rw [← hHe] at hS
  rw [← hHe]
  obtain ⟨f1, L1, Q1, -, h1⟩ := hqr1
  obtain ⟨f2, L2, Q2, -, h2⟩ := hqr2
  have hr : r1 = r2 := by
    rcases h1 with ⟨rfl, h8⟩ | ⟨rfl, h8⟩ <;> rcases h2 with ⟨rfl, h9⟩ | ⟨rfl, h9⟩ <;> first | rfl | (exfalso; omega) | exact Int32.toInt_inj.mp (by have k1 : (0 : Int32).toInt = 0 := (by decide); have k2 : (-1 : Int32).toInt = -1 := (by decide); have k3 : (-2 : Int32).toInt = -2 := (by decide); omega)
  refine lv_icmp_eq (tgt := 1579) hx hb dL_law_715 (by decide) (fun _ => ?_) (fun c => absurd hr c)
  exact hJ _ _ _ hS (lv_sub hl [0, 3] rfl)

set_option maxHeartbeats 4000000 in
set_option maxRecDepth 100000 in
theorem lc_14 {p : Program} {e : Env} {s : State} {m : MethodId} {below : List Frame} {meth : Method} {cd : Code} {Qz : State → Prop} (l : Launch) {b : Nat} {xs : Nat → Int32} {D : va_G} {ca : Nat → ClassId} {za hX hM : Nat → Nat} {cells slots : Nat} {H : Heap} {locs : List Loc} {ls : Array Slot} (hx : p.tables.exec = Jvm.exec) (hb : cd.code = code) (hml : cd.maxLocals = 4) (hown : s.vm.findClass R_law = some m.cls) (hts : ∀ w ∈ gwL, w.before #[Value.ref b] s = true) (hXs : va_X b 6 xs s s.heap) (hbl : b < s.heap.size) (hK : va_K D vwCl (tyX ca) s) (hZ : sgZ zcX za (fun q => s.heap.size ≤ q) s.heap.size s) (hhX : sgH 52 hX) (hhM : sgH 26 hM) (hAX : sgY (fun q => s.heap.size ≤ q) 52 hX s.heap.size) (hAM : sgY (fun q => s.heap.size ≤ q) 26 hM s.heap.size) (hdis : ∀ i j : Nat, i < 52 → j < 26 → hX i ≠ hM j) (hcl : cells ≤ room_1.cells ∧ slots ≤ room_1.slots) (hPX : va_P D vwCl (sgw 52 hX (eX ca hX) f0X L0 Q0) H) (hPM : va_P D vwCl (sgw 26 hM (eM ca hM) f0M L0 Q0) H) (hS : va_S (fun q => s.heap.size ≤ q) s.heap H locs) (hl : lv_has ls 4 [(0, .ref b), (1, .ref (hX 0)), (2, .ref (hM 0)), (3, .int 0)]) (hJ : ∀ (H : Heap) (locs : List Loc) (ls : Array Slot), va_S (fun q => s.heap.size ≤ q) s.heap H locs → lv_has ls 4 [(0, .ref b), (3, .int 0)] → W p l e room_1 s m #[Value.ref b] below meth cd H locs cells slots Qz (F0 m 1579 ls [])) : W p l e room_1 s m #[Value.ref b] below meth cd H locs cells slots Qz (F0 m 720 ls []) := by
  have hbA : ¬ (fun q => s.heap.size ≤ q) b := Nat.not_le.mpr hbl
  have hown : s.vm.findClass RL = some m.cls := hown
  refine lv_aload_n hx hb dL_law_720 rfl (lv_at hl 1 rfl) ?_
  refine lv_aload_n hx hb dL_law_721 rfl (lv_at hl 0 rfl) ?_
  refine lv_iload_n hx hb dL_law_722 rfl (lv_at hl 3 rfl) ?_
  refine lv_iconst (v := 1) hx hb dL_law_723 (by decide) ?_
  refine lv_iadd hx hb dL_law_724 ?_
  refine W.eq (g2 := F0 m 725 ls [.int 1, .ref b, .ref (hX 0)]) (by rw [show (0 + 1 : Int32) = 1 from by decide]) ?_
  refine va_sld hx hb hXs hbl hbA hS (i := 1) (vp_in_iff.mpr (by decide)) dL_law_725 ?_
  refine lv_aload_n hx hb dL_law_726 rfl (lv_at hl 0 rfl) ?_
  refine lv_iload_n hx hb dL_law_727 rfl (lv_at hl 3 rfl) ?_
  refine lv_iconst (v := 2) hx hb dL_law_728 (by decide) ?_
  refine lv_iadd hx hb dL_law_729 ?_
  refine W.eq (g2 := F0 m 730 ls [.int 2, .ref b, .int (xs (Int32.toNatClampNeg 1)), .ref (hX 0)]) (by rw [show (0 + 2 : Int32) = 2 from by decide]) ?_
  refine va_sld hx hb hXs hbl hbA hS (i := 2) (vp_in_iff.mpr (by decide)) dL_law_730 ?_
  refine lv_aload_n hx hb dL_law_731 rfl (lv_at hl 0 rfl) ?_
  refine lv_iload_n hx hb dL_law_732 rfl (lv_at hl 3 rfl) ?_
  refine lv_iconst (v := 3) hx hb dL_law_733 (by decide) ?_
  refine lv_iadd hx hb dL_law_734 ?_
  refine W.eq (g2 := F0 m 735 ls [.int 3, .ref b, .int (xs (Int32.toNatClampNeg 2)), .int (xs (Int32.toNatClampNeg 1)), .ref (hX 0)]) (by rw [show (0 + 3 : Int32) = 3 from by decide]) ?_
  refine va_sld hx hb hXs hbl hbA hS (i := 3) (vp_in_iff.mpr (by decide)) dL_law_735 ?_
  refine lw_calli (va_runV (As := [.int (xs (Int32.toNatClampNeg 1)), .int (xs (Int32.toNatClampNeg 2)), .int (xs (Int32.toNatClampNeg 3))]) (rest := []) ⟨hx, hb, hml, hown, hts⟩ (cf_X11_pays l D ca za hX hhX ((xs (Int32.toNatClampNeg 1))) ((xs (Int32.toNatClampNeg 2))) ((xs (Int32.toNatClampNeg 3))) H.size) (cwV 3 hts (gw_V (fun _ h => h) mw_589 mw_590 mw_591 mw_9 mw_588) rfl rfl rfl (by decide +kernel) ⟨Nat.le_of_ble_eq_true rfl, Nat.le_of_ble_eq_true rfl⟩) (sg_preV (ci := 11) (C := RX11) (T := TX11) (N := 10) hAX hK hPX hS hZ 0 (by decide) rfl rfl) rfl rfl hl.1 rfl (lv_room (Nat.le_of_ble_eq_true rfl)) dL_law_736 hcl) hAX hS (fun r1 H1 locs hqr1 hkr1 hzr1 hS => ?_)
  have hPM := lw_kept hPM hdis hkr1
  clear hPX
  obtain ⟨H, hHe⟩ : ∃ z, z = H1 := ⟨_, rfl⟩
  rw [← hHe] at hS hPM
  rw [← hHe]
  refine lv_aload_n hx hb dL_law_739 rfl (lv_at hl 2 rfl) ?_
  refine lv_aload_n hx hb dL_law_740 rfl (lv_at hl 0 rfl) ?_
  refine lv_iload_n hx hb dL_law_741 rfl (lv_at hl 3 rfl) ?_
  refine lv_iconst (v := 1) hx hb dL_law_742 (by decide) ?_
  refine lv_iadd hx hb dL_law_743 ?_
  refine W.eq (g2 := F0 m 744 ls [.int 1, .ref b, .ref (hM 0), .int r1]) (by rw [show (0 + 1 : Int32) = 1 from by decide]) ?_
  refine va_sld hx hb hXs hbl hbA hS (i := 1) (vp_in_iff.mpr (by decide)) dL_law_744 ?_
  refine lv_aload_n hx hb dL_law_745 rfl (lv_at hl 0 rfl) ?_
  refine lv_iload_n hx hb dL_law_746 rfl (lv_at hl 3 rfl) ?_
  refine lv_iconst (v := 2) hx hb dL_law_747 (by decide) ?_
  refine lv_iadd hx hb dL_law_748 ?_
  refine W.eq (g2 := F0 m 749 ls [.int 2, .ref b, .int (xs (Int32.toNatClampNeg 1)), .ref (hM 0), .int r1]) (by rw [show (0 + 2 : Int32) = 2 from by decide]) ?_
  refine va_sld hx hb hXs hbl hbA hS (i := 2) (vp_in_iff.mpr (by decide)) dL_law_749 ?_
  refine lv_aload_n hx hb dL_law_750 rfl (lv_at hl 0 rfl) ?_
  refine lv_iload_n hx hb dL_law_751 rfl (lv_at hl 3 rfl) ?_
  refine lv_iconst (v := 3) hx hb dL_law_752 (by decide) ?_
  refine lv_iadd hx hb dL_law_753 ?_
  refine W.eq (g2 := F0 m 754 ls [.int 3, .ref b, .int (xs (Int32.toNatClampNeg 2)), .int (xs (Int32.toNatClampNeg 1)), .ref (hM 0), .int r1]) (by rw [show (0 + 3 : Int32) = 3 from by decide]) ?_
  refine va_sld hx hb hXs hbl hbA hS (i := 3) (vp_in_iff.mpr (by decide)) dL_law_754 ?_
  refine lw_calli (va_runV (As := [.int (xs (Int32.toNatClampNeg 1)), .int (xs (Int32.toNatClampNeg 2)), .int (xs (Int32.toNatClampNeg 3))]) (rest := [.int r1]) ⟨hx, hb, hml, hown, hts⟩ (cf_X12_pays l D ca za hM hhM ((xs (Int32.toNatClampNeg 1))) ((xs (Int32.toNatClampNeg 2))) ((xs (Int32.toNatClampNeg 3))) H.size) (cwV 3 hts (gw_V (fun _ h => h) mw_593 mw_594 mw_595 mw_217 mw_592) rfl rfl rfl (by decide +kernel) ⟨Nat.le_of_ble_eq_true rfl, Nat.le_of_ble_eq_true rfl⟩) (sg_preV (ci := 12) (C := RX12) (T := TX12) (N := 55) hAM hK hPM hS (show sgZ zcM za (fun q => s.heap.size ≤ q) s.heap.size s from fun i q h => by simp [zcM] at h) 0 (by decide) rfl rfl) rfl rfl hl.1 rfl (lv_room (Nat.le_of_ble_eq_true rfl)) dL_law_755 hcl) hAM hS (fun r2 H1 locs hqr2 hkr2 hzr2 hS => ?_)
  obtain ⟨H, hHe⟩ : ∃ z, z = H1 := ⟨_, rfl⟩
  rw [← hHe] at hS
  rw [← hHe]
  obtain ⟨f1, L1, Q1, -, h1⟩ := hqr1
  obtain ⟨f2, L2, Q2, -, h2⟩ := hqr2
  have hr : r1 = r2 := by
    rcases h1 with ⟨rfl, h8⟩ <;> rcases h2 with ⟨rfl, h9⟩ <;> first | rfl | (exfalso; omega) | exact Int32.toInt_inj.mp (by have k1 : (0 : Int32).toInt = 0 := (by decide); have k2 : (-1 : Int32).toInt = -1 := (by decide); have k3 : (-2 : Int32).toInt = -2 := (by decide); omega)
  refine lv_icmp_eq (tgt := 1579) hx hb dL_law_758 (by decide) (fun _ => ?_) (fun c => absurd hr c)
  exact hJ _ _ _ hS (lv_sub hl [0, 3] rfl)

set_option maxHeartbeats 4000000 in
set_option maxRecDepth 100000 in
theorem lc_15 {p : Program} {e : Env} {s : State} {m : MethodId} {below : List Frame} {meth : Method} {cd : Code} {Qz : State → Prop} (l : Launch) {b : Nat} {xs : Nat → Int32} {D : va_G} {ca : Nat → ClassId} {za hX hM : Nat → Nat} {cells slots : Nat} {H : Heap} {locs : List Loc} {ls : Array Slot} (hx : p.tables.exec = Jvm.exec) (hb : cd.code = code) (hml : cd.maxLocals = 4) (hown : s.vm.findClass R_law = some m.cls) (hts : ∀ w ∈ gwL, w.before #[Value.ref b] s = true) (hXs : va_X b 6 xs s s.heap) (hbl : b < s.heap.size) (hK : va_K D vwCl (tyX ca) s) (hZ : sgZ zcX za (fun q => s.heap.size ≤ q) s.heap.size s) (hhX : sgH 52 hX) (hhM : sgH 26 hM) (hAX : sgY (fun q => s.heap.size ≤ q) 52 hX s.heap.size) (hAM : sgY (fun q => s.heap.size ≤ q) 26 hM s.heap.size) (hdis : ∀ i j : Nat, i < 52 → j < 26 → hX i ≠ hM j) (hcl : cells ≤ room_1.cells ∧ slots ≤ room_1.slots) (hPX : va_P D vwCl (sgw 52 hX (eX ca hX) f0X L0 Q0) H) (hPM : va_P D vwCl (sgw 26 hM (eM ca hM) f0M L0 Q0) H) (hS : va_S (fun q => s.heap.size ≤ q) s.heap H locs) (hl : lv_has ls 4 [(0, .ref b), (1, .ref (hX 0)), (2, .ref (hM 0)), (3, .int 0)]) (hJ : ∀ (H : Heap) (locs : List Loc) (ls : Array Slot), va_S (fun q => s.heap.size ≤ q) s.heap H locs → lv_has ls 4 [(0, .ref b), (3, .int 0)] → W p l e room_1 s m #[Value.ref b] below meth cd H locs cells slots Qz (F0 m 1579 ls [])) : W p l e room_1 s m #[Value.ref b] below meth cd H locs cells slots Qz (F0 m 763 ls []) := by
  have hbA : ¬ (fun q => s.heap.size ≤ q) b := Nat.not_le.mpr hbl
  have hown : s.vm.findClass RL = some m.cls := hown
  refine lv_aload_n hx hb dL_law_763 rfl (lv_at hl 1 rfl) ?_
  refine lv_aload_n hx hb dL_law_764 rfl (lv_at hl 0 rfl) ?_
  refine lv_iload_n hx hb dL_law_765 rfl (lv_at hl 3 rfl) ?_
  refine lv_iconst (v := 1) hx hb dL_law_766 (by decide) ?_
  refine lv_iadd hx hb dL_law_767 ?_
  refine W.eq (g2 := F0 m 768 ls [.int 1, .ref b, .ref (hX 0)]) (by rw [show (0 + 1 : Int32) = 1 from by decide]) ?_
  refine va_sld hx hb hXs hbl hbA hS (i := 1) (vp_in_iff.mpr (by decide)) dL_law_768 ?_
  refine lv_aload_n hx hb dL_law_769 rfl (lv_at hl 0 rfl) ?_
  refine lv_iload_n hx hb dL_law_770 rfl (lv_at hl 3 rfl) ?_
  refine lv_iconst (v := 2) hx hb dL_law_771 (by decide) ?_
  refine lv_iadd hx hb dL_law_772 ?_
  refine W.eq (g2 := F0 m 773 ls [.int 2, .ref b, .int (xs (Int32.toNatClampNeg 1)), .ref (hX 0)]) (by rw [show (0 + 2 : Int32) = 2 from by decide]) ?_
  refine va_sld hx hb hXs hbl hbA hS (i := 2) (vp_in_iff.mpr (by decide)) dL_law_773 ?_
  refine lv_aload_n hx hb dL_law_774 rfl (lv_at hl 0 rfl) ?_
  refine lv_iload_n hx hb dL_law_775 rfl (lv_at hl 3 rfl) ?_
  refine lv_iconst (v := 3) hx hb dL_law_776 (by decide) ?_
  refine lv_iadd hx hb dL_law_777 ?_
  refine W.eq (g2 := F0 m 778 ls [.int 3, .ref b, .int (xs (Int32.toNatClampNeg 2)), .int (xs (Int32.toNatClampNeg 1)), .ref (hX 0)]) (by rw [show (0 + 3 : Int32) = 3 from by decide]) ?_
  refine va_sld hx hb hXs hbl hbA hS (i := 3) (vp_in_iff.mpr (by decide)) dL_law_778 ?_
  refine lw_calli (va_runV (As := [.int (xs (Int32.toNatClampNeg 1)), .int (xs (Int32.toNatClampNeg 2)), .int (xs (Int32.toNatClampNeg 3))]) (rest := []) ⟨hx, hb, hml, hown, hts⟩ (cf_X11_memories l D ca za hX hhX ((xs (Int32.toNatClampNeg 1))) ((xs (Int32.toNatClampNeg 2))) ((xs (Int32.toNatClampNeg 3))) H.size) (cwV 3 hts (gw_V (fun _ h => h) mw_597 mw_598 mw_599 mw_9 mw_596) rfl rfl rfl (by decide +kernel) ⟨Nat.le_of_ble_eq_true rfl, Nat.le_of_ble_eq_true rfl⟩) (sg_preV (ci := 11) (C := RX11) (T := TX11) (N := 10) hAX hK hPX hS hZ 0 (by decide) rfl rfl) rfl rfl hl.1 rfl (lv_room (Nat.le_of_ble_eq_true rfl)) dL_law_779 hcl) hAX hS (fun r1 H1 locs hqr1 hkr1 hzr1 hS => ?_)
  have hPM := lw_kept hPM hdis hkr1
  clear hPX
  obtain ⟨H, hHe⟩ : ∃ z, z = H1 := ⟨_, rfl⟩
  rw [← hHe] at hS hPM
  rw [← hHe]
  refine lv_aload_n hx hb dL_law_782 rfl (lv_at hl 2 rfl) ?_
  refine lv_aload_n hx hb dL_law_783 rfl (lv_at hl 0 rfl) ?_
  refine lv_iload_n hx hb dL_law_784 rfl (lv_at hl 3 rfl) ?_
  refine lv_iconst (v := 1) hx hb dL_law_785 (by decide) ?_
  refine lv_iadd hx hb dL_law_786 ?_
  refine W.eq (g2 := F0 m 787 ls [.int 1, .ref b, .ref (hM 0), .int r1]) (by rw [show (0 + 1 : Int32) = 1 from by decide]) ?_
  refine va_sld hx hb hXs hbl hbA hS (i := 1) (vp_in_iff.mpr (by decide)) dL_law_787 ?_
  refine lv_aload_n hx hb dL_law_788 rfl (lv_at hl 0 rfl) ?_
  refine lv_iload_n hx hb dL_law_789 rfl (lv_at hl 3 rfl) ?_
  refine lv_iconst (v := 2) hx hb dL_law_790 (by decide) ?_
  refine lv_iadd hx hb dL_law_791 ?_
  refine W.eq (g2 := F0 m 792 ls [.int 2, .ref b, .int (xs (Int32.toNatClampNeg 1)), .ref (hM 0), .int r1]) (by rw [show (0 + 2 : Int32) = 2 from by decide]) ?_
  refine va_sld hx hb hXs hbl hbA hS (i := 2) (vp_in_iff.mpr (by decide)) dL_law_792 ?_
  refine lv_aload_n hx hb dL_law_793 rfl (lv_at hl 0 rfl) ?_
  refine lv_iload_n hx hb dL_law_794 rfl (lv_at hl 3 rfl) ?_
  refine lv_iconst (v := 3) hx hb dL_law_795 (by decide) ?_
  refine lv_iadd hx hb dL_law_796 ?_
  refine W.eq (g2 := F0 m 797 ls [.int 3, .ref b, .int (xs (Int32.toNatClampNeg 2)), .int (xs (Int32.toNatClampNeg 1)), .ref (hM 0), .int r1]) (by rw [show (0 + 3 : Int32) = 3 from by decide]) ?_
  refine va_sld hx hb hXs hbl hbA hS (i := 3) (vp_in_iff.mpr (by decide)) dL_law_797 ?_
  refine lw_calli (va_runV (As := [.int (xs (Int32.toNatClampNeg 1)), .int (xs (Int32.toNatClampNeg 2)), .int (xs (Int32.toNatClampNeg 3))]) (rest := [.int r1]) ⟨hx, hb, hml, hown, hts⟩ (cf_X12_memories l D ca za hM hhM ((xs (Int32.toNatClampNeg 1))) ((xs (Int32.toNatClampNeg 2))) ((xs (Int32.toNatClampNeg 3))) H.size) (cwV 3 hts (gw_V (fun _ h => h) mw_601 mw_602 mw_603 mw_217 mw_600) rfl rfl rfl (by decide +kernel) ⟨Nat.le_of_ble_eq_true rfl, Nat.le_of_ble_eq_true rfl⟩) (sg_preV (ci := 12) (C := RX12) (T := TX12) (N := 55) hAM hK hPM hS (show sgZ zcM za (fun q => s.heap.size ≤ q) s.heap.size s from fun i q h => by simp [zcM] at h) 0 (by decide) rfl rfl) rfl rfl hl.1 rfl (lv_room (Nat.le_of_ble_eq_true rfl)) dL_law_798 hcl) hAM hS (fun r2 H1 locs hqr2 hkr2 hzr2 hS => ?_)
  obtain ⟨H, hHe⟩ : ∃ z, z = H1 := ⟨_, rfl⟩
  rw [← hHe] at hS
  rw [← hHe]
  obtain ⟨f1, L1, Q1, -, h1⟩ := hqr1
  obtain ⟨f2, L2, Q2, -, h2⟩ := hqr2
  have hr : r1 = r2 := by
    rcases h1 with ⟨rfl, h8⟩ | ⟨rfl, h8⟩ <;> rcases h2 with ⟨rfl, h9⟩ | ⟨rfl, h9⟩ <;> first | rfl | (exfalso; omega) | exact Int32.toInt_inj.mp (by have k1 : (0 : Int32).toInt = 0 := (by decide); have k2 : (-1 : Int32).toInt = -1 := (by decide); have k3 : (-2 : Int32).toInt = -2 := (by decide); omega)
  refine lv_icmp_eq (tgt := 1579) hx hb dL_law_801 (by decide) (fun _ => ?_) (fun c => absurd hr c)
  exact hJ _ _ _ hS (lv_sub hl [0, 3] rfl)

set_option maxHeartbeats 4000000 in
set_option maxRecDepth 100000 in
theorem lc_16 {p : Program} {e : Env} {s : State} {m : MethodId} {below : List Frame} {meth : Method} {cd : Code} {Qz : State → Prop} (l : Launch) {b : Nat} {xs : Nat → Int32} {D : va_G} {ca : Nat → ClassId} {za hX hM : Nat → Nat} {cells slots : Nat} {H : Heap} {locs : List Loc} {ls : Array Slot} (hx : p.tables.exec = Jvm.exec) (hb : cd.code = code) (hml : cd.maxLocals = 4) (hown : s.vm.findClass R_law = some m.cls) (hts : ∀ w ∈ gwL, w.before #[Value.ref b] s = true) (hXs : va_X b 6 xs s s.heap) (hbl : b < s.heap.size) (hK : va_K D vwCl (tyX ca) s) (hZ : sgZ zcX za (fun q => s.heap.size ≤ q) s.heap.size s) (hhX : sgH 52 hX) (hhM : sgH 26 hM) (hAX : sgY (fun q => s.heap.size ≤ q) 52 hX s.heap.size) (hAM : sgY (fun q => s.heap.size ≤ q) 26 hM s.heap.size) (hdis : ∀ i j : Nat, i < 52 → j < 26 → hX i ≠ hM j) (hcl : cells ≤ room_1.cells ∧ slots ≤ room_1.slots) (hPX : va_P D vwCl (sgw 52 hX (eX ca hX) f0X L0 Q0) H) (hPM : va_P D vwCl (sgw 26 hM (eM ca hM) f0M L0 Q0) H) (hS : va_S (fun q => s.heap.size ≤ q) s.heap H locs) (hl : lv_has ls 4 [(0, .ref b), (1, .ref (hX 0)), (2, .ref (hM 0)), (3, .int 0)]) (hJ : ∀ (H : Heap) (locs : List Loc) (ls : Array Slot), va_S (fun q => s.heap.size ≤ q) s.heap H locs → lv_has ls 4 [(0, .ref b), (3, .int 0)] → W p l e room_1 s m #[Value.ref b] below meth cd H locs cells slots Qz (F0 m 1579 ls [])) : W p l e room_1 s m #[Value.ref b] below meth cd H locs cells slots Qz (F0 m 806 ls []) := by
  have hbA : ¬ (fun q => s.heap.size ≤ q) b := Nat.not_le.mpr hbl
  have hown : s.vm.findClass RL = some m.cls := hown
  refine lv_aload_n hx hb dL_law_806 rfl (lv_at hl 1 rfl) ?_
  refine lv_aload_n hx hb dL_law_807 rfl (lv_at hl 0 rfl) ?_
  refine lv_iload_n hx hb dL_law_808 rfl (lv_at hl 3 rfl) ?_
  refine lv_iconst (v := 1) hx hb dL_law_809 (by decide) ?_
  refine lv_iadd hx hb dL_law_810 ?_
  refine W.eq (g2 := F0 m 811 ls [.int 1, .ref b, .ref (hX 0)]) (by rw [show (0 + 1 : Int32) = 1 from by decide]) ?_
  refine va_sld hx hb hXs hbl hbA hS (i := 1) (vp_in_iff.mpr (by decide)) dL_law_811 ?_
  refine lw_calli (va_runV (As := [.int (xs (Int32.toNatClampNeg 1))]) (rest := []) ⟨hx, hb, hml, hown, hts⟩ (cf_X11_marked l D ca za hX hhX ((xs (Int32.toNatClampNeg 1))) H.size) (cwV 1 hts (gw_V (fun _ h => h) mw_605 mw_606 mw_607 mw_9 mw_604) rfl rfl rfl (by decide +kernel) ⟨Nat.le_of_ble_eq_true rfl, Nat.le_of_ble_eq_true rfl⟩) (sg_preV (ci := 11) (C := RX11) (T := TX11) (N := 10) hAX hK hPX hS hZ 0 (by decide) rfl rfl) rfl rfl hl.1 rfl (lv_room (Nat.le_of_ble_eq_true rfl)) dL_law_812 hcl) hAX hS (fun r1 H1 locs hqr1 hkr1 hzr1 hS => ?_)
  have hPM := lw_kept hPM hdis hkr1
  clear hPX
  obtain ⟨H, hHe⟩ : ∃ z, z = H1 := ⟨_, rfl⟩
  rw [← hHe] at hS hPM
  rw [← hHe]
  refine lv_aload_n hx hb dL_law_815 rfl (lv_at hl 2 rfl) ?_
  refine lv_aload_n hx hb dL_law_816 rfl (lv_at hl 0 rfl) ?_
  refine lv_iload_n hx hb dL_law_817 rfl (lv_at hl 3 rfl) ?_
  refine lv_iconst (v := 1) hx hb dL_law_818 (by decide) ?_
  refine lv_iadd hx hb dL_law_819 ?_
  refine W.eq (g2 := F0 m 820 ls [.int 1, .ref b, .ref (hM 0), .int r1]) (by rw [show (0 + 1 : Int32) = 1 from by decide]) ?_
  refine va_sld hx hb hXs hbl hbA hS (i := 1) (vp_in_iff.mpr (by decide)) dL_law_820 ?_
  refine lw_calli (va_runV (As := [.int (xs (Int32.toNatClampNeg 1))]) (rest := [.int r1]) ⟨hx, hb, hml, hown, hts⟩ (cf_X12_marked l D ca za hM hhM ((xs (Int32.toNatClampNeg 1))) H.size) (cwV 1 hts (gw_V (fun _ h => h) mw_609 mw_610 mw_611 mw_217 mw_608) rfl rfl rfl (by decide +kernel) ⟨Nat.le_of_ble_eq_true rfl, Nat.le_of_ble_eq_true rfl⟩) (sg_preV (ci := 12) (C := RX12) (T := TX12) (N := 55) hAM hK hPM hS (show sgZ zcM za (fun q => s.heap.size ≤ q) s.heap.size s from fun i q h => by simp [zcM] at h) 0 (by decide) rfl rfl) rfl rfl hl.1 rfl (lv_room (Nat.le_of_ble_eq_true rfl)) dL_law_821 hcl) hAM hS (fun r2 H1 locs hqr2 hkr2 hzr2 hS => ?_)
  obtain ⟨H, hHe⟩ : ∃ z, z = H1 := ⟨_, rfl⟩
  rw [← hHe] at hS
  rw [← hHe]
  obtain ⟨f1, L1, Q1, -, h1⟩ := hqr1
  obtain ⟨f2, L2, Q2, -, h2⟩ := hqr2
  have hr : r1 = r2 := by
    rcases h1 with ⟨rfl, h8⟩ | ⟨rfl, h8⟩ <;> rcases h2 with ⟨rfl, h9⟩ | ⟨rfl, h9⟩ <;> first | rfl | (exfalso; omega) | exact Int32.toInt_inj.mp (by have k1 : (0 : Int32).toInt = 0 := (by decide); have k2 : (-1 : Int32).toInt = -1 := (by decide); have k3 : (-2 : Int32).toInt = -2 := (by decide); omega)
  refine lv_icmp_eq (tgt := 1579) hx hb dL_law_824 (by decide) (fun _ => ?_) (fun c => absurd hr c)
  exact hJ _ _ _ hS (lv_sub hl [0, 3] rfl)

set_option maxHeartbeats 4000000 in
set_option maxRecDepth 100000 in
theorem lc_17 {p : Program} {e : Env} {s : State} {m : MethodId} {below : List Frame} {meth : Method} {cd : Code} {Qz : State → Prop} (l : Launch) {b : Nat} {xs : Nat → Int32} {D : va_G} {ca : Nat → ClassId} {za hX hM : Nat → Nat} {cells slots : Nat} {H : Heap} {locs : List Loc} {ls : Array Slot} (hx : p.tables.exec = Jvm.exec) (hb : cd.code = code) (hml : cd.maxLocals = 4) (hown : s.vm.findClass R_law = some m.cls) (hts : ∀ w ∈ gwL, w.before #[Value.ref b] s = true) (hXs : va_X b 6 xs s s.heap) (hbl : b < s.heap.size) (hK : va_K D vwCl (tyX ca) s) (hZ : sgZ zcX za (fun q => s.heap.size ≤ q) s.heap.size s) (hhX : sgH 52 hX) (hhM : sgH 26 hM) (hAX : sgY (fun q => s.heap.size ≤ q) 52 hX s.heap.size) (hAM : sgY (fun q => s.heap.size ≤ q) 26 hM s.heap.size) (hdis : ∀ i j : Nat, i < 52 → j < 26 → hX i ≠ hM j) (hcl : cells ≤ room_1.cells ∧ slots ≤ room_1.slots) (hPX : va_P D vwCl (sgw 52 hX (eX ca hX) f0X L0 Q0) H) (hPM : va_P D vwCl (sgw 26 hM (eM ca hM) f0M L0 Q0) H) (hS : va_S (fun q => s.heap.size ≤ q) s.heap H locs) (hl : lv_has ls 4 [(0, .ref b), (1, .ref (hX 0)), (2, .ref (hM 0)), (3, .int 0)]) (hJ : ∀ (H : Heap) (locs : List Loc) (ls : Array Slot), va_S (fun q => s.heap.size ≤ q) s.heap H locs → lv_has ls 4 [(0, .ref b), (3, .int 0)] → W p l e room_1 s m #[Value.ref b] below meth cd H locs cells slots Qz (F0 m 1579 ls [])) : W p l e room_1 s m #[Value.ref b] below meth cd H locs cells slots Qz (F0 m 829 ls []) := by
  have hbA : ¬ (fun q => s.heap.size ≤ q) b := Nat.not_le.mpr hbl
  have hown : s.vm.findClass RL = some m.cls := hown
  refine lv_aload_n hx hb dL_law_829 rfl (lv_at hl 1 rfl) ?_
  refine lv_aload_n hx hb dL_law_830 rfl (lv_at hl 0 rfl) ?_
  refine lv_iload_n hx hb dL_law_831 rfl (lv_at hl 3 rfl) ?_
  refine lv_iconst (v := 1) hx hb dL_law_832 (by decide) ?_
  refine lv_iadd hx hb dL_law_833 ?_
  refine W.eq (g2 := F0 m 834 ls [.int 1, .ref b, .ref (hX 0)]) (by rw [show (0 + 1 : Int32) = 1 from by decide]) ?_
  refine va_sld hx hb hXs hbl hbA hS (i := 1) (vp_in_iff.mpr (by decide)) dL_law_834 ?_
  refine lv_aload_n hx hb dL_law_835 rfl (lv_at hl 0 rfl) ?_
  refine lv_iload_n hx hb dL_law_836 rfl (lv_at hl 3 rfl) ?_
  refine lv_iconst (v := 2) hx hb dL_law_837 (by decide) ?_
  refine lv_iadd hx hb dL_law_838 ?_
  refine W.eq (g2 := F0 m 839 ls [.int 2, .ref b, .int (xs (Int32.toNatClampNeg 1)), .ref (hX 0)]) (by rw [show (0 + 2 : Int32) = 2 from by decide]) ?_
  refine va_sld hx hb hXs hbl hbA hS (i := 2) (vp_in_iff.mpr (by decide)) dL_law_839 ?_
  refine lv_aload_n hx hb dL_law_840 rfl (lv_at hl 0 rfl) ?_
  refine lv_iload_n hx hb dL_law_841 rfl (lv_at hl 3 rfl) ?_
  refine lv_iconst (v := 3) hx hb dL_law_842 (by decide) ?_
  refine lv_iadd hx hb dL_law_843 ?_
  refine W.eq (g2 := F0 m 844 ls [.int 3, .ref b, .int (xs (Int32.toNatClampNeg 2)), .int (xs (Int32.toNatClampNeg 1)), .ref (hX 0)]) (by rw [show (0 + 3 : Int32) = 3 from by decide]) ?_
  refine va_sld hx hb hXs hbl hbA hS (i := 3) (vp_in_iff.mpr (by decide)) dL_law_844 ?_
  refine lw_calli (va_runV (As := [.int (xs (Int32.toNatClampNeg 1)), .int (xs (Int32.toNatClampNeg 2)), .int (xs (Int32.toNatClampNeg 3))]) (rest := []) ⟨hx, hb, hml, hown, hts⟩ (cf_X11_chairs l D ca za hX hhX ((xs (Int32.toNatClampNeg 1))) ((xs (Int32.toNatClampNeg 2))) ((xs (Int32.toNatClampNeg 3))) H.size) (cwV 3 hts (gw_V (fun _ h => h) mw_613 mw_614 mw_615 mw_9 mw_612) rfl rfl rfl (by decide +kernel) ⟨Nat.le_of_ble_eq_true rfl, Nat.le_of_ble_eq_true rfl⟩) (sg_preV (ci := 11) (C := RX11) (T := TX11) (N := 10) hAX hK hPX hS hZ 0 (by decide) rfl rfl) rfl rfl hl.1 rfl (lv_room (Nat.le_of_ble_eq_true rfl)) dL_law_845 hcl) hAX hS (fun r1 H1 locs hqr1 hkr1 hzr1 hS => ?_)
  have hPM := lw_kept hPM hdis hkr1
  clear hPX
  obtain ⟨H, hHe⟩ : ∃ z, z = H1 := ⟨_, rfl⟩
  rw [← hHe] at hS hPM
  rw [← hHe]
  refine lv_aload_n hx hb dL_law_848 rfl (lv_at hl 2 rfl) ?_
  refine lv_aload_n hx hb dL_law_849 rfl (lv_at hl 0 rfl) ?_
  refine lv_iload_n hx hb dL_law_850 rfl (lv_at hl 3 rfl) ?_
  refine lv_iconst (v := 1) hx hb dL_law_851 (by decide) ?_
  refine lv_iadd hx hb dL_law_852 ?_
  refine W.eq (g2 := F0 m 853 ls [.int 1, .ref b, .ref (hM 0), .int r1]) (by rw [show (0 + 1 : Int32) = 1 from by decide]) ?_
  refine va_sld hx hb hXs hbl hbA hS (i := 1) (vp_in_iff.mpr (by decide)) dL_law_853 ?_
  refine lv_aload_n hx hb dL_law_854 rfl (lv_at hl 0 rfl) ?_
  refine lv_iload_n hx hb dL_law_855 rfl (lv_at hl 3 rfl) ?_
  refine lv_iconst (v := 2) hx hb dL_law_856 (by decide) ?_
  refine lv_iadd hx hb dL_law_857 ?_
  refine W.eq (g2 := F0 m 858 ls [.int 2, .ref b, .int (xs (Int32.toNatClampNeg 1)), .ref (hM 0), .int r1]) (by rw [show (0 + 2 : Int32) = 2 from by decide]) ?_
  refine va_sld hx hb hXs hbl hbA hS (i := 2) (vp_in_iff.mpr (by decide)) dL_law_858 ?_
  refine lv_aload_n hx hb dL_law_859 rfl (lv_at hl 0 rfl) ?_
  refine lv_iload_n hx hb dL_law_860 rfl (lv_at hl 3 rfl) ?_
  refine lv_iconst (v := 3) hx hb dL_law_861 (by decide) ?_
  refine lv_iadd hx hb dL_law_862 ?_
  refine W.eq (g2 := F0 m 863 ls [.int 3, .ref b, .int (xs (Int32.toNatClampNeg 2)), .int (xs (Int32.toNatClampNeg 1)), .ref (hM 0), .int r1]) (by rw [show (0 + 3 : Int32) = 3 from by decide]) ?_
  refine va_sld hx hb hXs hbl hbA hS (i := 3) (vp_in_iff.mpr (by decide)) dL_law_863 ?_
  refine lw_calli (va_runV (As := [.int (xs (Int32.toNatClampNeg 1)), .int (xs (Int32.toNatClampNeg 2)), .int (xs (Int32.toNatClampNeg 3))]) (rest := [.int r1]) ⟨hx, hb, hml, hown, hts⟩ (cf_X12_chairs l D ca za hM hhM ((xs (Int32.toNatClampNeg 1))) ((xs (Int32.toNatClampNeg 2))) ((xs (Int32.toNatClampNeg 3))) H.size) (cwV 3 hts (gw_V (fun _ h => h) mw_617 mw_618 mw_619 mw_217 mw_616) rfl rfl rfl (by decide +kernel) ⟨Nat.le_of_ble_eq_true rfl, Nat.le_of_ble_eq_true rfl⟩) (sg_preV (ci := 12) (C := RX12) (T := TX12) (N := 55) hAM hK hPM hS (show sgZ zcM za (fun q => s.heap.size ≤ q) s.heap.size s from fun i q h => by simp [zcM] at h) 0 (by decide) rfl rfl) rfl rfl hl.1 rfl (lv_room (Nat.le_of_ble_eq_true rfl)) dL_law_864 hcl) hAM hS (fun r2 H1 locs hqr2 hkr2 hzr2 hS => ?_)
  obtain ⟨H, hHe⟩ : ∃ z, z = H1 := ⟨_, rfl⟩
  rw [← hHe] at hS
  rw [← hHe]
  obtain ⟨f1, L1, Q1, -, h1⟩ := hqr1
  obtain ⟨f2, L2, Q2, -, h2⟩ := hqr2
  have hr : r1 = r2 := by
    rcases h1 with ⟨rfl, h8⟩ | ⟨rfl, h8⟩ <;> rcases h2 with ⟨rfl, h9⟩ | ⟨rfl, h9⟩ <;> first | rfl | (exfalso; omega) | exact Int32.toInt_inj.mp (by have k1 : (0 : Int32).toInt = 0 := (by decide); have k2 : (-1 : Int32).toInt = -1 := (by decide); have k3 : (-2 : Int32).toInt = -2 := (by decide); omega)
  refine lv_icmp_eq (tgt := 1579) hx hb dL_law_867 (by decide) (fun _ => ?_) (fun c => absurd hr c)
  exact hJ _ _ _ hS (lv_sub hl [0, 3] rfl)

set_option maxHeartbeats 4000000 in
set_option maxRecDepth 100000 in
theorem lc_18 {p : Program} {e : Env} {s : State} {m : MethodId} {below : List Frame} {meth : Method} {cd : Code} {Qz : State → Prop} (l : Launch) {b : Nat} {xs : Nat → Int32} {D : va_G} {ca : Nat → ClassId} {za hX hM : Nat → Nat} {cells slots : Nat} {H : Heap} {locs : List Loc} {ls : Array Slot} (hx : p.tables.exec = Jvm.exec) (hb : cd.code = code) (hml : cd.maxLocals = 4) (hown : s.vm.findClass R_law = some m.cls) (hts : ∀ w ∈ gwL, w.before #[Value.ref b] s = true) (hXs : va_X b 6 xs s s.heap) (hbl : b < s.heap.size) (hK : va_K D vwCl (tyX ca) s) (hZ : sgZ zcX za (fun q => s.heap.size ≤ q) s.heap.size s) (hhX : sgH 52 hX) (hhM : sgH 26 hM) (hAX : sgY (fun q => s.heap.size ≤ q) 52 hX s.heap.size) (hAM : sgY (fun q => s.heap.size ≤ q) 26 hM s.heap.size) (hdis : ∀ i j : Nat, i < 52 → j < 26 → hX i ≠ hM j) (hcl : cells ≤ room_1.cells ∧ slots ≤ room_1.slots) (hPX : va_P D vwCl (sgw 52 hX (eX ca hX) f0X L0 Q0) H) (hPM : va_P D vwCl (sgw 26 hM (eM ca hM) f0M L0 Q0) H) (hS : va_S (fun q => s.heap.size ≤ q) s.heap H locs) (hl : lv_has ls 4 [(0, .ref b), (1, .ref (hX 0)), (2, .ref (hM 0)), (3, .int 0)]) (hJ : ∀ (H : Heap) (locs : List Loc) (ls : Array Slot), va_S (fun q => s.heap.size ≤ q) s.heap H locs → lv_has ls 4 [(0, .ref b), (3, .int 0)] → W p l e room_1 s m #[Value.ref b] below meth cd H locs cells slots Qz (F0 m 1579 ls [])) : W p l e room_1 s m #[Value.ref b] below meth cd H locs cells slots Qz (F0 m 872 ls []) := by
  have hbA : ¬ (fun q => s.heap.size ≤ q) b := Nat.not_le.mpr hbl
  have hown : s.vm.findClass RL = some m.cls := hown
  refine lv_aload_n hx hb dL_law_872 rfl (lv_at hl 1 rfl) ?_
  refine lv_aload_n hx hb dL_law_873 rfl (lv_at hl 0 rfl) ?_
  refine lv_iload_n hx hb dL_law_874 rfl (lv_at hl 3 rfl) ?_
  refine lv_iconst (v := 1) hx hb dL_law_875 (by decide) ?_
  refine lv_iadd hx hb dL_law_876 ?_
  refine W.eq (g2 := F0 m 877 ls [.int 1, .ref b, .ref (hX 0)]) (by rw [show (0 + 1 : Int32) = 1 from by decide]) ?_
  refine va_sld hx hb hXs hbl hbA hS (i := 1) (vp_in_iff.mpr (by decide)) dL_law_877 ?_
  refine lv_aload_n hx hb dL_law_878 rfl (lv_at hl 0 rfl) ?_
  refine lv_iload_n hx hb dL_law_879 rfl (lv_at hl 3 rfl) ?_
  refine lv_iconst (v := 2) hx hb dL_law_880 (by decide) ?_
  refine lv_iadd hx hb dL_law_881 ?_
  refine W.eq (g2 := F0 m 882 ls [.int 2, .ref b, .int (xs (Int32.toNatClampNeg 1)), .ref (hX 0)]) (by rw [show (0 + 2 : Int32) = 2 from by decide]) ?_
  refine va_sld hx hb hXs hbl hbA hS (i := 2) (vp_in_iff.mpr (by decide)) dL_law_882 ?_
  refine lv_aload_n hx hb dL_law_883 rfl (lv_at hl 0 rfl) ?_
  refine lv_iload_n hx hb dL_law_884 rfl (lv_at hl 3 rfl) ?_
  refine lv_iconst (v := 3) hx hb dL_law_885 (by decide) ?_
  refine lv_iadd hx hb dL_law_886 ?_
  refine W.eq (g2 := F0 m 887 ls [.int 3, .ref b, .int (xs (Int32.toNatClampNeg 2)), .int (xs (Int32.toNatClampNeg 1)), .ref (hX 0)]) (by rw [show (0 + 3 : Int32) = 3 from by decide]) ?_
  refine va_sld hx hb hXs hbl hbA hS (i := 3) (vp_in_iff.mpr (by decide)) dL_law_887 ?_
  refine lw_calli (va_runV (As := [.int (xs (Int32.toNatClampNeg 1)), .int (xs (Int32.toNatClampNeg 2)), .int (xs (Int32.toNatClampNeg 3))]) (rest := []) ⟨hx, hb, hml, hown, hts⟩ (cf_X11_wilful l D ca za hX hhX ((xs (Int32.toNatClampNeg 1))) ((xs (Int32.toNatClampNeg 2))) ((xs (Int32.toNatClampNeg 3))) H.size) (cwV 3 hts (gw_V (fun _ h => h) mw_621 mw_622 mw_623 mw_9 mw_620) rfl rfl rfl (by decide +kernel) ⟨Nat.le_of_ble_eq_true rfl, Nat.le_of_ble_eq_true rfl⟩) (sg_preV (ci := 11) (C := RX11) (T := TX11) (N := 10) hAX hK hPX hS hZ 0 (by decide) rfl rfl) rfl rfl hl.1 rfl (lv_room (Nat.le_of_ble_eq_true rfl)) dL_law_888 hcl) hAX hS (fun r1 H1 locs hqr1 hkr1 hzr1 hS => ?_)
  have hPM := lw_kept hPM hdis hkr1
  clear hPX
  obtain ⟨H, hHe⟩ : ∃ z, z = H1 := ⟨_, rfl⟩
  rw [← hHe] at hS hPM
  rw [← hHe]
  refine lv_aload_n hx hb dL_law_891 rfl (lv_at hl 2 rfl) ?_
  refine lv_aload_n hx hb dL_law_892 rfl (lv_at hl 0 rfl) ?_
  refine lv_iload_n hx hb dL_law_893 rfl (lv_at hl 3 rfl) ?_
  refine lv_iconst (v := 1) hx hb dL_law_894 (by decide) ?_
  refine lv_iadd hx hb dL_law_895 ?_
  refine W.eq (g2 := F0 m 896 ls [.int 1, .ref b, .ref (hM 0), .int r1]) (by rw [show (0 + 1 : Int32) = 1 from by decide]) ?_
  refine va_sld hx hb hXs hbl hbA hS (i := 1) (vp_in_iff.mpr (by decide)) dL_law_896 ?_
  refine lv_aload_n hx hb dL_law_897 rfl (lv_at hl 0 rfl) ?_
  refine lv_iload_n hx hb dL_law_898 rfl (lv_at hl 3 rfl) ?_
  refine lv_iconst (v := 2) hx hb dL_law_899 (by decide) ?_
  refine lv_iadd hx hb dL_law_900 ?_
  refine W.eq (g2 := F0 m 901 ls [.int 2, .ref b, .int (xs (Int32.toNatClampNeg 1)), .ref (hM 0), .int r1]) (by rw [show (0 + 2 : Int32) = 2 from by decide]) ?_
  refine va_sld hx hb hXs hbl hbA hS (i := 2) (vp_in_iff.mpr (by decide)) dL_law_901 ?_
  refine lv_aload_n hx hb dL_law_902 rfl (lv_at hl 0 rfl) ?_
  refine lv_iload_n hx hb dL_law_903 rfl (lv_at hl 3 rfl) ?_
  refine lv_iconst (v := 3) hx hb dL_law_904 (by decide) ?_
  refine lv_iadd hx hb dL_law_905 ?_
  refine W.eq (g2 := F0 m 906 ls [.int 3, .ref b, .int (xs (Int32.toNatClampNeg 2)), .int (xs (Int32.toNatClampNeg 1)), .ref (hM 0), .int r1]) (by rw [show (0 + 3 : Int32) = 3 from by decide]) ?_
  refine va_sld hx hb hXs hbl hbA hS (i := 3) (vp_in_iff.mpr (by decide)) dL_law_906 ?_
  refine lw_calli (va_runV (As := [.int (xs (Int32.toNatClampNeg 1)), .int (xs (Int32.toNatClampNeg 2)), .int (xs (Int32.toNatClampNeg 3))]) (rest := [.int r1]) ⟨hx, hb, hml, hown, hts⟩ (cf_X12_wilful l D ca za hM hhM ((xs (Int32.toNatClampNeg 1))) ((xs (Int32.toNatClampNeg 2))) ((xs (Int32.toNatClampNeg 3))) H.size) (cwV 3 hts (gw_V (fun _ h => h) mw_625 mw_626 mw_627 mw_217 mw_624) rfl rfl rfl (by decide +kernel) ⟨Nat.le_of_ble_eq_true rfl, Nat.le_of_ble_eq_true rfl⟩) (sg_preV (ci := 12) (C := RX12) (T := TX12) (N := 55) hAM hK hPM hS (show sgZ zcM za (fun q => s.heap.size ≤ q) s.heap.size s from fun i q h => by simp [zcM] at h) 0 (by decide) rfl rfl) rfl rfl hl.1 rfl (lv_room (Nat.le_of_ble_eq_true rfl)) dL_law_907 hcl) hAM hS (fun r2 H1 locs hqr2 hkr2 hzr2 hS => ?_)
  obtain ⟨H, hHe⟩ : ∃ z, z = H1 := ⟨_, rfl⟩
  rw [← hHe] at hS
  rw [← hHe]
  obtain ⟨f1, L1, Q1, -, h1⟩ := hqr1
  obtain ⟨f2, L2, Q2, -, h2⟩ := hqr2
  have hr : r1 = r2 := by
    rcases h1 with ⟨rfl, h8⟩ <;> rcases h2 with ⟨rfl, h9⟩ <;> first | rfl | (exfalso; omega) | exact Int32.toInt_inj.mp (by have k1 : (0 : Int32).toInt = 0 := (by decide); have k2 : (-1 : Int32).toInt = -1 := (by decide); have k3 : (-2 : Int32).toInt = -2 := (by decide); omega)
  refine lv_icmp_eq (tgt := 1579) hx hb dL_law_910 (by decide) (fun _ => ?_) (fun c => absurd hr c)
  exact hJ _ _ _ hS (lv_sub hl [0, 3] rfl)

set_option maxHeartbeats 4000000 in
set_option maxRecDepth 100000 in
theorem lc_19 {p : Program} {e : Env} {s : State} {m : MethodId} {below : List Frame} {meth : Method} {cd : Code} {Qz : State → Prop} (l : Launch) {b : Nat} {xs : Nat → Int32} {D : va_G} {ca : Nat → ClassId} {za hX hM : Nat → Nat} {cells slots : Nat} {H : Heap} {locs : List Loc} {ls : Array Slot} (hx : p.tables.exec = Jvm.exec) (hb : cd.code = code) (hml : cd.maxLocals = 4) (hown : s.vm.findClass R_law = some m.cls) (hts : ∀ w ∈ gwL, w.before #[Value.ref b] s = true) (hXs : va_X b 6 xs s s.heap) (hbl : b < s.heap.size) (hK : va_K D vwCl (tyX ca) s) (hZ : sgZ zcX za (fun q => s.heap.size ≤ q) s.heap.size s) (hhX : sgH 52 hX) (hhM : sgH 26 hM) (hAX : sgY (fun q => s.heap.size ≤ q) 52 hX s.heap.size) (hAM : sgY (fun q => s.heap.size ≤ q) 26 hM s.heap.size) (hdis : ∀ i j : Nat, i < 52 → j < 26 → hX i ≠ hM j) (hcl : cells ≤ room_1.cells ∧ slots ≤ room_1.slots) (hPX : va_P D vwCl (sgw 52 hX (eX ca hX) f0X L0 Q0) H) (hPM : va_P D vwCl (sgw 26 hM (eM ca hM) f0M L0 Q0) H) (hS : va_S (fun q => s.heap.size ≤ q) s.heap H locs) (hl : lv_has ls 4 [(0, .ref b), (1, .ref (hX 0)), (2, .ref (hM 0)), (3, .int 0)]) (hJ : ∀ (H : Heap) (locs : List Loc) (ls : Array Slot), va_S (fun q => s.heap.size ≤ q) s.heap H locs → lv_has ls 4 [(0, .ref b), (3, .int 0)] → W p l e room_1 s m #[Value.ref b] below meth cd H locs cells slots Qz (F0 m 1579 ls [])) : W p l e room_1 s m #[Value.ref b] below meth cd H locs cells slots Qz (F0 m 915 ls []) := by
  have hbA : ¬ (fun q => s.heap.size ≤ q) b := Nat.not_le.mpr hbl
  have hown : s.vm.findClass RL = some m.cls := hown
  refine lv_aload_n hx hb dL_law_915 rfl (lv_at hl 1 rfl) ?_
  refine lv_aload_n hx hb dL_law_916 rfl (lv_at hl 0 rfl) ?_
  refine lv_iload_n hx hb dL_law_917 rfl (lv_at hl 3 rfl) ?_
  refine lv_iconst (v := 1) hx hb dL_law_918 (by decide) ?_
  refine lv_iadd hx hb dL_law_919 ?_
  refine W.eq (g2 := F0 m 920 ls [.int 1, .ref b, .ref (hX 0)]) (by rw [show (0 + 1 : Int32) = 1 from by decide]) ?_
  refine va_sld hx hb hXs hbl hbA hS (i := 1) (vp_in_iff.mpr (by decide)) dL_law_920 ?_
  refine lv_aload_n hx hb dL_law_921 rfl (lv_at hl 0 rfl) ?_
  refine lv_iload_n hx hb dL_law_922 rfl (lv_at hl 3 rfl) ?_
  refine lv_iconst (v := 2) hx hb dL_law_923 (by decide) ?_
  refine lv_iadd hx hb dL_law_924 ?_
  refine W.eq (g2 := F0 m 925 ls [.int 2, .ref b, .int (xs (Int32.toNatClampNeg 1)), .ref (hX 0)]) (by rw [show (0 + 2 : Int32) = 2 from by decide]) ?_
  refine va_sld hx hb hXs hbl hbA hS (i := 2) (vp_in_iff.mpr (by decide)) dL_law_925 ?_
  refine lv_aload_n hx hb dL_law_926 rfl (lv_at hl 0 rfl) ?_
  refine lv_iload_n hx hb dL_law_927 rfl (lv_at hl 3 rfl) ?_
  refine lv_iconst (v := 3) hx hb dL_law_928 (by decide) ?_
  refine lv_iadd hx hb dL_law_929 ?_
  refine W.eq (g2 := F0 m 930 ls [.int 3, .ref b, .int (xs (Int32.toNatClampNeg 2)), .int (xs (Int32.toNatClampNeg 1)), .ref (hX 0)]) (by rw [show (0 + 3 : Int32) = 3 from by decide]) ?_
  refine va_sld hx hb hXs hbl hbA hS (i := 3) (vp_in_iff.mpr (by decide)) dL_law_930 ?_
  refine lw_calli (va_runV (As := [.int (xs (Int32.toNatClampNeg 1)), .int (xs (Int32.toNatClampNeg 2)), .int (xs (Int32.toNatClampNeg 3))]) (rest := []) ⟨hx, hb, hml, hown, hts⟩ (cf_X11_who l D ca za hX hhX ((xs (Int32.toNatClampNeg 1))) ((xs (Int32.toNatClampNeg 2))) ((xs (Int32.toNatClampNeg 3))) H.size) (cwV 3 hts (gw_V (fun _ h => h) mw_629 mw_630 mw_631 mw_9 mw_628) rfl rfl rfl (by decide +kernel) ⟨Nat.le_of_ble_eq_true rfl, Nat.le_of_ble_eq_true rfl⟩) (sg_preV (ci := 11) (C := RX11) (T := TX11) (N := 10) hAX hK hPX hS hZ 0 (by decide) rfl rfl) rfl rfl hl.1 rfl (lv_room (Nat.le_of_ble_eq_true rfl)) dL_law_931 hcl) hAX hS (fun r1 H1 locs hqr1 hkr1 hzr1 hS => ?_)
  have hPM := lw_kept hPM hdis hkr1
  clear hPX
  obtain ⟨H, hHe⟩ : ∃ z, z = H1 := ⟨_, rfl⟩
  rw [← hHe] at hS hPM
  rw [← hHe]
  refine lv_aload_n hx hb dL_law_934 rfl (lv_at hl 2 rfl) ?_
  refine lv_aload_n hx hb dL_law_935 rfl (lv_at hl 0 rfl) ?_
  refine lv_iload_n hx hb dL_law_936 rfl (lv_at hl 3 rfl) ?_
  refine lv_iconst (v := 1) hx hb dL_law_937 (by decide) ?_
  refine lv_iadd hx hb dL_law_938 ?_
  refine W.eq (g2 := F0 m 939 ls [.int 1, .ref b, .ref (hM 0), .int r1]) (by rw [show (0 + 1 : Int32) = 1 from by decide]) ?_
  refine va_sld hx hb hXs hbl hbA hS (i := 1) (vp_in_iff.mpr (by decide)) dL_law_939 ?_
  refine lv_aload_n hx hb dL_law_940 rfl (lv_at hl 0 rfl) ?_
  refine lv_iload_n hx hb dL_law_941 rfl (lv_at hl 3 rfl) ?_
  refine lv_iconst (v := 2) hx hb dL_law_942 (by decide) ?_
  refine lv_iadd hx hb dL_law_943 ?_
  refine W.eq (g2 := F0 m 944 ls [.int 2, .ref b, .int (xs (Int32.toNatClampNeg 1)), .ref (hM 0), .int r1]) (by rw [show (0 + 2 : Int32) = 2 from by decide]) ?_
  refine va_sld hx hb hXs hbl hbA hS (i := 2) (vp_in_iff.mpr (by decide)) dL_law_944 ?_
  refine lv_aload_n hx hb dL_law_945 rfl (lv_at hl 0 rfl) ?_
  refine lv_iload_n hx hb dL_law_946 rfl (lv_at hl 3 rfl) ?_
  refine lv_iconst (v := 3) hx hb dL_law_947 (by decide) ?_
  refine lv_iadd hx hb dL_law_948 ?_
  refine W.eq (g2 := F0 m 949 ls [.int 3, .ref b, .int (xs (Int32.toNatClampNeg 2)), .int (xs (Int32.toNatClampNeg 1)), .ref (hM 0), .int r1]) (by rw [show (0 + 3 : Int32) = 3 from by decide]) ?_
  refine va_sld hx hb hXs hbl hbA hS (i := 3) (vp_in_iff.mpr (by decide)) dL_law_949 ?_
  refine lw_calli (va_runV (As := [.int (xs (Int32.toNatClampNeg 1)), .int (xs (Int32.toNatClampNeg 2)), .int (xs (Int32.toNatClampNeg 3))]) (rest := [.int r1]) ⟨hx, hb, hml, hown, hts⟩ (cf_X12_who l D ca za hM hhM ((xs (Int32.toNatClampNeg 1))) ((xs (Int32.toNatClampNeg 2))) ((xs (Int32.toNatClampNeg 3))) H.size) (cwV 3 hts (gw_V (fun _ h => h) mw_633 mw_634 mw_635 mw_217 mw_632) rfl rfl rfl (by decide +kernel) ⟨Nat.le_of_ble_eq_true rfl, Nat.le_of_ble_eq_true rfl⟩) (sg_preV (ci := 12) (C := RX12) (T := TX12) (N := 55) hAM hK hPM hS (show sgZ zcM za (fun q => s.heap.size ≤ q) s.heap.size s from fun i q h => by simp [zcM] at h) 0 (by decide) rfl rfl) rfl rfl hl.1 rfl (lv_room (Nat.le_of_ble_eq_true rfl)) dL_law_950 hcl) hAM hS (fun r2 H1 locs hqr2 hkr2 hzr2 hS => ?_)
  obtain ⟨H, hHe⟩ : ∃ z, z = H1 := ⟨_, rfl⟩
  rw [← hHe] at hS
  rw [← hHe]
  obtain ⟨f1, L1, Q1, -, h1⟩ := hqr1
  obtain ⟨f2, L2, Q2, -, h2⟩ := hqr2
  have hr : r1 = r2 := by
    rcases h1 with ⟨rfl, h8⟩ | ⟨rfl, h8⟩ <;> rcases h2 with ⟨rfl, h9⟩ | ⟨rfl, h9⟩ <;> first | rfl | (exfalso; omega) | exact Int32.toInt_inj.mp (by have k1 : (0 : Int32).toInt = 0 := (by decide); have k2 : (-1 : Int32).toInt = -1 := (by decide); have k3 : (-2 : Int32).toInt = -2 := (by decide); omega)
  refine lv_icmp_eq (tgt := 1579) hx hb dL_law_953 (by decide) (fun _ => ?_) (fun c => absurd hr c)
  exact hJ _ _ _ hS (lv_sub hl [0, 3] rfl)

set_option maxHeartbeats 4000000 in
set_option maxRecDepth 100000 in
theorem lc_20 {p : Program} {e : Env} {s : State} {m : MethodId} {below : List Frame} {meth : Method} {cd : Code} {Qz : State → Prop} (l : Launch) {b : Nat} {xs : Nat → Int32} {D : va_G} {ca : Nat → ClassId} {za hX hM : Nat → Nat} {cells slots : Nat} {H : Heap} {locs : List Loc} {ls : Array Slot} (hx : p.tables.exec = Jvm.exec) (hb : cd.code = code) (hml : cd.maxLocals = 4) (hown : s.vm.findClass R_law = some m.cls) (hts : ∀ w ∈ gwL, w.before #[Value.ref b] s = true) (hXs : va_X b 6 xs s s.heap) (hbl : b < s.heap.size) (hK : va_K D vwCl (tyX ca) s) (hZ : sgZ zcX za (fun q => s.heap.size ≤ q) s.heap.size s) (hhX : sgH 52 hX) (hhM : sgH 26 hM) (hAX : sgY (fun q => s.heap.size ≤ q) 52 hX s.heap.size) (hAM : sgY (fun q => s.heap.size ≤ q) 26 hM s.heap.size) (hdis : ∀ i j : Nat, i < 52 → j < 26 → hX i ≠ hM j) (hcl : cells ≤ room_1.cells ∧ slots ≤ room_1.slots) (hPX : va_P D vwCl (sgw 52 hX (eX ca hX) f0X L0 Q0) H) (hPM : va_P D vwCl (sgw 26 hM (eM ca hM) f0M L0 Q0) H) (hS : va_S (fun q => s.heap.size ≤ q) s.heap H locs) (hl : lv_has ls 4 [(0, .ref b), (1, .ref (hX 0)), (2, .ref (hM 0)), (3, .int 0)]) (hJ : ∀ (H : Heap) (locs : List Loc) (ls : Array Slot), va_S (fun q => s.heap.size ≤ q) s.heap H locs → lv_has ls 4 [(0, .ref b), (3, .int 0)] → W p l e room_1 s m #[Value.ref b] below meth cd H locs cells slots Qz (F0 m 1579 ls [])) : W p l e room_1 s m #[Value.ref b] below meth cd H locs cells slots Qz (F0 m 958 ls []) := by
  have hbA : ¬ (fun q => s.heap.size ≤ q) b := Nat.not_le.mpr hbl
  have hown : s.vm.findClass RL = some m.cls := hown
  refine lv_aload_n hx hb dL_law_958 rfl (lv_at hl 1 rfl) ?_
  refine lv_aload_n hx hb dL_law_959 rfl (lv_at hl 0 rfl) ?_
  refine lv_iload_n hx hb dL_law_960 rfl (lv_at hl 3 rfl) ?_
  refine lv_iconst (v := 1) hx hb dL_law_961 (by decide) ?_
  refine lv_iadd hx hb dL_law_962 ?_
  refine W.eq (g2 := F0 m 963 ls [.int 1, .ref b, .ref (hX 0)]) (by rw [show (0 + 1 : Int32) = 1 from by decide]) ?_
  refine va_sld hx hb hXs hbl hbA hS (i := 1) (vp_in_iff.mpr (by decide)) dL_law_963 ?_
  refine lv_aload_n hx hb dL_law_964 rfl (lv_at hl 0 rfl) ?_
  refine lv_iload_n hx hb dL_law_965 rfl (lv_at hl 3 rfl) ?_
  refine lv_iconst (v := 2) hx hb dL_law_966 (by decide) ?_
  refine lv_iadd hx hb dL_law_967 ?_
  refine W.eq (g2 := F0 m 968 ls [.int 2, .ref b, .int (xs (Int32.toNatClampNeg 1)), .ref (hX 0)]) (by rw [show (0 + 2 : Int32) = 2 from by decide]) ?_
  refine va_sld hx hb hXs hbl hbA hS (i := 2) (vp_in_iff.mpr (by decide)) dL_law_968 ?_
  refine lw_calli (va_runV (As := [.int (xs (Int32.toNatClampNeg 1)), .int (xs (Int32.toNatClampNeg 2))]) (rest := []) ⟨hx, hb, hml, hown, hts⟩ (cf_X11_judge l D ca za hX hhX ((xs (Int32.toNatClampNeg 1))) ((xs (Int32.toNatClampNeg 2))) H.size) (cwV 2 hts (gw_V (fun _ h => h) mw_637 mw_638 mw_639 mw_9 mw_636) rfl rfl rfl (by decide +kernel) ⟨Nat.le_of_ble_eq_true rfl, Nat.le_of_ble_eq_true rfl⟩) (sg_preV (ci := 11) (C := RX11) (T := TX11) (N := 10) hAX hK hPX hS hZ 0 (by decide) rfl rfl) rfl rfl hl.1 rfl (lv_room (Nat.le_of_ble_eq_true rfl)) dL_law_969 hcl) hAX hS (fun r1 H1 locs hqr1 hkr1 hzr1 hS => ?_)
  have hPM := lw_kept hPM hdis hkr1
  clear hPX
  obtain ⟨H, hHe⟩ : ∃ z, z = H1 := ⟨_, rfl⟩
  rw [← hHe] at hS hPM
  rw [← hHe]
  refine lv_aload_n hx hb dL_law_972 rfl (lv_at hl 2 rfl) ?_
  refine lv_aload_n hx hb dL_law_973 rfl (lv_at hl 0 rfl) ?_
  refine lv_iload_n hx hb dL_law_974 rfl (lv_at hl 3 rfl) ?_
  refine lv_iconst (v := 1) hx hb dL_law_975 (by decide) ?_
  refine lv_iadd hx hb dL_law_976 ?_
  refine W.eq (g2 := F0 m 977 ls [.int 1, .ref b, .ref (hM 0), .int r1]) (by rw [show (0 + 1 : Int32) = 1 from by decide]) ?_
  refine va_sld hx hb hXs hbl hbA hS (i := 1) (vp_in_iff.mpr (by decide)) dL_law_977 ?_
  refine lv_aload_n hx hb dL_law_978 rfl (lv_at hl 0 rfl) ?_
  refine lv_iload_n hx hb dL_law_979 rfl (lv_at hl 3 rfl) ?_
  refine lv_iconst (v := 2) hx hb dL_law_980 (by decide) ?_
  refine lv_iadd hx hb dL_law_981 ?_
  refine W.eq (g2 := F0 m 982 ls [.int 2, .ref b, .int (xs (Int32.toNatClampNeg 1)), .ref (hM 0), .int r1]) (by rw [show (0 + 2 : Int32) = 2 from by decide]) ?_
  refine va_sld hx hb hXs hbl hbA hS (i := 2) (vp_in_iff.mpr (by decide)) dL_law_982 ?_
  refine lw_calli (va_runV (As := [.int (xs (Int32.toNatClampNeg 1)), .int (xs (Int32.toNatClampNeg 2))]) (rest := [.int r1]) ⟨hx, hb, hml, hown, hts⟩ (cf_X12_judge l D ca za hM hhM ((xs (Int32.toNatClampNeg 1))) ((xs (Int32.toNatClampNeg 2))) H.size) (cwV 2 hts (gw_V (fun _ h => h) mw_641 mw_642 mw_643 mw_217 mw_640) rfl rfl rfl (by decide +kernel) ⟨Nat.le_of_ble_eq_true rfl, Nat.le_of_ble_eq_true rfl⟩) (sg_preV (ci := 12) (C := RX12) (T := TX12) (N := 55) hAM hK hPM hS (show sgZ zcM za (fun q => s.heap.size ≤ q) s.heap.size s from fun i q h => by simp [zcM] at h) 0 (by decide) rfl rfl) rfl rfl hl.1 rfl (lv_room (Nat.le_of_ble_eq_true rfl)) dL_law_983 hcl) hAM hS (fun r2 H1 locs hqr2 hkr2 hzr2 hS => ?_)
  obtain ⟨H, hHe⟩ : ∃ z, z = H1 := ⟨_, rfl⟩
  rw [← hHe] at hS
  rw [← hHe]
  obtain ⟨f1, L1, Q1, -, h1⟩ := hqr1
  obtain ⟨f2, L2, Q2, -, h2⟩ := hqr2
  have hr : r1 = r2 := by
    rcases h1 with ⟨rfl, h8⟩ | ⟨rfl, h8⟩ <;> rcases h2 with ⟨rfl, h9⟩ | ⟨rfl, h9⟩ <;> first | rfl | (exfalso; omega) | exact Int32.toInt_inj.mp (by have k1 : (0 : Int32).toInt = 0 := (by decide); have k2 : (-1 : Int32).toInt = -1 := (by decide); have k3 : (-2 : Int32).toInt = -2 := (by decide); omega)
  refine lv_icmp_eq (tgt := 1579) hx hb dL_law_986 (by decide) (fun _ => ?_) (fun c => absurd hr c)
  exact hJ _ _ _ hS (lv_sub hl [0, 3] rfl)

set_option maxHeartbeats 4000000 in
set_option maxRecDepth 100000 in
theorem lc_21 {p : Program} {e : Env} {s : State} {m : MethodId} {below : List Frame} {meth : Method} {cd : Code} {Qz : State → Prop} (l : Launch) {b : Nat} {xs : Nat → Int32} {D : va_G} {ca : Nat → ClassId} {za hX hM : Nat → Nat} {cells slots : Nat} {H : Heap} {locs : List Loc} {ls : Array Slot} (hx : p.tables.exec = Jvm.exec) (hb : cd.code = code) (hml : cd.maxLocals = 4) (hown : s.vm.findClass R_law = some m.cls) (hts : ∀ w ∈ gwL, w.before #[Value.ref b] s = true) (hXs : va_X b 6 xs s s.heap) (hbl : b < s.heap.size) (hK : va_K D vwCl (tyX ca) s) (hZ : sgZ zcX za (fun q => s.heap.size ≤ q) s.heap.size s) (hhX : sgH 52 hX) (hhM : sgH 26 hM) (hAX : sgY (fun q => s.heap.size ≤ q) 52 hX s.heap.size) (hAM : sgY (fun q => s.heap.size ≤ q) 26 hM s.heap.size) (hdis : ∀ i j : Nat, i < 52 → j < 26 → hX i ≠ hM j) (hcl : cells ≤ room_1.cells ∧ slots ≤ room_1.slots) (hPX : va_P D vwCl (sgw 52 hX (eX ca hX) f0X L0 Q0) H) (hPM : va_P D vwCl (sgw 26 hM (eM ca hM) f0M L0 Q0) H) (hS : va_S (fun q => s.heap.size ≤ q) s.heap H locs) (hl : lv_has ls 4 [(0, .ref b), (1, .ref (hX 0)), (2, .ref (hM 0)), (3, .int 0)]) (hJ : ∀ (H : Heap) (locs : List Loc) (ls : Array Slot), va_S (fun q => s.heap.size ≤ q) s.heap H locs → lv_has ls 4 [(0, .ref b), (3, .int 0)] → W p l e room_1 s m #[Value.ref b] below meth cd H locs cells slots Qz (F0 m 1579 ls [])) : W p l e room_1 s m #[Value.ref b] below meth cd H locs cells slots Qz (F0 m 991 ls []) := by
  have hbA : ¬ (fun q => s.heap.size ≤ q) b := Nat.not_le.mpr hbl
  have hown : s.vm.findClass RL = some m.cls := hown
  refine lv_aload_n hx hb dL_law_991 rfl (lv_at hl 1 rfl) ?_
  refine lv_aload_n hx hb dL_law_992 rfl (lv_at hl 0 rfl) ?_
  refine lv_iload_n hx hb dL_law_993 rfl (lv_at hl 3 rfl) ?_
  refine lv_iconst (v := 1) hx hb dL_law_994 (by decide) ?_
  refine lv_iadd hx hb dL_law_995 ?_
  refine W.eq (g2 := F0 m 996 ls [.int 1, .ref b, .ref (hX 0)]) (by rw [show (0 + 1 : Int32) = 1 from by decide]) ?_
  refine va_sld hx hb hXs hbl hbA hS (i := 1) (vp_in_iff.mpr (by decide)) dL_law_996 ?_
  refine lv_aload_n hx hb dL_law_997 rfl (lv_at hl 0 rfl) ?_
  refine lv_iload_n hx hb dL_law_998 rfl (lv_at hl 3 rfl) ?_
  refine lv_iconst (v := 2) hx hb dL_law_999 (by decide) ?_
  refine lv_iadd hx hb dL_law_1000 ?_
  refine W.eq (g2 := F0 m 1001 ls [.int 2, .ref b, .int (xs (Int32.toNatClampNeg 1)), .ref (hX 0)]) (by rw [show (0 + 2 : Int32) = 2 from by decide]) ?_
  refine va_sld hx hb hXs hbl hbA hS (i := 2) (vp_in_iff.mpr (by decide)) dL_law_1001 ?_
  refine lv_aload_n hx hb dL_law_1002 rfl (lv_at hl 0 rfl) ?_
  refine lv_iload_n hx hb dL_law_1003 rfl (lv_at hl 3 rfl) ?_
  refine lv_iconst (v := 3) hx hb dL_law_1004 (by decide) ?_
  refine lv_iadd hx hb dL_law_1005 ?_
  refine W.eq (g2 := F0 m 1006 ls [.int 3, .ref b, .int (xs (Int32.toNatClampNeg 2)), .int (xs (Int32.toNatClampNeg 1)), .ref (hX 0)]) (by rw [show (0 + 3 : Int32) = 3 from by decide]) ?_
  refine va_sld hx hb hXs hbl hbA hS (i := 3) (vp_in_iff.mpr (by decide)) dL_law_1006 ?_
  refine lv_aload_n hx hb dL_law_1007 rfl (lv_at hl 0 rfl) ?_
  refine lv_iload_n hx hb dL_law_1008 rfl (lv_at hl 3 rfl) ?_
  refine lv_iconst (v := 4) hx hb dL_law_1009 (by decide) ?_
  refine lv_iadd hx hb dL_law_1010 ?_
  refine W.eq (g2 := F0 m 1011 ls [.int 4, .ref b, .int (xs (Int32.toNatClampNeg 3)), .int (xs (Int32.toNatClampNeg 2)), .int (xs (Int32.toNatClampNeg 1)), .ref (hX 0)]) (by rw [show (0 + 4 : Int32) = 4 from by decide]) ?_
  refine va_sld hx hb hXs hbl hbA hS (i := 4) (vp_in_iff.mpr (by decide)) dL_law_1011 ?_
  refine lw_calli (va_runV (As := [.int (xs (Int32.toNatClampNeg 1)), .int (xs (Int32.toNatClampNeg 2)), .int (xs (Int32.toNatClampNeg 3)), .int (xs (Int32.toNatClampNeg 4))]) (rest := []) ⟨hx, hb, hml, hown, hts⟩ (cf_X11_drawn l D ca za hX hhX ((xs (Int32.toNatClampNeg 1))) ((xs (Int32.toNatClampNeg 2))) ((xs (Int32.toNatClampNeg 3))) ((xs (Int32.toNatClampNeg 4))) H.size) (cwV 4 hts (gw_V (fun _ h => h) mw_645 mw_646 mw_647 mw_9 mw_644) rfl rfl rfl (by decide +kernel) ⟨Nat.le_of_ble_eq_true rfl, Nat.le_of_ble_eq_true rfl⟩) (sg_preV (ci := 11) (C := RX11) (T := TX11) (N := 10) hAX hK hPX hS hZ 0 (by decide) rfl rfl) rfl rfl hl.1 rfl (lv_room (Nat.le_of_ble_eq_true rfl)) dL_law_1012 hcl) hAX hS (fun r1 H1 locs hqr1 hkr1 hzr1 hS => ?_)
  have hPM := lw_kept hPM hdis hkr1
  clear hPX
  obtain ⟨H, hHe⟩ : ∃ z, z = H1 := ⟨_, rfl⟩
  rw [← hHe] at hS hPM
  rw [← hHe]
  refine lv_aload_n hx hb dL_law_1015 rfl (lv_at hl 2 rfl) ?_
  refine lv_aload_n hx hb dL_law_1016 rfl (lv_at hl 0 rfl) ?_
  refine lv_iload_n hx hb dL_law_1017 rfl (lv_at hl 3 rfl) ?_
  refine lv_iconst (v := 1) hx hb dL_law_1018 (by decide) ?_
  refine lv_iadd hx hb dL_law_1019 ?_
  refine W.eq (g2 := F0 m 1020 ls [.int 1, .ref b, .ref (hM 0), .int r1]) (by rw [show (0 + 1 : Int32) = 1 from by decide]) ?_
  refine va_sld hx hb hXs hbl hbA hS (i := 1) (vp_in_iff.mpr (by decide)) dL_law_1020 ?_
  refine lv_aload_n hx hb dL_law_1021 rfl (lv_at hl 0 rfl) ?_
  refine lv_iload_n hx hb dL_law_1022 rfl (lv_at hl 3 rfl) ?_
  refine lv_iconst (v := 2) hx hb dL_law_1023 (by decide) ?_
  refine lv_iadd hx hb dL_law_1024 ?_
  refine W.eq (g2 := F0 m 1025 ls [.int 2, .ref b, .int (xs (Int32.toNatClampNeg 1)), .ref (hM 0), .int r1]) (by rw [show (0 + 2 : Int32) = 2 from by decide]) ?_
  refine va_sld hx hb hXs hbl hbA hS (i := 2) (vp_in_iff.mpr (by decide)) dL_law_1025 ?_
  refine lv_aload_n hx hb dL_law_1026 rfl (lv_at hl 0 rfl) ?_
  refine lv_iload_n hx hb dL_law_1027 rfl (lv_at hl 3 rfl) ?_
  refine lv_iconst (v := 3) hx hb dL_law_1028 (by decide) ?_
  refine lv_iadd hx hb dL_law_1029 ?_
  refine W.eq (g2 := F0 m 1030 ls [.int 3, .ref b, .int (xs (Int32.toNatClampNeg 2)), .int (xs (Int32.toNatClampNeg 1)), .ref (hM 0), .int r1]) (by rw [show (0 + 3 : Int32) = 3 from by decide]) ?_
  refine va_sld hx hb hXs hbl hbA hS (i := 3) (vp_in_iff.mpr (by decide)) dL_law_1030 ?_
  refine lv_aload_n hx hb dL_law_1031 rfl (lv_at hl 0 rfl) ?_
  refine lv_iload_n hx hb dL_law_1032 rfl (lv_at hl 3 rfl) ?_
  refine lv_iconst (v := 4) hx hb dL_law_1033 (by decide) ?_
  refine lv_iadd hx hb dL_law_1034 ?_
  refine W.eq (g2 := F0 m 1035 ls [.int 4, .ref b, .int (xs (Int32.toNatClampNeg 3)), .int (xs (Int32.toNatClampNeg 2)), .int (xs (Int32.toNatClampNeg 1)), .ref (hM 0), .int r1]) (by rw [show (0 + 4 : Int32) = 4 from by decide]) ?_
  refine va_sld hx hb hXs hbl hbA hS (i := 4) (vp_in_iff.mpr (by decide)) dL_law_1035 ?_
  refine lw_calli (va_runV (As := [.int (xs (Int32.toNatClampNeg 1)), .int (xs (Int32.toNatClampNeg 2)), .int (xs (Int32.toNatClampNeg 3)), .int (xs (Int32.toNatClampNeg 4))]) (rest := [.int r1]) ⟨hx, hb, hml, hown, hts⟩ (cf_X12_drawn l D ca za hM hhM ((xs (Int32.toNatClampNeg 1))) ((xs (Int32.toNatClampNeg 2))) ((xs (Int32.toNatClampNeg 3))) ((xs (Int32.toNatClampNeg 4))) H.size) (cwV 4 hts (gw_V (fun _ h => h) mw_649 mw_650 mw_651 mw_217 mw_648) rfl rfl rfl (by decide +kernel) ⟨Nat.le_of_ble_eq_true rfl, Nat.le_of_ble_eq_true rfl⟩) (sg_preV (ci := 12) (C := RX12) (T := TX12) (N := 55) hAM hK hPM hS (show sgZ zcM za (fun q => s.heap.size ≤ q) s.heap.size s from fun i q h => by simp [zcM] at h) 0 (by decide) rfl rfl) rfl rfl hl.1 rfl (lv_room (Nat.le_of_ble_eq_true rfl)) dL_law_1036 hcl) hAM hS (fun r2 H1 locs hqr2 hkr2 hzr2 hS => ?_)
  obtain ⟨H, hHe⟩ : ∃ z, z = H1 := ⟨_, rfl⟩
  rw [← hHe] at hS
  rw [← hHe]
  obtain ⟨f1, L1, Q1, -, h1⟩ := hqr1
  obtain ⟨f2, L2, Q2, -, h2⟩ := hqr2
  have hr : r1 = r2 := by
    rcases h1 with ⟨rfl, h8⟩ | ⟨rfl, h8⟩ <;> rcases h2 with ⟨rfl, h9⟩ | ⟨rfl, h9⟩ <;> first | rfl | (exfalso; omega) | exact Int32.toInt_inj.mp (by have k1 : (0 : Int32).toInt = 0 := (by decide); have k2 : (-1 : Int32).toInt = -1 := (by decide); have k3 : (-2 : Int32).toInt = -2 := (by decide); omega)
  refine lv_icmp_eq (tgt := 1579) hx hb dL_law_1039 (by decide) (fun _ => ?_) (fun c => absurd hr c)
  exact hJ _ _ _ hS (lv_sub hl [0, 3] rfl)

set_option maxHeartbeats 4000000 in
set_option maxRecDepth 100000 in
theorem lc_22 {p : Program} {e : Env} {s : State} {m : MethodId} {below : List Frame} {meth : Method} {cd : Code} {Qz : State → Prop} (l : Launch) {b : Nat} {xs : Nat → Int32} {D : va_G} {ca : Nat → ClassId} {za hX hM : Nat → Nat} {cells slots : Nat} {H : Heap} {locs : List Loc} {ls : Array Slot} (hx : p.tables.exec = Jvm.exec) (hb : cd.code = code) (hml : cd.maxLocals = 4) (hown : s.vm.findClass R_law = some m.cls) (hts : ∀ w ∈ gwL, w.before #[Value.ref b] s = true) (hXs : va_X b 6 xs s s.heap) (hbl : b < s.heap.size) (hK : va_K D vwCl (tyX ca) s) (hZ : sgZ zcX za (fun q => s.heap.size ≤ q) s.heap.size s) (hhX : sgH 52 hX) (hhM : sgH 26 hM) (hAX : sgY (fun q => s.heap.size ≤ q) 52 hX s.heap.size) (hAM : sgY (fun q => s.heap.size ≤ q) 26 hM s.heap.size) (hdis : ∀ i j : Nat, i < 52 → j < 26 → hX i ≠ hM j) (hcl : cells ≤ room_1.cells ∧ slots ≤ room_1.slots) (hPX : va_P D vwCl (sgw 52 hX (eX ca hX) f0X L0 Q0) H) (hPM : va_P D vwCl (sgw 26 hM (eM ca hM) f0M L0 Q0) H) (hS : va_S (fun q => s.heap.size ≤ q) s.heap H locs) (hl : lv_has ls 4 [(0, .ref b), (1, .ref (hX 0)), (2, .ref (hM 0)), (3, .int 0)]) (hJ : ∀ (H : Heap) (locs : List Loc) (ls : Array Slot), va_S (fun q => s.heap.size ≤ q) s.heap H locs → lv_has ls 4 [(0, .ref b), (3, .int 0)] → W p l e room_1 s m #[Value.ref b] below meth cd H locs cells slots Qz (F0 m 1579 ls [])) : W p l e room_1 s m #[Value.ref b] below meth cd H locs cells slots Qz (F0 m 1044 ls []) := by
  have hbA : ¬ (fun q => s.heap.size ≤ q) b := Nat.not_le.mpr hbl
  have hown : s.vm.findClass RL = some m.cls := hown
  refine lv_aload_n hx hb dL_law_1044 rfl (lv_at hl 1 rfl) ?_
  refine lv_aload_n hx hb dL_law_1045 rfl (lv_at hl 0 rfl) ?_
  refine lv_iload_n hx hb dL_law_1046 rfl (lv_at hl 3 rfl) ?_
  refine lv_iconst (v := 1) hx hb dL_law_1047 (by decide) ?_
  refine lv_iadd hx hb dL_law_1048 ?_
  refine W.eq (g2 := F0 m 1049 ls [.int 1, .ref b, .ref (hX 0)]) (by rw [show (0 + 1 : Int32) = 1 from by decide]) ?_
  refine va_sld hx hb hXs hbl hbA hS (i := 1) (vp_in_iff.mpr (by decide)) dL_law_1049 ?_
  refine lw_calli (va_runV (As := [.int (xs (Int32.toNatClampNeg 1))]) (rest := []) ⟨hx, hb, hml, hown, hts⟩ (cf_X11_sit l D ca za hX hhX ((xs (Int32.toNatClampNeg 1))) H.size) (cwV 1 hts (gw_V (fun _ h => h) mw_653 mw_654 mw_655 mw_9 mw_652) rfl rfl rfl (by decide +kernel) ⟨Nat.le_of_ble_eq_true rfl, Nat.le_of_ble_eq_true rfl⟩) (sg_preV (ci := 11) (C := RX11) (T := TX11) (N := 10) hAX hK hPX hS hZ 0 (by decide) rfl rfl) rfl rfl hl.1 rfl (lv_room (Nat.le_of_ble_eq_true rfl)) dL_law_1050 hcl) hAX hS (fun r1 H1 locs hqr1 hkr1 hzr1 hS => ?_)
  have hPM := lw_kept hPM hdis hkr1
  clear hPX
  obtain ⟨H, hHe⟩ : ∃ z, z = H1 := ⟨_, rfl⟩
  rw [← hHe] at hS hPM
  rw [← hHe]
  refine lv_aload_n hx hb dL_law_1053 rfl (lv_at hl 2 rfl) ?_
  refine lv_aload_n hx hb dL_law_1054 rfl (lv_at hl 0 rfl) ?_
  refine lv_iload_n hx hb dL_law_1055 rfl (lv_at hl 3 rfl) ?_
  refine lv_iconst (v := 1) hx hb dL_law_1056 (by decide) ?_
  refine lv_iadd hx hb dL_law_1057 ?_
  refine W.eq (g2 := F0 m 1058 ls [.int 1, .ref b, .ref (hM 0), .int r1]) (by rw [show (0 + 1 : Int32) = 1 from by decide]) ?_
  refine va_sld hx hb hXs hbl hbA hS (i := 1) (vp_in_iff.mpr (by decide)) dL_law_1058 ?_
  refine lw_calli (va_runV (As := [.int (xs (Int32.toNatClampNeg 1))]) (rest := [.int r1]) ⟨hx, hb, hml, hown, hts⟩ (cf_X12_sit l D ca za hM hhM ((xs (Int32.toNatClampNeg 1))) H.size) (cwV 1 hts (gw_V (fun _ h => h) mw_657 mw_658 mw_659 mw_217 mw_656) rfl rfl rfl (by decide +kernel) ⟨Nat.le_of_ble_eq_true rfl, Nat.le_of_ble_eq_true rfl⟩) (sg_preV (ci := 12) (C := RX12) (T := TX12) (N := 55) hAM hK hPM hS (show sgZ zcM za (fun q => s.heap.size ≤ q) s.heap.size s from fun i q h => by simp [zcM] at h) 0 (by decide) rfl rfl) rfl rfl hl.1 rfl (lv_room (Nat.le_of_ble_eq_true rfl)) dL_law_1059 hcl) hAM hS (fun r2 H1 locs hqr2 hkr2 hzr2 hS => ?_)
  obtain ⟨H, hHe⟩ : ∃ z, z = H1 := ⟨_, rfl⟩
  rw [← hHe] at hS
  rw [← hHe]
  obtain ⟨f1, L1, Q1, -, h1⟩ := hqr1
  obtain ⟨f2, L2, Q2, -, h2⟩ := hqr2
  have hr : r1 = r2 := by
    rcases h1 with ⟨rfl, h8⟩ <;> rcases h2 with ⟨rfl, h9⟩ <;> first | rfl | (exfalso; omega) | exact Int32.toInt_inj.mp (by have k1 : (0 : Int32).toInt = 0 := (by decide); have k2 : (-1 : Int32).toInt = -1 := (by decide); have k3 : (-2 : Int32).toInt = -2 := (by decide); omega)
  refine lv_icmp_eq (tgt := 1579) hx hb dL_law_1062 (by decide) (fun _ => ?_) (fun c => absurd hr c)
  exact hJ _ _ _ hS (lv_sub hl [0, 3] rfl)

set_option maxHeartbeats 4000000 in
set_option maxRecDepth 100000 in
theorem lc_23 {p : Program} {e : Env} {s : State} {m : MethodId} {below : List Frame} {meth : Method} {cd : Code} {Qz : State → Prop} (l : Launch) {b : Nat} {xs : Nat → Int32} {D : va_G} {ca : Nat → ClassId} {za hX hM : Nat → Nat} {cells slots : Nat} {H : Heap} {locs : List Loc} {ls : Array Slot} (hx : p.tables.exec = Jvm.exec) (hb : cd.code = code) (hml : cd.maxLocals = 4) (hown : s.vm.findClass R_law = some m.cls) (hts : ∀ w ∈ gwL, w.before #[Value.ref b] s = true) (hXs : va_X b 6 xs s s.heap) (hbl : b < s.heap.size) (hK : va_K D vwCl (tyX ca) s) (hZ : sgZ zcX za (fun q => s.heap.size ≤ q) s.heap.size s) (hhX : sgH 52 hX) (hhM : sgH 26 hM) (hAX : sgY (fun q => s.heap.size ≤ q) 52 hX s.heap.size) (hAM : sgY (fun q => s.heap.size ≤ q) 26 hM s.heap.size) (hdis : ∀ i j : Nat, i < 52 → j < 26 → hX i ≠ hM j) (hcl : cells ≤ room_1.cells ∧ slots ≤ room_1.slots) (hPX : va_P D vwCl (sgw 52 hX (eX ca hX) f0X L0 Q0) H) (hPM : va_P D vwCl (sgw 26 hM (eM ca hM) f0M L0 Q0) H) (hS : va_S (fun q => s.heap.size ≤ q) s.heap H locs) (hl : lv_has ls 4 [(0, .ref b), (1, .ref (hX 0)), (2, .ref (hM 0)), (3, .int 0)]) (hJ : ∀ (H : Heap) (locs : List Loc) (ls : Array Slot), va_S (fun q => s.heap.size ≤ q) s.heap H locs → lv_has ls 4 [(0, .ref b), (3, .int 0)] → W p l e room_1 s m #[Value.ref b] below meth cd H locs cells slots Qz (F0 m 1579 ls [])) : W p l e room_1 s m #[Value.ref b] below meth cd H locs cells slots Qz (F0 m 1067 ls []) := by
  have hbA : ¬ (fun q => s.heap.size ≤ q) b := Nat.not_le.mpr hbl
  have hown : s.vm.findClass RL = some m.cls := hown
  refine lv_aload_n hx hb dL_law_1067 rfl (lv_at hl 1 rfl) ?_
  refine lv_aload_n hx hb dL_law_1068 rfl (lv_at hl 0 rfl) ?_
  refine lv_iload_n hx hb dL_law_1069 rfl (lv_at hl 3 rfl) ?_
  refine lv_iconst (v := 1) hx hb dL_law_1070 (by decide) ?_
  refine lv_iadd hx hb dL_law_1071 ?_
  refine W.eq (g2 := F0 m 1072 ls [.int 1, .ref b, .ref (hX 0)]) (by rw [show (0 + 1 : Int32) = 1 from by decide]) ?_
  refine va_sld hx hb hXs hbl hbA hS (i := 1) (vp_in_iff.mpr (by decide)) dL_law_1072 ?_
  refine lv_aload_n hx hb dL_law_1073 rfl (lv_at hl 0 rfl) ?_
  refine lv_iload_n hx hb dL_law_1074 rfl (lv_at hl 3 rfl) ?_
  refine lv_iconst (v := 2) hx hb dL_law_1075 (by decide) ?_
  refine lv_iadd hx hb dL_law_1076 ?_
  refine W.eq (g2 := F0 m 1077 ls [.int 2, .ref b, .int (xs (Int32.toNatClampNeg 1)), .ref (hX 0)]) (by rw [show (0 + 2 : Int32) = 2 from by decide]) ?_
  refine va_sld hx hb hXs hbl hbA hS (i := 2) (vp_in_iff.mpr (by decide)) dL_law_1077 ?_
  refine lw_calli (va_runV (As := [.int (xs (Int32.toNatClampNeg 1)), .int (xs (Int32.toNatClampNeg 2))]) (rest := []) ⟨hx, hb, hml, hown, hts⟩ (cf_X11_set l D ca za hX hhX ((xs (Int32.toNatClampNeg 1))) ((xs (Int32.toNatClampNeg 2))) H.size) (cwV 2 hts (gw_V (fun _ h => h) mw_661 mw_662 mw_663 mw_9 mw_660) rfl rfl rfl (by decide +kernel) ⟨Nat.le_of_ble_eq_true rfl, Nat.le_of_ble_eq_true rfl⟩) (sg_preV (ci := 11) (C := RX11) (T := TX11) (N := 10) hAX hK hPX hS hZ 0 (by decide) rfl rfl) rfl rfl hl.1 rfl (lv_room (Nat.le_of_ble_eq_true rfl)) dL_law_1078 hcl) hAX hS (fun r1 H1 locs hqr1 hkr1 hzr1 hS => ?_)
  have hPM := lw_kept hPM hdis hkr1
  clear hPX
  obtain ⟨H, hHe⟩ : ∃ z, z = H1 := ⟨_, rfl⟩
  rw [← hHe] at hS hPM
  rw [← hHe]
  refine lv_aload_n hx hb dL_law_1081 rfl (lv_at hl 2 rfl) ?_
  refine lv_aload_n hx hb dL_law_1082 rfl (lv_at hl 0 rfl) ?_
  refine lv_iload_n hx hb dL_law_1083 rfl (lv_at hl 3 rfl) ?_
  refine lv_iconst (v := 1) hx hb dL_law_1084 (by decide) ?_
  refine lv_iadd hx hb dL_law_1085 ?_
  refine W.eq (g2 := F0 m 1086 ls [.int 1, .ref b, .ref (hM 0), .int r1]) (by rw [show (0 + 1 : Int32) = 1 from by decide]) ?_
  refine va_sld hx hb hXs hbl hbA hS (i := 1) (vp_in_iff.mpr (by decide)) dL_law_1086 ?_
  refine lv_aload_n hx hb dL_law_1087 rfl (lv_at hl 0 rfl) ?_
  refine lv_iload_n hx hb dL_law_1088 rfl (lv_at hl 3 rfl) ?_
  refine lv_iconst (v := 2) hx hb dL_law_1089 (by decide) ?_
  refine lv_iadd hx hb dL_law_1090 ?_
  refine W.eq (g2 := F0 m 1091 ls [.int 2, .ref b, .int (xs (Int32.toNatClampNeg 1)), .ref (hM 0), .int r1]) (by rw [show (0 + 2 : Int32) = 2 from by decide]) ?_
  refine va_sld hx hb hXs hbl hbA hS (i := 2) (vp_in_iff.mpr (by decide)) dL_law_1091 ?_
  refine lw_calli (va_runV (As := [.int (xs (Int32.toNatClampNeg 1)), .int (xs (Int32.toNatClampNeg 2))]) (rest := [.int r1]) ⟨hx, hb, hml, hown, hts⟩ (cf_X12_set l D ca za hM hhM ((xs (Int32.toNatClampNeg 1))) ((xs (Int32.toNatClampNeg 2))) H.size) (cwV 2 hts (gw_V (fun _ h => h) mw_665 mw_666 mw_667 mw_217 mw_664) rfl rfl rfl (by decide +kernel) ⟨Nat.le_of_ble_eq_true rfl, Nat.le_of_ble_eq_true rfl⟩) (sg_preV (ci := 12) (C := RX12) (T := TX12) (N := 55) hAM hK hPM hS (show sgZ zcM za (fun q => s.heap.size ≤ q) s.heap.size s from fun i q h => by simp [zcM] at h) 0 (by decide) rfl rfl) rfl rfl hl.1 rfl (lv_room (Nat.le_of_ble_eq_true rfl)) dL_law_1092 hcl) hAM hS (fun r2 H1 locs hqr2 hkr2 hzr2 hS => ?_)
  obtain ⟨H, hHe⟩ : ∃ z, z = H1 := ⟨_, rfl⟩
  rw [← hHe] at hS
  rw [← hHe]
  obtain ⟨f1, L1, Q1, -, h1⟩ := hqr1
  obtain ⟨f2, L2, Q2, -, h2⟩ := hqr2
  have hr : r1 = r2 := by
    rcases h1 with h8 | ⟨rfl, h8⟩ <;> rcases h2 with h9 | ⟨rfl, h9⟩ <;> first | rfl | (exfalso; omega) | exact Int32.toInt_inj.mp (by have k1 : (0 : Int32).toInt = 0 := (by decide); have k2 : (-1 : Int32).toInt = -1 := (by decide); have k3 : (-2 : Int32).toInt = -2 := (by decide); omega)
  refine lv_icmp_eq (tgt := 1579) hx hb dL_law_1095 (by decide) (fun _ => ?_) (fun c => absurd hr c)
  exact hJ _ _ _ hS (lv_sub hl [0, 3] rfl)

set_option maxHeartbeats 4000000 in
set_option maxRecDepth 100000 in
theorem lc_24 {p : Program} {e : Env} {s : State} {m : MethodId} {below : List Frame} {meth : Method} {cd : Code} {Qz : State → Prop} (l : Launch) {b : Nat} {xs : Nat → Int32} {D : va_G} {ca : Nat → ClassId} {za hX hM : Nat → Nat} {cells slots : Nat} {H : Heap} {locs : List Loc} {ls : Array Slot} (hx : p.tables.exec = Jvm.exec) (hb : cd.code = code) (hml : cd.maxLocals = 4) (hown : s.vm.findClass R_law = some m.cls) (hts : ∀ w ∈ gwL, w.before #[Value.ref b] s = true) (hXs : va_X b 6 xs s s.heap) (hbl : b < s.heap.size) (hK : va_K D vwCl (tyX ca) s) (hZ : sgZ zcX za (fun q => s.heap.size ≤ q) s.heap.size s) (hhX : sgH 52 hX) (hhM : sgH 26 hM) (hAX : sgY (fun q => s.heap.size ≤ q) 52 hX s.heap.size) (hAM : sgY (fun q => s.heap.size ≤ q) 26 hM s.heap.size) (hdis : ∀ i j : Nat, i < 52 → j < 26 → hX i ≠ hM j) (hcl : cells ≤ room_1.cells ∧ slots ≤ room_1.slots) (hPX : va_P D vwCl (sgw 52 hX (eX ca hX) f0X L0 Q0) H) (hPM : va_P D vwCl (sgw 26 hM (eM ca hM) f0M L0 Q0) H) (hS : va_S (fun q => s.heap.size ≤ q) s.heap H locs) (hl : lv_has ls 4 [(0, .ref b), (1, .ref (hX 0)), (2, .ref (hM 0)), (3, .int 0)]) (hJ : ∀ (H : Heap) (locs : List Loc) (ls : Array Slot), va_S (fun q => s.heap.size ≤ q) s.heap H locs → lv_has ls 4 [(0, .ref b), (3, .int 0)] → W p l e room_1 s m #[Value.ref b] below meth cd H locs cells slots Qz (F0 m 1579 ls [])) : W p l e room_1 s m #[Value.ref b] below meth cd H locs cells slots Qz (F0 m 1100 ls []) := by
  have hbA : ¬ (fun q => s.heap.size ≤ q) b := Nat.not_le.mpr hbl
  have hown : s.vm.findClass RL = some m.cls := hown
  refine lv_aload_n hx hb dL_law_1100 rfl (lv_at hl 1 rfl) ?_
  refine lw_calli (va_runV (As := []) (rest := []) ⟨hx, hb, hml, hown, hts⟩ (cf_X11_night l D ca za hX hhX  H.size) (cwV 0 hts (gw_V (fun _ h => h) mw_669 mw_670 mw_671 mw_9 mw_668) rfl rfl rfl (by decide +kernel) ⟨Nat.le_of_ble_eq_true rfl, Nat.le_of_ble_eq_true rfl⟩) (sg_preV (ci := 11) (C := RX11) (T := TX11) (N := 10) hAX hK hPX hS hZ 0 (by decide) rfl rfl) rfl rfl hl.1 rfl (lv_room (Nat.le_of_ble_eq_true rfl)) dL_law_1101 hcl) hAX hS (fun r1 H1 locs hqr1 hkr1 hzr1 hS => ?_)
  have hPM := lw_kept hPM hdis hkr1
  clear hPX
  obtain ⟨H, hHe⟩ : ∃ z, z = H1 := ⟨_, rfl⟩
  rw [← hHe] at hS hPM
  rw [← hHe]
  refine lv_aload_n hx hb dL_law_1104 rfl (lv_at hl 2 rfl) ?_
  refine lw_calli (va_runV (As := []) (rest := [.int r1]) ⟨hx, hb, hml, hown, hts⟩ (cf_X12_night l D ca za hM hhM  H.size) (cwV 0 hts (gw_V (fun _ h => h) mw_673 mw_674 mw_675 mw_217 mw_672) rfl rfl rfl (by decide +kernel) ⟨Nat.le_of_ble_eq_true rfl, Nat.le_of_ble_eq_true rfl⟩) (sg_preV (ci := 12) (C := RX12) (T := TX12) (N := 55) hAM hK hPM hS (show sgZ zcM za (fun q => s.heap.size ≤ q) s.heap.size s from fun i q h => by simp [zcM] at h) 0 (by decide) rfl rfl) rfl rfl hl.1 rfl (lv_room (Nat.le_of_ble_eq_true rfl)) dL_law_1105 hcl) hAM hS (fun r2 H1 locs hqr2 hkr2 hzr2 hS => ?_)
  obtain ⟨H, hHe⟩ : ∃ z, z = H1 := ⟨_, rfl⟩
  rw [← hHe] at hS
  rw [← hHe]
  obtain ⟨f1, L1, Q1, -, h1⟩ := hqr1
  obtain ⟨f2, L2, Q2, -, h2⟩ := hqr2
  have hr : r1 = r2 := by
    rcases h1 with ⟨rfl, h8⟩ <;> rcases h2 with ⟨rfl, h9⟩ <;> first | rfl | (exfalso; omega) | exact Int32.toInt_inj.mp (by have k1 : (0 : Int32).toInt = 0 := (by decide); have k2 : (-1 : Int32).toInt = -1 := (by decide); have k3 : (-2 : Int32).toInt = -2 := (by decide); omega)
  refine lv_icmp_eq (tgt := 1579) hx hb dL_law_1108 (by decide) (fun _ => ?_) (fun c => absurd hr c)
  exact hJ _ _ _ hS (lv_sub hl [0, 3] rfl)

set_option maxHeartbeats 4000000 in
set_option maxRecDepth 100000 in
theorem lc_25 {p : Program} {e : Env} {s : State} {m : MethodId} {below : List Frame} {meth : Method} {cd : Code} {Qz : State → Prop} (l : Launch) {b : Nat} {xs : Nat → Int32} {D : va_G} {ca : Nat → ClassId} {za hX hM : Nat → Nat} {cells slots : Nat} {H : Heap} {locs : List Loc} {ls : Array Slot} (hx : p.tables.exec = Jvm.exec) (hb : cd.code = code) (hml : cd.maxLocals = 4) (hown : s.vm.findClass R_law = some m.cls) (hts : ∀ w ∈ gwL, w.before #[Value.ref b] s = true) (hXs : va_X b 6 xs s s.heap) (hbl : b < s.heap.size) (hK : va_K D vwCl (tyX ca) s) (hZ : sgZ zcX za (fun q => s.heap.size ≤ q) s.heap.size s) (hhX : sgH 52 hX) (hhM : sgH 26 hM) (hAX : sgY (fun q => s.heap.size ≤ q) 52 hX s.heap.size) (hAM : sgY (fun q => s.heap.size ≤ q) 26 hM s.heap.size) (hdis : ∀ i j : Nat, i < 52 → j < 26 → hX i ≠ hM j) (hcl : cells ≤ room_1.cells ∧ slots ≤ room_1.slots) (hPX : va_P D vwCl (sgw 52 hX (eX ca hX) f0X L0 Q0) H) (hPM : va_P D vwCl (sgw 26 hM (eM ca hM) f0M L0 Q0) H) (hS : va_S (fun q => s.heap.size ≤ q) s.heap H locs) (hl : lv_has ls 4 [(0, .ref b), (1, .ref (hX 0)), (2, .ref (hM 0)), (3, .int 0)]) (hJ : ∀ (H : Heap) (locs : List Loc) (ls : Array Slot), va_S (fun q => s.heap.size ≤ q) s.heap H locs → lv_has ls 4 [(0, .ref b), (3, .int 0)] → W p l e room_1 s m #[Value.ref b] below meth cd H locs cells slots Qz (F0 m 1579 ls [])) : W p l e room_1 s m #[Value.ref b] below meth cd H locs cells slots Qz (F0 m 1113 ls []) := by
  have hbA : ¬ (fun q => s.heap.size ≤ q) b := Nat.not_le.mpr hbl
  have hown : s.vm.findClass RL = some m.cls := hown
  refine lv_aload_n hx hb dL_law_1113 rfl (lv_at hl 1 rfl) ?_
  refine lv_aload_n hx hb dL_law_1114 rfl (lv_at hl 0 rfl) ?_
  refine lv_iload_n hx hb dL_law_1115 rfl (lv_at hl 3 rfl) ?_
  refine lv_iconst (v := 1) hx hb dL_law_1116 (by decide) ?_
  refine lv_iadd hx hb dL_law_1117 ?_
  refine W.eq (g2 := F0 m 1118 ls [.int 1, .ref b, .ref (hX 0)]) (by rw [show (0 + 1 : Int32) = 1 from by decide]) ?_
  refine va_sld hx hb hXs hbl hbA hS (i := 1) (vp_in_iff.mpr (by decide)) dL_law_1118 ?_
  refine lw_calli (va_runV (As := [.int (xs (Int32.toNatClampNeg 1))]) (rest := []) ⟨hx, hb, hml, hown, hts⟩ (cf_X11_led l D ca za hX hhX ((xs (Int32.toNatClampNeg 1))) H.size) (cwV 1 hts (gw_V (fun _ h => h) mw_677 mw_678 mw_679 mw_9 mw_676) rfl rfl rfl (by decide +kernel) ⟨Nat.le_of_ble_eq_true rfl, Nat.le_of_ble_eq_true rfl⟩) (sg_preV (ci := 11) (C := RX11) (T := TX11) (N := 10) hAX hK hPX hS hZ 0 (by decide) rfl rfl) rfl rfl hl.1 rfl (lv_room (Nat.le_of_ble_eq_true rfl)) dL_law_1119 hcl) hAX hS (fun r1 H1 locs hqr1 hkr1 hzr1 hS => ?_)
  have hPM := lw_kept hPM hdis hkr1
  clear hPX
  obtain ⟨H, hHe⟩ : ∃ z, z = H1 := ⟨_, rfl⟩
  rw [← hHe] at hS hPM
  rw [← hHe]
  refine lv_aload_n hx hb dL_law_1122 rfl (lv_at hl 2 rfl) ?_
  refine lv_aload_n hx hb dL_law_1123 rfl (lv_at hl 0 rfl) ?_
  refine lv_iload_n hx hb dL_law_1124 rfl (lv_at hl 3 rfl) ?_
  refine lv_iconst (v := 1) hx hb dL_law_1125 (by decide) ?_
  refine lv_iadd hx hb dL_law_1126 ?_
  refine W.eq (g2 := F0 m 1127 ls [.int 1, .ref b, .ref (hM 0), .int r1]) (by rw [show (0 + 1 : Int32) = 1 from by decide]) ?_
  refine va_sld hx hb hXs hbl hbA hS (i := 1) (vp_in_iff.mpr (by decide)) dL_law_1127 ?_
  refine lw_calli (va_runV (As := [.int (xs (Int32.toNatClampNeg 1))]) (rest := [.int r1]) ⟨hx, hb, hml, hown, hts⟩ (cf_X12_led l D ca za hM hhM ((xs (Int32.toNatClampNeg 1))) H.size) (cwV 1 hts (gw_V (fun _ h => h) mw_680 mw_337 mw_338 mw_217 mw_335) rfl rfl rfl (by decide +kernel) ⟨Nat.le_of_ble_eq_true rfl, Nat.le_of_ble_eq_true rfl⟩) (sg_preV (ci := 12) (C := RX12) (T := TX12) (N := 55) hAM hK hPM hS (show sgZ zcM za (fun q => s.heap.size ≤ q) s.heap.size s from fun i q h => by simp [zcM] at h) 0 (by decide) rfl rfl) rfl rfl hl.1 rfl (lv_room (Nat.le_of_ble_eq_true rfl)) dL_law_1128 hcl) hAM hS (fun r2 H1 locs hqr2 hkr2 hzr2 hS => ?_)
  obtain ⟨H, hHe⟩ : ∃ z, z = H1 := ⟨_, rfl⟩
  rw [← hHe] at hS
  rw [← hHe]
  obtain ⟨f1, L1, Q1, -, h1⟩ := hqr1
  obtain ⟨f2, L2, Q2, -, h2⟩ := hqr2
  have hr : r1 = r2 := by
    rcases h1 with h8 | h8 | h8 <;> rcases h2 with ⟨rfl, h9⟩ | ⟨rfl, h9⟩ | ⟨rfl, h9⟩ <;> first | rfl | (exfalso; omega) | exact Int32.toInt_inj.mp (by have k1 : (0 : Int32).toInt = 0 := (by decide); have k2 : (-1 : Int32).toInt = -1 := (by decide); have k3 : (-2 : Int32).toInt = -2 := (by decide); omega)
  refine lv_icmp_eq (tgt := 1579) hx hb dL_law_1131 (by decide) (fun _ => ?_) (fun c => absurd hr c)
  exact hJ _ _ _ hS (lv_sub hl [0, 3] rfl)

set_option maxHeartbeats 4000000 in
set_option maxRecDepth 100000 in
theorem lc_26 {p : Program} {e : Env} {s : State} {m : MethodId} {below : List Frame} {meth : Method} {cd : Code} {Qz : State → Prop} (l : Launch) {b : Nat} {xs : Nat → Int32} {D : va_G} {ca : Nat → ClassId} {za hX hM : Nat → Nat} {cells slots : Nat} {H : Heap} {locs : List Loc} {ls : Array Slot} (hx : p.tables.exec = Jvm.exec) (hb : cd.code = code) (hml : cd.maxLocals = 4) (hown : s.vm.findClass R_law = some m.cls) (hts : ∀ w ∈ gwL, w.before #[Value.ref b] s = true) (hXs : va_X b 6 xs s s.heap) (hbl : b < s.heap.size) (hK : va_K D vwCl (tyX ca) s) (hZ : sgZ zcX za (fun q => s.heap.size ≤ q) s.heap.size s) (hhX : sgH 52 hX) (hhM : sgH 26 hM) (hAX : sgY (fun q => s.heap.size ≤ q) 52 hX s.heap.size) (hAM : sgY (fun q => s.heap.size ≤ q) 26 hM s.heap.size) (hdis : ∀ i j : Nat, i < 52 → j < 26 → hX i ≠ hM j) (hcl : cells ≤ room_1.cells ∧ slots ≤ room_1.slots) (hPX : va_P D vwCl (sgw 52 hX (eX ca hX) f0X L0 Q0) H) (hPM : va_P D vwCl (sgw 26 hM (eM ca hM) f0M L0 Q0) H) (hS : va_S (fun q => s.heap.size ≤ q) s.heap H locs) (hl : lv_has ls 4 [(0, .ref b), (1, .ref (hX 0)), (2, .ref (hM 0)), (3, .int 0)]) (hJ : ∀ (H : Heap) (locs : List Loc) (ls : Array Slot), va_S (fun q => s.heap.size ≤ q) s.heap H locs → lv_has ls 4 [(0, .ref b), (3, .int 0)] → W p l e room_1 s m #[Value.ref b] below meth cd H locs cells slots Qz (F0 m 1579 ls [])) : W p l e room_1 s m #[Value.ref b] below meth cd H locs cells slots Qz (F0 m 1136 ls []) := by
  have hbA : ¬ (fun q => s.heap.size ≤ q) b := Nat.not_le.mpr hbl
  have hown : s.vm.findClass RL = some m.cls := hown
  refine lv_aload_n hx hb dL_law_1136 rfl (lv_at hl 1 rfl) ?_
  refine lw_calli (va_runV (As := []) (rest := []) ⟨hx, hb, hml, hown, hts⟩ (cf_X11_image l D ca za hX hhX  H.size) (cwV 0 hts (gw_V (fun _ h => h) mw_682 mw_683 mw_684 mw_9 mw_681) rfl rfl rfl (by decide +kernel) ⟨Nat.le_of_ble_eq_true rfl, Nat.le_of_ble_eq_true rfl⟩) (sg_preV (ci := 11) (C := RX11) (T := TX11) (N := 10) hAX hK hPX hS hZ 0 (by decide) rfl rfl) rfl rfl hl.1 rfl (lv_room (Nat.le_of_ble_eq_true rfl)) dL_law_1137 hcl) hAX hS (fun r1 H1 locs hqr1 hkr1 hzr1 hS => ?_)
  have hPM := lw_kept hPM hdis hkr1
  clear hPX
  obtain ⟨H, hHe⟩ : ∃ z, z = H1 := ⟨_, rfl⟩
  rw [← hHe] at hS hPM
  rw [← hHe]
  refine lv_aload_n hx hb dL_law_1140 rfl (lv_at hl 2 rfl) ?_
  refine lw_calli (va_runV (As := []) (rest := [.int r1]) ⟨hx, hb, hml, hown, hts⟩ (cf_X12_image l D ca za hM hhM  H.size) (cwV 0 hts (gw_V (fun _ h => h) mw_686 mw_687 mw_688 mw_217 mw_685) rfl rfl rfl (by decide +kernel) ⟨Nat.le_of_ble_eq_true rfl, Nat.le_of_ble_eq_true rfl⟩) (sg_preV (ci := 12) (C := RX12) (T := TX12) (N := 55) hAM hK hPM hS (show sgZ zcM za (fun q => s.heap.size ≤ q) s.heap.size s from fun i q h => by simp [zcM] at h) 0 (by decide) rfl rfl) rfl rfl hl.1 rfl (lv_room (Nat.le_of_ble_eq_true rfl)) dL_law_1141 hcl) hAM hS (fun r2 H1 locs hqr2 hkr2 hzr2 hS => ?_)
  obtain ⟨H, hHe⟩ : ∃ z, z = H1 := ⟨_, rfl⟩
  rw [← hHe] at hS
  rw [← hHe]
  obtain ⟨f1, L1, Q1, -, h1⟩ := hqr1
  obtain ⟨f2, L2, Q2, -, h2⟩ := hqr2
  have hr : r1 = r2 := by
    rcases h1 with ⟨rfl, h8⟩ <;> rcases h2 with ⟨rfl, h9⟩ <;> first | rfl | (exfalso; omega) | exact Int32.toInt_inj.mp (by have k1 : (0 : Int32).toInt = 0 := (by decide); have k2 : (-1 : Int32).toInt = -1 := (by decide); have k3 : (-2 : Int32).toInt = -2 := (by decide); omega)
  refine lv_icmp_eq (tgt := 1579) hx hb dL_law_1144 (by decide) (fun _ => ?_) (fun c => absurd hr c)
  exact hJ _ _ _ hS (lv_sub hl [0, 3] rfl)

set_option maxHeartbeats 4000000 in
set_option maxRecDepth 100000 in
theorem lc_27 {p : Program} {e : Env} {s : State} {m : MethodId} {below : List Frame} {meth : Method} {cd : Code} {Qz : State → Prop} (l : Launch) {b : Nat} {xs : Nat → Int32} {D : va_G} {ca : Nat → ClassId} {za hX hM : Nat → Nat} {cells slots : Nat} {H : Heap} {locs : List Loc} {ls : Array Slot} (hx : p.tables.exec = Jvm.exec) (hb : cd.code = code) (hml : cd.maxLocals = 4) (hown : s.vm.findClass R_law = some m.cls) (hts : ∀ w ∈ gwL, w.before #[Value.ref b] s = true) (hXs : va_X b 6 xs s s.heap) (hbl : b < s.heap.size) (hK : va_K D vwCl (tyX ca) s) (hZ : sgZ zcX za (fun q => s.heap.size ≤ q) s.heap.size s) (hhX : sgH 52 hX) (hhM : sgH 26 hM) (hAX : sgY (fun q => s.heap.size ≤ q) 52 hX s.heap.size) (hAM : sgY (fun q => s.heap.size ≤ q) 26 hM s.heap.size) (hdis : ∀ i j : Nat, i < 52 → j < 26 → hX i ≠ hM j) (hcl : cells ≤ room_1.cells ∧ slots ≤ room_1.slots) (hPX : va_P D vwCl (sgw 52 hX (eX ca hX) f0X L0 Q0) H) (hPM : va_P D vwCl (sgw 26 hM (eM ca hM) f0M L0 Q0) H) (hS : va_S (fun q => s.heap.size ≤ q) s.heap H locs) (hl : lv_has ls 4 [(0, .ref b), (1, .ref (hX 0)), (2, .ref (hM 0)), (3, .int 0)]) (hJ : ∀ (H : Heap) (locs : List Loc) (ls : Array Slot), va_S (fun q => s.heap.size ≤ q) s.heap H locs → lv_has ls 4 [(0, .ref b), (3, .int 0)] → W p l e room_1 s m #[Value.ref b] below meth cd H locs cells slots Qz (F0 m 1579 ls [])) : W p l e room_1 s m #[Value.ref b] below meth cd H locs cells slots Qz (F0 m 1149 ls []) := by
  have hbA : ¬ (fun q => s.heap.size ≤ q) b := Nat.not_le.mpr hbl
  have hown : s.vm.findClass RL = some m.cls := hown
  refine lv_aload_n hx hb dL_law_1149 rfl (lv_at hl 1 rfl) ?_
  refine lw_calli (va_runV (As := []) (rest := []) ⟨hx, hb, hml, hown, hts⟩ (cf_X11_back l D ca za hX hhX  H.size) (cwV 0 hts (gw_V (fun _ h => h) mw_690 mw_691 mw_692 mw_9 mw_689) rfl rfl rfl (by decide +kernel) ⟨Nat.le_of_ble_eq_true rfl, Nat.le_of_ble_eq_true rfl⟩) (sg_preV (ci := 11) (C := RX11) (T := TX11) (N := 10) hAX hK hPX hS hZ 0 (by decide) rfl rfl) rfl rfl hl.1 rfl (lv_room (Nat.le_of_ble_eq_true rfl)) dL_law_1150 hcl) hAX hS (fun r1 H1 locs hqr1 hkr1 hzr1 hS => ?_)
  have hPM := lw_kept hPM hdis hkr1
  clear hPX
  obtain ⟨H, hHe⟩ : ∃ z, z = H1 := ⟨_, rfl⟩
  rw [← hHe] at hS hPM
  rw [← hHe]
  refine lv_aload_n hx hb dL_law_1153 rfl (lv_at hl 2 rfl) ?_
  refine lw_calli (va_runV (As := []) (rest := [.int r1]) ⟨hx, hb, hml, hown, hts⟩ (cf_X12_back l D ca za hM hhM  H.size) (cwV 0 hts (gw_V (fun _ h => h) mw_694 mw_695 mw_696 mw_217 mw_693) rfl rfl rfl (by decide +kernel) ⟨Nat.le_of_ble_eq_true rfl, Nat.le_of_ble_eq_true rfl⟩) (sg_preV (ci := 12) (C := RX12) (T := TX12) (N := 55) hAM hK hPM hS (show sgZ zcM za (fun q => s.heap.size ≤ q) s.heap.size s from fun i q h => by simp [zcM] at h) 0 (by decide) rfl rfl) rfl rfl hl.1 rfl (lv_room (Nat.le_of_ble_eq_true rfl)) dL_law_1154 hcl) hAM hS (fun r2 H1 locs hqr2 hkr2 hzr2 hS => ?_)
  obtain ⟨H, hHe⟩ : ∃ z, z = H1 := ⟨_, rfl⟩
  rw [← hHe] at hS
  rw [← hHe]
  obtain ⟨f1, L1, Q1, -, h1⟩ := hqr1
  obtain ⟨f2, L2, Q2, -, h2⟩ := hqr2
  have hr : r1 = r2 := by
    rcases h1 with ⟨rfl, h8⟩ <;> rcases h2 with ⟨rfl, h9⟩ <;> first | rfl | (exfalso; omega) | exact Int32.toInt_inj.mp (by have k1 : (0 : Int32).toInt = 0 := (by decide); have k2 : (-1 : Int32).toInt = -1 := (by decide); have k3 : (-2 : Int32).toInt = -2 := (by decide); omega)
  refine lv_icmp_eq (tgt := 1579) hx hb dL_law_1157 (by decide) (fun _ => ?_) (fun c => absurd hr c)
  exact hJ _ _ _ hS (lv_sub hl [0, 3] rfl)

set_option maxHeartbeats 4000000 in
set_option maxRecDepth 100000 in
theorem lc_28 {p : Program} {e : Env} {s : State} {m : MethodId} {below : List Frame} {meth : Method} {cd : Code} {Qz : State → Prop} (l : Launch) {b : Nat} {xs : Nat → Int32} {D : va_G} {ca : Nat → ClassId} {za hX hM : Nat → Nat} {cells slots : Nat} {H : Heap} {locs : List Loc} {ls : Array Slot} (hx : p.tables.exec = Jvm.exec) (hb : cd.code = code) (hml : cd.maxLocals = 4) (hown : s.vm.findClass R_law = some m.cls) (hts : ∀ w ∈ gwL, w.before #[Value.ref b] s = true) (hXs : va_X b 6 xs s s.heap) (hbl : b < s.heap.size) (hK : va_K D vwCl (tyX ca) s) (hZ : sgZ zcX za (fun q => s.heap.size ≤ q) s.heap.size s) (hhX : sgH 52 hX) (hhM : sgH 26 hM) (hAX : sgY (fun q => s.heap.size ≤ q) 52 hX s.heap.size) (hAM : sgY (fun q => s.heap.size ≤ q) 26 hM s.heap.size) (hdis : ∀ i j : Nat, i < 52 → j < 26 → hX i ≠ hM j) (hcl : cells ≤ room_1.cells ∧ slots ≤ room_1.slots) (hPX : va_P D vwCl (sgw 52 hX (eX ca hX) f0X L0 Q0) H) (hPM : va_P D vwCl (sgw 26 hM (eM ca hM) f0M L0 Q0) H) (hS : va_S (fun q => s.heap.size ≤ q) s.heap H locs) (hl : lv_has ls 4 [(0, .ref b), (1, .ref (hX 0)), (2, .ref (hM 0)), (3, .int 0)]) (hJ : ∀ (H : Heap) (locs : List Loc) (ls : Array Slot), va_S (fun q => s.heap.size ≤ q) s.heap H locs → lv_has ls 4 [(0, .ref b), (3, .int 0)] → W p l e room_1 s m #[Value.ref b] below meth cd H locs cells slots Qz (F0 m 1579 ls [])) : W p l e room_1 s m #[Value.ref b] below meth cd H locs cells slots Qz (F0 m 1162 ls []) := by
  have hbA : ¬ (fun q => s.heap.size ≤ q) b := Nat.not_le.mpr hbl
  have hown : s.vm.findClass RL = some m.cls := hown
  refine lv_aload_n hx hb dL_law_1162 rfl (lv_at hl 1 rfl) ?_
  refine lw_calli (va_runV (As := []) (rest := []) ⟨hx, hb, hml, hown, hts⟩ (cf_X11_undo l D ca za hX hhX  H.size) (cwV 0 hts (gw_V (fun _ h => h) mw_698 mw_699 mw_700 mw_9 mw_697) rfl rfl rfl (by decide +kernel) ⟨Nat.le_of_ble_eq_true rfl, Nat.le_of_ble_eq_true rfl⟩) (sg_preV (ci := 11) (C := RX11) (T := TX11) (N := 10) hAX hK hPX hS hZ 0 (by decide) rfl rfl) rfl rfl hl.1 rfl (lv_room (Nat.le_of_ble_eq_true rfl)) dL_law_1163 hcl) hAX hS (fun r1 H1 locs hqr1 hkr1 hzr1 hS => ?_)
  have hPM := lw_kept hPM hdis hkr1
  clear hPX
  obtain ⟨H, hHe⟩ : ∃ z, z = H1 := ⟨_, rfl⟩
  rw [← hHe] at hS hPM
  rw [← hHe]
  refine lv_aload_n hx hb dL_law_1166 rfl (lv_at hl 2 rfl) ?_
  refine lw_calli (va_runV (As := []) (rest := [.int r1]) ⟨hx, hb, hml, hown, hts⟩ (cf_X12_undo l D ca za hM hhM  H.size) (cwV 0 hts (gw_V (fun _ h => h) mw_702 mw_703 mw_704 mw_217 mw_701) rfl rfl rfl (by decide +kernel) ⟨Nat.le_of_ble_eq_true rfl, Nat.le_of_ble_eq_true rfl⟩) (sg_preV (ci := 12) (C := RX12) (T := TX12) (N := 55) hAM hK hPM hS (show sgZ zcM za (fun q => s.heap.size ≤ q) s.heap.size s from fun i q h => by simp [zcM] at h) 0 (by decide) rfl rfl) rfl rfl hl.1 rfl (lv_room (Nat.le_of_ble_eq_true rfl)) dL_law_1167 hcl) hAM hS (fun r2 H1 locs hqr2 hkr2 hzr2 hS => ?_)
  obtain ⟨H, hHe⟩ : ∃ z, z = H1 := ⟨_, rfl⟩
  rw [← hHe] at hS
  rw [← hHe]
  obtain ⟨f1, L1, Q1, -, h1⟩ := hqr1
  obtain ⟨f2, L2, Q2, -, h2⟩ := hqr2
  have hr : r1 = r2 := by
    rcases h1 with ⟨rfl, h8⟩ <;> rcases h2 with ⟨rfl, h9⟩ <;> first | rfl | (exfalso; omega) | exact Int32.toInt_inj.mp (by have k1 : (0 : Int32).toInt = 0 := (by decide); have k2 : (-1 : Int32).toInt = -1 := (by decide); have k3 : (-2 : Int32).toInt = -2 := (by decide); omega)
  refine lv_icmp_eq (tgt := 1579) hx hb dL_law_1170 (by decide) (fun _ => ?_) (fun c => absurd hr c)
  exact hJ _ _ _ hS (lv_sub hl [0, 3] rfl)

set_option maxHeartbeats 4000000 in
set_option maxRecDepth 100000 in
theorem lc_29 {p : Program} {e : Env} {s : State} {m : MethodId} {below : List Frame} {meth : Method} {cd : Code} {Qz : State → Prop} (l : Launch) {b : Nat} {xs : Nat → Int32} {D : va_G} {ca : Nat → ClassId} {za hX hM : Nat → Nat} {cells slots : Nat} {H : Heap} {locs : List Loc} {ls : Array Slot} (hx : p.tables.exec = Jvm.exec) (hb : cd.code = code) (hml : cd.maxLocals = 4) (hown : s.vm.findClass R_law = some m.cls) (hts : ∀ w ∈ gwL, w.before #[Value.ref b] s = true) (hXs : va_X b 6 xs s s.heap) (hbl : b < s.heap.size) (hK : va_K D vwCl (tyX ca) s) (hZ : sgZ zcX za (fun q => s.heap.size ≤ q) s.heap.size s) (hhX : sgH 52 hX) (hhM : sgH 26 hM) (hAX : sgY (fun q => s.heap.size ≤ q) 52 hX s.heap.size) (hAM : sgY (fun q => s.heap.size ≤ q) 26 hM s.heap.size) (hdis : ∀ i j : Nat, i < 52 → j < 26 → hX i ≠ hM j) (hcl : cells ≤ room_1.cells ∧ slots ≤ room_1.slots) (hPX : va_P D vwCl (sgw 52 hX (eX ca hX) f0X L0 Q0) H) (hPM : va_P D vwCl (sgw 26 hM (eM ca hM) f0M L0 Q0) H) (hS : va_S (fun q => s.heap.size ≤ q) s.heap H locs) (hl : lv_has ls 4 [(0, .ref b), (1, .ref (hX 0)), (2, .ref (hM 0)), (3, .int 0)]) (hJ : ∀ (H : Heap) (locs : List Loc) (ls : Array Slot), va_S (fun q => s.heap.size ≤ q) s.heap H locs → lv_has ls 4 [(0, .ref b), (3, .int 0)] → W p l e room_1 s m #[Value.ref b] below meth cd H locs cells slots Qz (F0 m 1579 ls [])) : W p l e room_1 s m #[Value.ref b] below meth cd H locs cells slots Qz (F0 m 1175 ls []) := by
  have hbA : ¬ (fun q => s.heap.size ≤ q) b := Nat.not_le.mpr hbl
  have hown : s.vm.findClass RL = some m.cls := hown
  refine lv_aload_n hx hb dL_law_1175 rfl (lv_at hl 1 rfl) ?_
  refine lw_calli (va_runV (As := []) (rest := []) ⟨hx, hb, hml, hown, hts⟩ (cf_X11_redo l D ca za hX hhX  H.size) (cwV 0 hts (gw_V (fun _ h => h) mw_706 mw_707 mw_708 mw_9 mw_705) rfl rfl rfl (by decide +kernel) ⟨Nat.le_of_ble_eq_true rfl, Nat.le_of_ble_eq_true rfl⟩) (sg_preV (ci := 11) (C := RX11) (T := TX11) (N := 10) hAX hK hPX hS hZ 0 (by decide) rfl rfl) rfl rfl hl.1 rfl (lv_room (Nat.le_of_ble_eq_true rfl)) dL_law_1176 hcl) hAX hS (fun r1 H1 locs hqr1 hkr1 hzr1 hS => ?_)
  have hPM := lw_kept hPM hdis hkr1
  clear hPX
  obtain ⟨H, hHe⟩ : ∃ z, z = H1 := ⟨_, rfl⟩
  rw [← hHe] at hS hPM
  rw [← hHe]
  refine lv_aload_n hx hb dL_law_1179 rfl (lv_at hl 2 rfl) ?_
  refine lw_calli (va_runV (As := []) (rest := [.int r1]) ⟨hx, hb, hml, hown, hts⟩ (cf_X12_redo l D ca za hM hhM  H.size) (cwV 0 hts (gw_V (fun _ h => h) mw_710 mw_711 mw_712 mw_217 mw_709) rfl rfl rfl (by decide +kernel) ⟨Nat.le_of_ble_eq_true rfl, Nat.le_of_ble_eq_true rfl⟩) (sg_preV (ci := 12) (C := RX12) (T := TX12) (N := 55) hAM hK hPM hS (show sgZ zcM za (fun q => s.heap.size ≤ q) s.heap.size s from fun i q h => by simp [zcM] at h) 0 (by decide) rfl rfl) rfl rfl hl.1 rfl (lv_room (Nat.le_of_ble_eq_true rfl)) dL_law_1180 hcl) hAM hS (fun r2 H1 locs hqr2 hkr2 hzr2 hS => ?_)
  obtain ⟨H, hHe⟩ : ∃ z, z = H1 := ⟨_, rfl⟩
  rw [← hHe] at hS
  rw [← hHe]
  obtain ⟨f1, L1, Q1, -, h1⟩ := hqr1
  obtain ⟨f2, L2, Q2, -, h2⟩ := hqr2
  have hr : r1 = r2 := by
    rcases h1 with ⟨rfl, h8⟩ <;> rcases h2 with ⟨rfl, h9⟩ <;> first | rfl | (exfalso; omega) | exact Int32.toInt_inj.mp (by have k1 : (0 : Int32).toInt = 0 := (by decide); have k2 : (-1 : Int32).toInt = -1 := (by decide); have k3 : (-2 : Int32).toInt = -2 := (by decide); omega)
  refine lv_icmp_eq (tgt := 1579) hx hb dL_law_1183 (by decide) (fun _ => ?_) (fun c => absurd hr c)
  exact hJ _ _ _ hS (lv_sub hl [0, 3] rfl)

set_option maxHeartbeats 4000000 in
set_option maxRecDepth 100000 in
theorem lc_30 {p : Program} {e : Env} {s : State} {m : MethodId} {below : List Frame} {meth : Method} {cd : Code} {Qz : State → Prop} (l : Launch) {b : Nat} {xs : Nat → Int32} {D : va_G} {ca : Nat → ClassId} {za hX hM : Nat → Nat} {cells slots : Nat} {H : Heap} {locs : List Loc} {ls : Array Slot} (hx : p.tables.exec = Jvm.exec) (hb : cd.code = code) (hml : cd.maxLocals = 4) (hown : s.vm.findClass R_law = some m.cls) (hts : ∀ w ∈ gwL, w.before #[Value.ref b] s = true) (hXs : va_X b 6 xs s s.heap) (hbl : b < s.heap.size) (hK : va_K D vwCl (tyX ca) s) (hZ : sgZ zcX za (fun q => s.heap.size ≤ q) s.heap.size s) (hhX : sgH 52 hX) (hhM : sgH 26 hM) (hAX : sgY (fun q => s.heap.size ≤ q) 52 hX s.heap.size) (hAM : sgY (fun q => s.heap.size ≤ q) 26 hM s.heap.size) (hdis : ∀ i j : Nat, i < 52 → j < 26 → hX i ≠ hM j) (hcl : cells ≤ room_1.cells ∧ slots ≤ room_1.slots) (hPX : va_P D vwCl (sgw 52 hX (eX ca hX) f0X L0 Q0) H) (hPM : va_P D vwCl (sgw 26 hM (eM ca hM) f0M L0 Q0) H) (hS : va_S (fun q => s.heap.size ≤ q) s.heap H locs) (hl : lv_has ls 4 [(0, .ref b), (1, .ref (hX 0)), (2, .ref (hM 0)), (3, .int 0)]) (hJ : ∀ (H : Heap) (locs : List Loc) (ls : Array Slot), va_S (fun q => s.heap.size ≤ q) s.heap H locs → lv_has ls 4 [(0, .ref b), (3, .int 0)] → W p l e room_1 s m #[Value.ref b] below meth cd H locs cells slots Qz (F0 m 1579 ls [])) : W p l e room_1 s m #[Value.ref b] below meth cd H locs cells slots Qz (F0 m 1188 ls []) := by
  have hbA : ¬ (fun q => s.heap.size ≤ q) b := Nat.not_le.mpr hbl
  have hown : s.vm.findClass RL = some m.cls := hown
  refine lv_aload_n hx hb dL_law_1188 rfl (lv_at hl 1 rfl) ?_
  refine lv_aload_n hx hb dL_law_1189 rfl (lv_at hl 0 rfl) ?_
  refine lv_iload_n hx hb dL_law_1190 rfl (lv_at hl 3 rfl) ?_
  refine lv_iconst (v := 1) hx hb dL_law_1191 (by decide) ?_
  refine lv_iadd hx hb dL_law_1192 ?_
  refine W.eq (g2 := F0 m 1193 ls [.int 1, .ref b, .ref (hX 0)]) (by rw [show (0 + 1 : Int32) = 1 from by decide]) ?_
  refine va_sld hx hb hXs hbl hbA hS (i := 1) (vp_in_iff.mpr (by decide)) dL_law_1193 ?_
  refine lw_calli (va_runV (As := [.int (xs (Int32.toNatClampNeg 1))]) (rest := []) ⟨hx, hb, hml, hown, hts⟩ (cf_X11_body l D ca za hX hhX ((xs (Int32.toNatClampNeg 1))) H.size) (cwV 1 hts (gw_V (fun _ h => h) mw_714 mw_715 mw_716 mw_9 mw_713) rfl rfl rfl (by decide +kernel) ⟨Nat.le_of_ble_eq_true rfl, Nat.le_of_ble_eq_true rfl⟩) (sg_preV (ci := 11) (C := RX11) (T := TX11) (N := 10) hAX hK hPX hS hZ 0 (by decide) rfl rfl) rfl rfl hl.1 rfl (lv_room (Nat.le_of_ble_eq_true rfl)) dL_law_1194 hcl) hAX hS (fun r1 H1 locs hqr1 hkr1 hzr1 hS => ?_)
  have hPM := lw_kept hPM hdis hkr1
  clear hPX
  obtain ⟨H, hHe⟩ : ∃ z, z = H1 := ⟨_, rfl⟩
  rw [← hHe] at hS hPM
  rw [← hHe]
  refine lv_aload_n hx hb dL_law_1197 rfl (lv_at hl 2 rfl) ?_
  refine lv_aload_n hx hb dL_law_1198 rfl (lv_at hl 0 rfl) ?_
  refine lv_iload_n hx hb dL_law_1199 rfl (lv_at hl 3 rfl) ?_
  refine lv_iconst (v := 1) hx hb dL_law_1200 (by decide) ?_
  refine lv_iadd hx hb dL_law_1201 ?_
  refine W.eq (g2 := F0 m 1202 ls [.int 1, .ref b, .ref (hM 0), .int r1]) (by rw [show (0 + 1 : Int32) = 1 from by decide]) ?_
  refine va_sld hx hb hXs hbl hbA hS (i := 1) (vp_in_iff.mpr (by decide)) dL_law_1202 ?_
  refine lw_calli (va_runV (As := [.int (xs (Int32.toNatClampNeg 1))]) (rest := [.int r1]) ⟨hx, hb, hml, hown, hts⟩ (cf_X12_body l D ca za hM hhM ((xs (Int32.toNatClampNeg 1))) H.size) (cwV 1 hts (gw_V (fun _ h => h) mw_718 mw_719 mw_720 mw_217 mw_717) rfl rfl rfl (by decide +kernel) ⟨Nat.le_of_ble_eq_true rfl, Nat.le_of_ble_eq_true rfl⟩) (sg_preV (ci := 12) (C := RX12) (T := TX12) (N := 55) hAM hK hPM hS (show sgZ zcM za (fun q => s.heap.size ≤ q) s.heap.size s from fun i q h => by simp [zcM] at h) 0 (by decide) rfl rfl) rfl rfl hl.1 rfl (lv_room (Nat.le_of_ble_eq_true rfl)) dL_law_1203 hcl) hAM hS (fun r2 H1 locs hqr2 hkr2 hzr2 hS => ?_)
  obtain ⟨H, hHe⟩ : ∃ z, z = H1 := ⟨_, rfl⟩
  rw [← hHe] at hS
  rw [← hHe]
  obtain ⟨f1, L1, Q1, -, h1⟩ := hqr1
  obtain ⟨f2, L2, Q2, -, h2⟩ := hqr2
  have hr : r1 = r2 := by
    rcases h1 with ⟨rfl, h8⟩ | ⟨rfl, h8⟩ <;> rcases h2 with ⟨rfl, h9⟩ | ⟨rfl, h9⟩ <;> first | rfl | (exfalso; omega) | exact Int32.toInt_inj.mp (by have k1 : (0 : Int32).toInt = 0 := (by decide); have k2 : (-1 : Int32).toInt = -1 := (by decide); have k3 : (-2 : Int32).toInt = -2 := (by decide); omega)
  refine lv_icmp_eq (tgt := 1579) hx hb dL_law_1206 (by decide) (fun _ => ?_) (fun c => absurd hr c)
  exact hJ _ _ _ hS (lv_sub hl [0, 3] rfl)

set_option maxHeartbeats 4000000 in
set_option maxRecDepth 100000 in
theorem lc_31 {p : Program} {e : Env} {s : State} {m : MethodId} {below : List Frame} {meth : Method} {cd : Code} {Qz : State → Prop} (l : Launch) {b : Nat} {xs : Nat → Int32} {D : va_G} {ca : Nat → ClassId} {za hX hM : Nat → Nat} {cells slots : Nat} {H : Heap} {locs : List Loc} {ls : Array Slot} (hx : p.tables.exec = Jvm.exec) (hb : cd.code = code) (hml : cd.maxLocals = 4) (hown : s.vm.findClass R_law = some m.cls) (hts : ∀ w ∈ gwL, w.before #[Value.ref b] s = true) (hXs : va_X b 6 xs s s.heap) (hbl : b < s.heap.size) (hK : va_K D vwCl (tyX ca) s) (hZ : sgZ zcX za (fun q => s.heap.size ≤ q) s.heap.size s) (hhX : sgH 52 hX) (hhM : sgH 26 hM) (hAX : sgY (fun q => s.heap.size ≤ q) 52 hX s.heap.size) (hAM : sgY (fun q => s.heap.size ≤ q) 26 hM s.heap.size) (hdis : ∀ i j : Nat, i < 52 → j < 26 → hX i ≠ hM j) (hcl : cells ≤ room_1.cells ∧ slots ≤ room_1.slots) (hPX : va_P D vwCl (sgw 52 hX (eX ca hX) f0X L0 Q0) H) (hPM : va_P D vwCl (sgw 26 hM (eM ca hM) f0M L0 Q0) H) (hS : va_S (fun q => s.heap.size ≤ q) s.heap H locs) (hl : lv_has ls 4 [(0, .ref b), (1, .ref (hX 0)), (2, .ref (hM 0)), (3, .int 0)]) (hJ : ∀ (H : Heap) (locs : List Loc) (ls : Array Slot), va_S (fun q => s.heap.size ≤ q) s.heap H locs → lv_has ls 4 [(0, .ref b), (3, .int 0)] → W p l e room_1 s m #[Value.ref b] below meth cd H locs cells slots Qz (F0 m 1579 ls [])) : W p l e room_1 s m #[Value.ref b] below meth cd H locs cells slots Qz (F0 m 1211 ls []) := by
  have hbA : ¬ (fun q => s.heap.size ≤ q) b := Nat.not_le.mpr hbl
  have hown : s.vm.findClass RL = some m.cls := hown
  refine lv_aload_n hx hb dL_law_1211 rfl (lv_at hl 1 rfl) ?_
  refine lv_aload_n hx hb dL_law_1212 rfl (lv_at hl 0 rfl) ?_
  refine lv_iload_n hx hb dL_law_1213 rfl (lv_at hl 3 rfl) ?_
  refine lv_iconst (v := 1) hx hb dL_law_1214 (by decide) ?_
  refine lv_iadd hx hb dL_law_1215 ?_
  refine W.eq (g2 := F0 m 1216 ls [.int 1, .ref b, .ref (hX 0)]) (by rw [show (0 + 1 : Int32) = 1 from by decide]) ?_
  refine va_sld hx hb hXs hbl hbA hS (i := 1) (vp_in_iff.mpr (by decide)) dL_law_1216 ?_
  refine lv_aload_n hx hb dL_law_1217 rfl (lv_at hl 0 rfl) ?_
  refine lv_iload_n hx hb dL_law_1218 rfl (lv_at hl 3 rfl) ?_
  refine lv_iconst (v := 2) hx hb dL_law_1219 (by decide) ?_
  refine lv_iadd hx hb dL_law_1220 ?_
  refine W.eq (g2 := F0 m 1221 ls [.int 2, .ref b, .int (xs (Int32.toNatClampNeg 1)), .ref (hX 0)]) (by rw [show (0 + 2 : Int32) = 2 from by decide]) ?_
  refine va_sld hx hb hXs hbl hbA hS (i := 2) (vp_in_iff.mpr (by decide)) dL_law_1221 ?_
  refine lv_aload_n hx hb dL_law_1222 rfl (lv_at hl 0 rfl) ?_
  refine lv_iload_n hx hb dL_law_1223 rfl (lv_at hl 3 rfl) ?_
  refine lv_iconst (v := 3) hx hb dL_law_1224 (by decide) ?_
  refine lv_iadd hx hb dL_law_1225 ?_
  refine W.eq (g2 := F0 m 1226 ls [.int 3, .ref b, .int (xs (Int32.toNatClampNeg 2)), .int (xs (Int32.toNatClampNeg 1)), .ref (hX 0)]) (by rw [show (0 + 3 : Int32) = 3 from by decide]) ?_
  refine va_sld hx hb hXs hbl hbA hS (i := 3) (vp_in_iff.mpr (by decide)) dL_law_1226 ?_
  refine lw_calli (va_runV (As := [.int (xs (Int32.toNatClampNeg 1)), .int (xs (Int32.toNatClampNeg 2)), .int (xs (Int32.toNatClampNeg 3))]) (rest := []) ⟨hx, hb, hml, hown, hts⟩ (cf_X11_act l D ca za hX hhX ((xs (Int32.toNatClampNeg 1))) ((xs (Int32.toNatClampNeg 2))) ((xs (Int32.toNatClampNeg 3))) H.size) (cwV 3 hts (gw_V (fun _ h => h) mw_722 mw_723 mw_724 mw_9 mw_721) rfl rfl rfl (by decide +kernel) ⟨Nat.le_of_ble_eq_true rfl, Nat.le_of_ble_eq_true rfl⟩) (sg_preV (ci := 11) (C := RX11) (T := TX11) (N := 10) hAX hK hPX hS hZ 0 (by decide) rfl rfl) rfl rfl hl.1 rfl (lv_room (Nat.le_of_ble_eq_true rfl)) dL_law_1227 hcl) hAX hS (fun r1 H1 locs hqr1 hkr1 hzr1 hS => ?_)
  have hPM := lw_kept hPM hdis hkr1
  clear hPX
  obtain ⟨H, hHe⟩ : ∃ z, z = H1 := ⟨_, rfl⟩
  rw [← hHe] at hS hPM
  rw [← hHe]
  refine lv_aload_n hx hb dL_law_1230 rfl (lv_at hl 2 rfl) ?_
  refine lv_aload_n hx hb dL_law_1231 rfl (lv_at hl 0 rfl) ?_
  refine lv_iload_n hx hb dL_law_1232 rfl (lv_at hl 3 rfl) ?_
  refine lv_iconst (v := 1) hx hb dL_law_1233 (by decide) ?_
  refine lv_iadd hx hb dL_law_1234 ?_
  refine W.eq (g2 := F0 m 1235 ls [.int 1, .ref b, .ref (hM 0), .int r1]) (by rw [show (0 + 1 : Int32) = 1 from by decide]) ?_
  refine va_sld hx hb hXs hbl hbA hS (i := 1) (vp_in_iff.mpr (by decide)) dL_law_1235 ?_
  refine lv_aload_n hx hb dL_law_1236 rfl (lv_at hl 0 rfl) ?_
  refine lv_iload_n hx hb dL_law_1237 rfl (lv_at hl 3 rfl) ?_
  refine lv_iconst (v := 2) hx hb dL_law_1238 (by decide) ?_
  refine lv_iadd hx hb dL_law_1239 ?_
  refine W.eq (g2 := F0 m 1240 ls [.int 2, .ref b, .int (xs (Int32.toNatClampNeg 1)), .ref (hM 0), .int r1]) (by rw [show (0 + 2 : Int32) = 2 from by decide]) ?_
  refine va_sld hx hb hXs hbl hbA hS (i := 2) (vp_in_iff.mpr (by decide)) dL_law_1240 ?_
  refine lv_aload_n hx hb dL_law_1241 rfl (lv_at hl 0 rfl) ?_
  refine lv_iload_n hx hb dL_law_1242 rfl (lv_at hl 3 rfl) ?_
  refine lv_iconst (v := 3) hx hb dL_law_1243 (by decide) ?_
  refine lv_iadd hx hb dL_law_1244 ?_
  refine W.eq (g2 := F0 m 1245 ls [.int 3, .ref b, .int (xs (Int32.toNatClampNeg 2)), .int (xs (Int32.toNatClampNeg 1)), .ref (hM 0), .int r1]) (by rw [show (0 + 3 : Int32) = 3 from by decide]) ?_
  refine va_sld hx hb hXs hbl hbA hS (i := 3) (vp_in_iff.mpr (by decide)) dL_law_1245 ?_
  refine lw_calli (va_runV (As := [.int (xs (Int32.toNatClampNeg 1)), .int (xs (Int32.toNatClampNeg 2)), .int (xs (Int32.toNatClampNeg 3))]) (rest := [.int r1]) ⟨hx, hb, hml, hown, hts⟩ (cf_X12_act l D ca za hM hhM ((xs (Int32.toNatClampNeg 1))) ((xs (Int32.toNatClampNeg 2))) ((xs (Int32.toNatClampNeg 3))) H.size) (cwV 3 hts (gw_V (fun _ h => h) mw_726 mw_727 mw_728 mw_217 mw_725) rfl rfl rfl (by decide +kernel) ⟨Nat.le_of_ble_eq_true rfl, Nat.le_of_ble_eq_true rfl⟩) (sg_preV (ci := 12) (C := RX12) (T := TX12) (N := 55) hAM hK hPM hS (show sgZ zcM za (fun q => s.heap.size ≤ q) s.heap.size s from fun i q h => by simp [zcM] at h) 0 (by decide) rfl rfl) rfl rfl hl.1 rfl (lv_room (Nat.le_of_ble_eq_true rfl)) dL_law_1246 hcl) hAM hS (fun r2 H1 locs hqr2 hkr2 hzr2 hS => ?_)
  obtain ⟨H, hHe⟩ : ∃ z, z = H1 := ⟨_, rfl⟩
  rw [← hHe] at hS
  rw [← hHe]
  obtain ⟨f1, L1, Q1, -, h1⟩ := hqr1
  obtain ⟨f2, L2, Q2, -, h2⟩ := hqr2
  have hr : r1 = r2 := by
    rcases h1 with ⟨rfl, h8⟩ <;> rcases h2 with ⟨rfl, h9⟩ <;> first | rfl | (exfalso; omega) | exact Int32.toInt_inj.mp (by have k1 : (0 : Int32).toInt = 0 := (by decide); have k2 : (-1 : Int32).toInt = -1 := (by decide); have k3 : (-2 : Int32).toInt = -2 := (by decide); omega)
  refine lv_icmp_eq (tgt := 1579) hx hb dL_law_1249 (by decide) (fun _ => ?_) (fun c => absurd hr c)
  exact hJ _ _ _ hS (lv_sub hl [0, 3] rfl)

set_option maxHeartbeats 4000000 in
set_option maxRecDepth 100000 in
theorem lc_32 {p : Program} {e : Env} {s : State} {m : MethodId} {below : List Frame} {meth : Method} {cd : Code} {Qz : State → Prop} (l : Launch) {b : Nat} {xs : Nat → Int32} {D : va_G} {ca : Nat → ClassId} {za hX hM : Nat → Nat} {cells slots : Nat} {H : Heap} {locs : List Loc} {ls : Array Slot} (hx : p.tables.exec = Jvm.exec) (hb : cd.code = code) (hml : cd.maxLocals = 4) (hown : s.vm.findClass R_law = some m.cls) (hts : ∀ w ∈ gwL, w.before #[Value.ref b] s = true) (hXs : va_X b 6 xs s s.heap) (hbl : b < s.heap.size) (hK : va_K D vwCl (tyX ca) s) (hZ : sgZ zcX za (fun q => s.heap.size ≤ q) s.heap.size s) (hhX : sgH 52 hX) (hhM : sgH 26 hM) (hAX : sgY (fun q => s.heap.size ≤ q) 52 hX s.heap.size) (hAM : sgY (fun q => s.heap.size ≤ q) 26 hM s.heap.size) (hdis : ∀ i j : Nat, i < 52 → j < 26 → hX i ≠ hM j) (hcl : cells ≤ room_1.cells ∧ slots ≤ room_1.slots) (hPX : va_P D vwCl (sgw 52 hX (eX ca hX) f0X L0 Q0) H) (hPM : va_P D vwCl (sgw 26 hM (eM ca hM) f0M L0 Q0) H) (hS : va_S (fun q => s.heap.size ≤ q) s.heap H locs) (hl : lv_has ls 4 [(0, .ref b), (1, .ref (hX 0)), (2, .ref (hM 0)), (3, .int 0)]) (hJ : ∀ (H : Heap) (locs : List Loc) (ls : Array Slot), va_S (fun q => s.heap.size ≤ q) s.heap H locs → lv_has ls 4 [(0, .ref b), (3, .int 0)] → W p l e room_1 s m #[Value.ref b] below meth cd H locs cells slots Qz (F0 m 1579 ls [])) : W p l e room_1 s m #[Value.ref b] below meth cd H locs cells slots Qz (F0 m 1254 ls []) := by
  have hbA : ¬ (fun q => s.heap.size ≤ q) b := Nat.not_le.mpr hbl
  have hown : s.vm.findClass RL = some m.cls := hown
  refine lv_aload_n hx hb dL_law_1254 rfl (lv_at hl 1 rfl) ?_
  refine lv_aload_n hx hb dL_law_1255 rfl (lv_at hl 0 rfl) ?_
  refine lv_iload_n hx hb dL_law_1256 rfl (lv_at hl 3 rfl) ?_
  refine lv_iconst (v := 1) hx hb dL_law_1257 (by decide) ?_
  refine lv_iadd hx hb dL_law_1258 ?_
  refine W.eq (g2 := F0 m 1259 ls [.int 1, .ref b, .ref (hX 0)]) (by rw [show (0 + 1 : Int32) = 1 from by decide]) ?_
  refine va_sld hx hb hXs hbl hbA hS (i := 1) (vp_in_iff.mpr (by decide)) dL_law_1259 ?_
  refine lw_calli (va_runV (As := [.int (xs (Int32.toNatClampNeg 1))]) (rest := []) ⟨hx, hb, hml, hown, hts⟩ (cf_X11_trace l D ca za hX hhX ((xs (Int32.toNatClampNeg 1))) H.size) (cwV 1 hts (gw_V (fun _ h => h) mw_730 mw_731 mw_732 mw_9 mw_729) rfl rfl rfl (by decide +kernel) ⟨Nat.le_of_ble_eq_true rfl, Nat.le_of_ble_eq_true rfl⟩) (sg_preV (ci := 11) (C := RX11) (T := TX11) (N := 10) hAX hK hPX hS hZ 0 (by decide) rfl rfl) rfl rfl hl.1 rfl (lv_room (Nat.le_of_ble_eq_true rfl)) dL_law_1260 hcl) hAX hS (fun r1 H1 locs hqr1 hkr1 hzr1 hS => ?_)
  have hPM := lw_kept hPM hdis hkr1
  clear hPX
  obtain ⟨H, hHe⟩ : ∃ z, z = H1 := ⟨_, rfl⟩
  rw [← hHe] at hS hPM
  rw [← hHe]
  refine lv_aload_n hx hb dL_law_1263 rfl (lv_at hl 2 rfl) ?_
  refine lv_aload_n hx hb dL_law_1264 rfl (lv_at hl 0 rfl) ?_
  refine lv_iload_n hx hb dL_law_1265 rfl (lv_at hl 3 rfl) ?_
  refine lv_iconst (v := 1) hx hb dL_law_1266 (by decide) ?_
  refine lv_iadd hx hb dL_law_1267 ?_
  refine W.eq (g2 := F0 m 1268 ls [.int 1, .ref b, .ref (hM 0), .int r1]) (by rw [show (0 + 1 : Int32) = 1 from by decide]) ?_
  refine va_sld hx hb hXs hbl hbA hS (i := 1) (vp_in_iff.mpr (by decide)) dL_law_1268 ?_
  refine lw_calli (va_runV (As := [.int (xs (Int32.toNatClampNeg 1))]) (rest := [.int r1]) ⟨hx, hb, hml, hown, hts⟩ (cf_X12_trace l D ca za hM hhM ((xs (Int32.toNatClampNeg 1))) H.size) (cwV 1 hts (gw_V (fun _ h => h) mw_734 mw_735 mw_736 mw_217 mw_733) rfl rfl rfl (by decide +kernel) ⟨Nat.le_of_ble_eq_true rfl, Nat.le_of_ble_eq_true rfl⟩) (sg_preV (ci := 12) (C := RX12) (T := TX12) (N := 55) hAM hK hPM hS (show sgZ zcM za (fun q => s.heap.size ≤ q) s.heap.size s from fun i q h => by simp [zcM] at h) 0 (by decide) rfl rfl) rfl rfl hl.1 rfl (lv_room (Nat.le_of_ble_eq_true rfl)) dL_law_1269 hcl) hAM hS (fun r2 H1 locs hqr2 hkr2 hzr2 hS => ?_)
  obtain ⟨H, hHe⟩ : ∃ z, z = H1 := ⟨_, rfl⟩
  rw [← hHe] at hS
  rw [← hHe]
  obtain ⟨f1, L1, Q1, -, h1⟩ := hqr1
  obtain ⟨f2, L2, Q2, -, h2⟩ := hqr2
  have hr : r1 = r2 := by
    rcases h1 with ⟨rfl, h8⟩ <;> rcases h2 with ⟨rfl, h9⟩ <;> first | rfl | (exfalso; omega) | exact Int32.toInt_inj.mp (by have k1 : (0 : Int32).toInt = 0 := (by decide); have k2 : (-1 : Int32).toInt = -1 := (by decide); have k3 : (-2 : Int32).toInt = -2 := (by decide); omega)
  refine lv_icmp_eq (tgt := 1579) hx hb dL_law_1272 (by decide) (fun _ => ?_) (fun c => absurd hr c)
  exact hJ _ _ _ hS (lv_sub hl [0, 3] rfl)

set_option maxHeartbeats 4000000 in
set_option maxRecDepth 100000 in
theorem lc_33 {p : Program} {e : Env} {s : State} {m : MethodId} {below : List Frame} {meth : Method} {cd : Code} {Qz : State → Prop} (l : Launch) {b : Nat} {xs : Nat → Int32} {D : va_G} {ca : Nat → ClassId} {za hX hM : Nat → Nat} {cells slots : Nat} {H : Heap} {locs : List Loc} {ls : Array Slot} (hx : p.tables.exec = Jvm.exec) (hb : cd.code = code) (hml : cd.maxLocals = 4) (hown : s.vm.findClass R_law = some m.cls) (hts : ∀ w ∈ gwL, w.before #[Value.ref b] s = true) (hXs : va_X b 6 xs s s.heap) (hbl : b < s.heap.size) (hK : va_K D vwCl (tyX ca) s) (hZ : sgZ zcX za (fun q => s.heap.size ≤ q) s.heap.size s) (hhX : sgH 52 hX) (hhM : sgH 26 hM) (hAX : sgY (fun q => s.heap.size ≤ q) 52 hX s.heap.size) (hAM : sgY (fun q => s.heap.size ≤ q) 26 hM s.heap.size) (hdis : ∀ i j : Nat, i < 52 → j < 26 → hX i ≠ hM j) (hcl : cells ≤ room_1.cells ∧ slots ≤ room_1.slots) (hPX : va_P D vwCl (sgw 52 hX (eX ca hX) f0X L0 Q0) H) (hPM : va_P D vwCl (sgw 26 hM (eM ca hM) f0M L0 Q0) H) (hS : va_S (fun q => s.heap.size ≤ q) s.heap H locs) (hl : lv_has ls 4 [(0, .ref b), (1, .ref (hX 0)), (2, .ref (hM 0)), (3, .int 0)]) (hJ : ∀ (H : Heap) (locs : List Loc) (ls : Array Slot), va_S (fun q => s.heap.size ≤ q) s.heap H locs → lv_has ls 4 [(0, .ref b), (3, .int 0)] → W p l e room_1 s m #[Value.ref b] below meth cd H locs cells slots Qz (F0 m 1579 ls [])) : W p l e room_1 s m #[Value.ref b] below meth cd H locs cells slots Qz (F0 m 1277 ls []) := by
  have hbA : ¬ (fun q => s.heap.size ≤ q) b := Nat.not_le.mpr hbl
  have hown : s.vm.findClass RL = some m.cls := hown
  refine lv_aload_n hx hb dL_law_1277 rfl (lv_at hl 1 rfl) ?_
  refine lv_aload_n hx hb dL_law_1278 rfl (lv_at hl 0 rfl) ?_
  refine lv_iload_n hx hb dL_law_1279 rfl (lv_at hl 3 rfl) ?_
  refine lv_iconst (v := 1) hx hb dL_law_1280 (by decide) ?_
  refine lv_iadd hx hb dL_law_1281 ?_
  refine W.eq (g2 := F0 m 1282 ls [.int 1, .ref b, .ref (hX 0)]) (by rw [show (0 + 1 : Int32) = 1 from by decide]) ?_
  refine va_sld hx hb hXs hbl hbA hS (i := 1) (vp_in_iff.mpr (by decide)) dL_law_1282 ?_
  refine lv_aload_n hx hb dL_law_1283 rfl (lv_at hl 0 rfl) ?_
  refine lv_iload_n hx hb dL_law_1284 rfl (lv_at hl 3 rfl) ?_
  refine lv_iconst (v := 2) hx hb dL_law_1285 (by decide) ?_
  refine lv_iadd hx hb dL_law_1286 ?_
  refine W.eq (g2 := F0 m 1287 ls [.int 2, .ref b, .int (xs (Int32.toNatClampNeg 1)), .ref (hX 0)]) (by rw [show (0 + 2 : Int32) = 2 from by decide]) ?_
  refine va_sld hx hb hXs hbl hbA hS (i := 2) (vp_in_iff.mpr (by decide)) dL_law_1287 ?_
  refine lw_calli (va_runV (As := [.int (xs (Int32.toNatClampNeg 1)), .int (xs (Int32.toNatClampNeg 2))]) (rest := []) ⟨hx, hb, hml, hown, hts⟩ (cf_X11_keep l D ca za hX hhX ((xs (Int32.toNatClampNeg 1))) ((xs (Int32.toNatClampNeg 2))) H.size) (cwV 2 hts (gw_V (fun _ h => h) mw_738 mw_739 mw_740 mw_9 mw_737) rfl rfl rfl (by decide +kernel) ⟨Nat.le_of_ble_eq_true rfl, Nat.le_of_ble_eq_true rfl⟩) (sg_preV (ci := 11) (C := RX11) (T := TX11) (N := 10) hAX hK hPX hS hZ 0 (by decide) rfl rfl) rfl rfl hl.1 rfl (lv_room (Nat.le_of_ble_eq_true rfl)) dL_law_1288 hcl) hAX hS (fun r1 H1 locs hqr1 hkr1 hzr1 hS => ?_)
  have hPM := lw_kept hPM hdis hkr1
  clear hPX
  obtain ⟨H, hHe⟩ : ∃ z, z = H1 := ⟨_, rfl⟩
  rw [← hHe] at hS hPM
  rw [← hHe]
  refine lv_aload_n hx hb dL_law_1291 rfl (lv_at hl 2 rfl) ?_
  refine lv_aload_n hx hb dL_law_1292 rfl (lv_at hl 0 rfl) ?_
  refine lv_iload_n hx hb dL_law_1293 rfl (lv_at hl 3 rfl) ?_
  refine lv_iconst (v := 1) hx hb dL_law_1294 (by decide) ?_
  refine lv_iadd hx hb dL_law_1295 ?_
  refine W.eq (g2 := F0 m 1296 ls [.int 1, .ref b, .ref (hM 0), .int r1]) (by rw [show (0 + 1 : Int32) = 1 from by decide]) ?_
  refine va_sld hx hb hXs hbl hbA hS (i := 1) (vp_in_iff.mpr (by decide)) dL_law_1296 ?_
  refine lv_aload_n hx hb dL_law_1297 rfl (lv_at hl 0 rfl) ?_
  refine lv_iload_n hx hb dL_law_1298 rfl (lv_at hl 3 rfl) ?_
  refine lv_iconst (v := 2) hx hb dL_law_1299 (by decide) ?_
  refine lv_iadd hx hb dL_law_1300 ?_
  refine W.eq (g2 := F0 m 1301 ls [.int 2, .ref b, .int (xs (Int32.toNatClampNeg 1)), .ref (hM 0), .int r1]) (by rw [show (0 + 2 : Int32) = 2 from by decide]) ?_
  refine va_sld hx hb hXs hbl hbA hS (i := 2) (vp_in_iff.mpr (by decide)) dL_law_1301 ?_
  refine lw_calli (va_runV (As := [.int (xs (Int32.toNatClampNeg 1)), .int (xs (Int32.toNatClampNeg 2))]) (rest := [.int r1]) ⟨hx, hb, hml, hown, hts⟩ (cf_X12_keep l D ca za hM hhM ((xs (Int32.toNatClampNeg 1))) ((xs (Int32.toNatClampNeg 2))) H.size) (cwV 2 hts (gw_V (fun _ h => h) mw_742 mw_743 mw_744 mw_217 mw_741) rfl rfl rfl (by decide +kernel) ⟨Nat.le_of_ble_eq_true rfl, Nat.le_of_ble_eq_true rfl⟩) (sg_preV (ci := 12) (C := RX12) (T := TX12) (N := 55) hAM hK hPM hS (show sgZ zcM za (fun q => s.heap.size ≤ q) s.heap.size s from fun i q h => by simp [zcM] at h) 0 (by decide) rfl rfl) rfl rfl hl.1 rfl (lv_room (Nat.le_of_ble_eq_true rfl)) dL_law_1302 hcl) hAM hS (fun r2 H1 locs hqr2 hkr2 hzr2 hS => ?_)
  obtain ⟨H, hHe⟩ : ∃ z, z = H1 := ⟨_, rfl⟩
  rw [← hHe] at hS
  rw [← hHe]
  obtain ⟨f1, L1, Q1, -, h1⟩ := hqr1
  obtain ⟨f2, L2, Q2, -, h2⟩ := hqr2
  have hr : r1 = r2 := by
    rcases h1 with ⟨rfl, h8⟩ | ⟨rfl, h8⟩ <;> rcases h2 with ⟨rfl, h9⟩ | ⟨rfl, h9⟩ <;> first | rfl | (exfalso; omega) | exact Int32.toInt_inj.mp (by have k1 : (0 : Int32).toInt = 0 := (by decide); have k2 : (-1 : Int32).toInt = -1 := (by decide); have k3 : (-2 : Int32).toInt = -2 := (by decide); omega)
  refine lv_icmp_eq (tgt := 1579) hx hb dL_law_1305 (by decide) (fun _ => ?_) (fun c => absurd hr c)
  exact hJ _ _ _ hS (lv_sub hl [0, 3] rfl)

set_option maxHeartbeats 4000000 in
set_option maxRecDepth 100000 in
theorem lc_34 {p : Program} {e : Env} {s : State} {m : MethodId} {below : List Frame} {meth : Method} {cd : Code} {Qz : State → Prop} (l : Launch) {b : Nat} {xs : Nat → Int32} {D : va_G} {ca : Nat → ClassId} {za hX hM : Nat → Nat} {cells slots : Nat} {H : Heap} {locs : List Loc} {ls : Array Slot} (hx : p.tables.exec = Jvm.exec) (hb : cd.code = code) (hml : cd.maxLocals = 4) (hown : s.vm.findClass R_law = some m.cls) (hts : ∀ w ∈ gwL, w.before #[Value.ref b] s = true) (hXs : va_X b 6 xs s s.heap) (hbl : b < s.heap.size) (hK : va_K D vwCl (tyX ca) s) (hZ : sgZ zcX za (fun q => s.heap.size ≤ q) s.heap.size s) (hhX : sgH 52 hX) (hhM : sgH 26 hM) (hAX : sgY (fun q => s.heap.size ≤ q) 52 hX s.heap.size) (hAM : sgY (fun q => s.heap.size ≤ q) 26 hM s.heap.size) (hdis : ∀ i j : Nat, i < 52 → j < 26 → hX i ≠ hM j) (hcl : cells ≤ room_1.cells ∧ slots ≤ room_1.slots) (hPX : va_P D vwCl (sgw 52 hX (eX ca hX) f0X L0 Q0) H) (hPM : va_P D vwCl (sgw 26 hM (eM ca hM) f0M L0 Q0) H) (hS : va_S (fun q => s.heap.size ≤ q) s.heap H locs) (hl : lv_has ls 4 [(0, .ref b), (1, .ref (hX 0)), (2, .ref (hM 0)), (3, .int 0)]) (hJ : ∀ (H : Heap) (locs : List Loc) (ls : Array Slot), va_S (fun q => s.heap.size ≤ q) s.heap H locs → lv_has ls 4 [(0, .ref b), (3, .int 0)] → W p l e room_1 s m #[Value.ref b] below meth cd H locs cells slots Qz (F0 m 1579 ls [])) : W p l e room_1 s m #[Value.ref b] below meth cd H locs cells slots Qz (F0 m 1310 ls []) := by
  have hbA : ¬ (fun q => s.heap.size ≤ q) b := Nat.not_le.mpr hbl
  have hown : s.vm.findClass RL = some m.cls := hown
  refine lv_aload_n hx hb dL_law_1310 rfl (lv_at hl 1 rfl) ?_
  refine lv_aload_n hx hb dL_law_1311 rfl (lv_at hl 0 rfl) ?_
  refine lv_iload_n hx hb dL_law_1312 rfl (lv_at hl 3 rfl) ?_
  refine lv_iconst (v := 1) hx hb dL_law_1313 (by decide) ?_
  refine lv_iadd hx hb dL_law_1314 ?_
  refine W.eq (g2 := F0 m 1315 ls [.int 1, .ref b, .ref (hX 0)]) (by rw [show (0 + 1 : Int32) = 1 from by decide]) ?_
  refine va_sld hx hb hXs hbl hbA hS (i := 1) (vp_in_iff.mpr (by decide)) dL_law_1315 ?_
  refine lv_aload_n hx hb dL_law_1316 rfl (lv_at hl 0 rfl) ?_
  refine lv_iload_n hx hb dL_law_1317 rfl (lv_at hl 3 rfl) ?_
  refine lv_iconst (v := 2) hx hb dL_law_1318 (by decide) ?_
  refine lv_iadd hx hb dL_law_1319 ?_
  refine W.eq (g2 := F0 m 1320 ls [.int 2, .ref b, .int (xs (Int32.toNatClampNeg 1)), .ref (hX 0)]) (by rw [show (0 + 2 : Int32) = 2 from by decide]) ?_
  refine va_sld hx hb hXs hbl hbA hS (i := 2) (vp_in_iff.mpr (by decide)) dL_law_1320 ?_
  refine lv_aload_n hx hb dL_law_1321 rfl (lv_at hl 0 rfl) ?_
  refine lv_iload_n hx hb dL_law_1322 rfl (lv_at hl 3 rfl) ?_
  refine lv_iconst (v := 3) hx hb dL_law_1323 (by decide) ?_
  refine lv_iadd hx hb dL_law_1324 ?_
  refine W.eq (g2 := F0 m 1325 ls [.int 3, .ref b, .int (xs (Int32.toNatClampNeg 2)), .int (xs (Int32.toNatClampNeg 1)), .ref (hX 0)]) (by rw [show (0 + 3 : Int32) = 3 from by decide]) ?_
  refine va_sld hx hb hXs hbl hbA hS (i := 3) (vp_in_iff.mpr (by decide)) dL_law_1325 ?_
  refine lw_calli (va_runV (As := [.int (xs (Int32.toNatClampNeg 1)), .int (xs (Int32.toNatClampNeg 2)), .int (xs (Int32.toNatClampNeg 3))]) (rest := []) ⟨hx, hb, hml, hown, hts⟩ (cf_X11_row l D ca za hX hhX ((xs (Int32.toNatClampNeg 1))) ((xs (Int32.toNatClampNeg 2))) ((xs (Int32.toNatClampNeg 3))) H.size) (cwV 3 hts (gw_V (fun _ h => h) mw_746 mw_747 mw_748 mw_9 mw_745) rfl rfl rfl (by decide +kernel) ⟨Nat.le_of_ble_eq_true rfl, Nat.le_of_ble_eq_true rfl⟩) (sg_preV (ci := 11) (C := RX11) (T := TX11) (N := 10) hAX hK hPX hS hZ 0 (by decide) rfl rfl) rfl rfl hl.1 rfl (lv_room (Nat.le_of_ble_eq_true rfl)) dL_law_1326 hcl) hAX hS (fun r1 H1 locs hqr1 hkr1 hzr1 hS => ?_)
  have hPM := lw_kept hPM hdis hkr1
  clear hPX
  obtain ⟨H, hHe⟩ : ∃ z, z = H1 := ⟨_, rfl⟩
  rw [← hHe] at hS hPM
  rw [← hHe]
  refine lv_aload_n hx hb dL_law_1329 rfl (lv_at hl 2 rfl) ?_
  refine lv_aload_n hx hb dL_law_1330 rfl (lv_at hl 0 rfl) ?_
  refine lv_iload_n hx hb dL_law_1331 rfl (lv_at hl 3 rfl) ?_
  refine lv_iconst (v := 1) hx hb dL_law_1332 (by decide) ?_
  refine lv_iadd hx hb dL_law_1333 ?_
  refine W.eq (g2 := F0 m 1334 ls [.int 1, .ref b, .ref (hM 0), .int r1]) (by rw [show (0 + 1 : Int32) = 1 from by decide]) ?_
  refine va_sld hx hb hXs hbl hbA hS (i := 1) (vp_in_iff.mpr (by decide)) dL_law_1334 ?_
  refine lv_aload_n hx hb dL_law_1335 rfl (lv_at hl 0 rfl) ?_
  refine lv_iload_n hx hb dL_law_1336 rfl (lv_at hl 3 rfl) ?_
  refine lv_iconst (v := 2) hx hb dL_law_1337 (by decide) ?_
  refine lv_iadd hx hb dL_law_1338 ?_
  refine W.eq (g2 := F0 m 1339 ls [.int 2, .ref b, .int (xs (Int32.toNatClampNeg 1)), .ref (hM 0), .int r1]) (by rw [show (0 + 2 : Int32) = 2 from by decide]) ?_
  refine va_sld hx hb hXs hbl hbA hS (i := 2) (vp_in_iff.mpr (by decide)) dL_law_1339 ?_
  refine lv_aload_n hx hb dL_law_1340 rfl (lv_at hl 0 rfl) ?_
  refine lv_iload_n hx hb dL_law_1341 rfl (lv_at hl 3 rfl) ?_
  refine lv_iconst (v := 3) hx hb dL_law_1342 (by decide) ?_
  refine lv_iadd hx hb dL_law_1343 ?_
  refine W.eq (g2 := F0 m 1344 ls [.int 3, .ref b, .int (xs (Int32.toNatClampNeg 2)), .int (xs (Int32.toNatClampNeg 1)), .ref (hM 0), .int r1]) (by rw [show (0 + 3 : Int32) = 3 from by decide]) ?_
  refine va_sld hx hb hXs hbl hbA hS (i := 3) (vp_in_iff.mpr (by decide)) dL_law_1344 ?_
  refine lw_calli (va_runV (As := [.int (xs (Int32.toNatClampNeg 1)), .int (xs (Int32.toNatClampNeg 2)), .int (xs (Int32.toNatClampNeg 3))]) (rest := [.int r1]) ⟨hx, hb, hml, hown, hts⟩ (cf_X12_row l D ca za hM hhM ((xs (Int32.toNatClampNeg 1))) ((xs (Int32.toNatClampNeg 2))) ((xs (Int32.toNatClampNeg 3))) H.size) (cwV 3 hts (gw_V (fun _ h => h) mw_750 mw_751 mw_752 mw_217 mw_749) rfl rfl rfl (by decide +kernel) ⟨Nat.le_of_ble_eq_true rfl, Nat.le_of_ble_eq_true rfl⟩) (sg_preV (ci := 12) (C := RX12) (T := TX12) (N := 55) hAM hK hPM hS (show sgZ zcM za (fun q => s.heap.size ≤ q) s.heap.size s from fun i q h => by simp [zcM] at h) 0 (by decide) rfl rfl) rfl rfl hl.1 rfl (lv_room (Nat.le_of_ble_eq_true rfl)) dL_law_1345 hcl) hAM hS (fun r2 H1 locs hqr2 hkr2 hzr2 hS => ?_)
  obtain ⟨H, hHe⟩ : ∃ z, z = H1 := ⟨_, rfl⟩
  rw [← hHe] at hS
  rw [← hHe]
  obtain ⟨f1, L1, Q1, -, h1⟩ := hqr1
  obtain ⟨f2, L2, Q2, -, h2⟩ := hqr2
  have hr : r1 = r2 := by
    rcases h1 with ⟨rfl, h8⟩ | ⟨rfl, h8⟩ | ⟨rfl, h8⟩ <;> rcases h2 with ⟨rfl, h9⟩ | ⟨rfl, h9⟩ | ⟨rfl, h9⟩ <;> first | rfl | (exfalso; omega) | exact Int32.toInt_inj.mp (by have k1 : (0 : Int32).toInt = 0 := (by decide); have k2 : (-1 : Int32).toInt = -1 := (by decide); have k3 : (-2 : Int32).toInt = -2 := (by decide); omega)
  refine lv_icmp_eq (tgt := 1579) hx hb dL_law_1348 (by decide) (fun _ => ?_) (fun c => absurd hr c)
  exact hJ _ _ _ hS (lv_sub hl [0, 3] rfl)

set_option maxHeartbeats 4000000 in
set_option maxRecDepth 100000 in
theorem lc_35 {p : Program} {e : Env} {s : State} {m : MethodId} {below : List Frame} {meth : Method} {cd : Code} {Qz : State → Prop} (l : Launch) {b : Nat} {xs : Nat → Int32} {D : va_G} {ca : Nat → ClassId} {za hX hM : Nat → Nat} {cells slots : Nat} {H : Heap} {locs : List Loc} {ls : Array Slot} (hx : p.tables.exec = Jvm.exec) (hb : cd.code = code) (hml : cd.maxLocals = 4) (hown : s.vm.findClass R_law = some m.cls) (hts : ∀ w ∈ gwL, w.before #[Value.ref b] s = true) (hXs : va_X b 6 xs s s.heap) (hbl : b < s.heap.size) (hK : va_K D vwCl (tyX ca) s) (hZ : sgZ zcX za (fun q => s.heap.size ≤ q) s.heap.size s) (hhX : sgH 52 hX) (hhM : sgH 26 hM) (hAX : sgY (fun q => s.heap.size ≤ q) 52 hX s.heap.size) (hAM : sgY (fun q => s.heap.size ≤ q) 26 hM s.heap.size) (hdis : ∀ i j : Nat, i < 52 → j < 26 → hX i ≠ hM j) (hcl : cells ≤ room_1.cells ∧ slots ≤ room_1.slots) (hPX : va_P D vwCl (sgw 52 hX (eX ca hX) f0X L0 Q0) H) (hPM : va_P D vwCl (sgw 26 hM (eM ca hM) f0M L0 Q0) H) (hS : va_S (fun q => s.heap.size ≤ q) s.heap H locs) (hl : lv_has ls 4 [(0, .ref b), (1, .ref (hX 0)), (2, .ref (hM 0)), (3, .int 0)]) (hJ : ∀ (H : Heap) (locs : List Loc) (ls : Array Slot), va_S (fun q => s.heap.size ≤ q) s.heap H locs → lv_has ls 4 [(0, .ref b), (3, .int 0)] → W p l e room_1 s m #[Value.ref b] below meth cd H locs cells slots Qz (F0 m 1579 ls [])) : W p l e room_1 s m #[Value.ref b] below meth cd H locs cells slots Qz (F0 m 1353 ls []) := by
  have hbA : ¬ (fun q => s.heap.size ≤ q) b := Nat.not_le.mpr hbl
  have hown : s.vm.findClass RL = some m.cls := hown
  refine lv_aload_n hx hb dL_law_1353 rfl (lv_at hl 1 rfl) ?_
  refine lv_aload_n hx hb dL_law_1354 rfl (lv_at hl 0 rfl) ?_
  refine lv_iload_n hx hb dL_law_1355 rfl (lv_at hl 3 rfl) ?_
  refine lv_iconst (v := 1) hx hb dL_law_1356 (by decide) ?_
  refine lv_iadd hx hb dL_law_1357 ?_
  refine W.eq (g2 := F0 m 1358 ls [.int 1, .ref b, .ref (hX 0)]) (by rw [show (0 + 1 : Int32) = 1 from by decide]) ?_
  refine va_sld hx hb hXs hbl hbA hS (i := 1) (vp_in_iff.mpr (by decide)) dL_law_1358 ?_
  refine lv_aload_n hx hb dL_law_1359 rfl (lv_at hl 0 rfl) ?_
  refine lv_iload_n hx hb dL_law_1360 rfl (lv_at hl 3 rfl) ?_
  refine lv_iconst (v := 2) hx hb dL_law_1361 (by decide) ?_
  refine lv_iadd hx hb dL_law_1362 ?_
  refine W.eq (g2 := F0 m 1363 ls [.int 2, .ref b, .int (xs (Int32.toNatClampNeg 1)), .ref (hX 0)]) (by rw [show (0 + 2 : Int32) = 2 from by decide]) ?_
  refine va_sld hx hb hXs hbl hbA hS (i := 2) (vp_in_iff.mpr (by decide)) dL_law_1363 ?_
  refine lv_aload_n hx hb dL_law_1364 rfl (lv_at hl 0 rfl) ?_
  refine lv_iload_n hx hb dL_law_1365 rfl (lv_at hl 3 rfl) ?_
  refine lv_iconst (v := 3) hx hb dL_law_1366 (by decide) ?_
  refine lv_iadd hx hb dL_law_1367 ?_
  refine W.eq (g2 := F0 m 1368 ls [.int 3, .ref b, .int (xs (Int32.toNatClampNeg 2)), .int (xs (Int32.toNatClampNeg 1)), .ref (hX 0)]) (by rw [show (0 + 3 : Int32) = 3 from by decide]) ?_
  refine va_sld hx hb hXs hbl hbA hS (i := 3) (vp_in_iff.mpr (by decide)) dL_law_1368 ?_
  refine lv_i2l (v := (Int32.toInt64 (xs (Int32.toNatClampNeg 3)))) hx hb dL_law_1369 rfl ?_
  refine lv_bipush (v := 32) hx hb dL_law_1370 (by decide) ?_
  refine lv_lshl (v := ((Int32.toInt64 (xs (Int32.toNatClampNeg 3))) <<< ((Int32.toInt64 32) &&& 63))) hx hb dL_law_1372 rfl ?_
  refine lv_aload_n hx hb dL_law_1373 rfl (lv_at hl 0 rfl) ?_
  refine lv_iload_n hx hb dL_law_1374 rfl (lv_at hl 3 rfl) ?_
  refine lv_iconst (v := 4) hx hb dL_law_1375 (by decide) ?_
  refine lv_iadd hx hb dL_law_1376 ?_
  refine W.eq (g2 := F0 m 1377 ls [.int 4, .ref b, .long ((Int32.toInt64 (xs (Int32.toNatClampNeg 3))) <<< ((Int32.toInt64 32) &&& 63)), .int (xs (Int32.toNatClampNeg 2)), .int (xs (Int32.toNatClampNeg 1)), .ref (hX 0)]) (by rw [show (0 + 4 : Int32) = 4 from by decide]) ?_
  refine va_sld hx hb hXs hbl hbA hS (i := 4) (vp_in_iff.mpr (by decide)) dL_law_1377 ?_
  refine lv_i2l (v := (Int32.toInt64 (xs (Int32.toNatClampNeg 4)))) hx hb dL_law_1378 rfl ?_
  refine lv_ldc2 (v := 4294967295) hx hb hown (hts _ mw_753) dL_law_1379 ?_
  refine lv_land hx hb dL_law_1382 ?_
  refine lv_lor hx hb dL_law_1383 ?_
  refine lw_calli (va_runV (As := [.int (xs (Int32.toNatClampNeg 1)), .int (xs (Int32.toNatClampNeg 2)), .long (((Int32.toInt64 (xs (Int32.toNatClampNeg 3))) <<< ((Int32.toInt64 32) &&& 63)) ||| ((Int32.toInt64 (xs (Int32.toNatClampNeg 4))) &&& 4294967295))]) (rest := []) ⟨hx, hb, hml, hown, hts⟩ (cf_X11_put l D ca za hX hhX ((xs (Int32.toNatClampNeg 1))) ((xs (Int32.toNatClampNeg 2))) ((((Int32.toInt64 (xs (Int32.toNatClampNeg 3))) <<< ((Int32.toInt64 32) &&& 63)) ||| ((Int32.toInt64 (xs (Int32.toNatClampNeg 4))) &&& 4294967295))) H.size) (cwV 3 hts (gw_V (fun _ h => h) mw_755 mw_756 mw_757 mw_9 mw_754) rfl rfl rfl (by decide +kernel) ⟨Nat.le_of_ble_eq_true rfl, Nat.le_of_ble_eq_true rfl⟩) (sg_preV (ci := 11) (C := RX11) (T := TX11) (N := 10) hAX hK hPX hS hZ 0 (by decide) rfl rfl) rfl rfl hl.1 rfl (lv_room (Nat.le_of_ble_eq_true rfl)) dL_law_1384 hcl) hAX hS (fun r1 H1 locs hqr1 hkr1 hzr1 hS => ?_)
  have hPM := lw_kept hPM hdis hkr1
  clear hPX
  obtain ⟨H, hHe⟩ : ∃ z, z = H1 := ⟨_, rfl⟩
  rw [← hHe] at hS hPM
  rw [← hHe]
  refine lv_aload_n hx hb dL_law_1387 rfl (lv_at hl 2 rfl) ?_
  refine lv_aload_n hx hb dL_law_1388 rfl (lv_at hl 0 rfl) ?_
  refine lv_iload_n hx hb dL_law_1389 rfl (lv_at hl 3 rfl) ?_
  refine lv_iconst (v := 1) hx hb dL_law_1390 (by decide) ?_
  refine lv_iadd hx hb dL_law_1391 ?_
  refine W.eq (g2 := F0 m 1392 ls [.int 1, .ref b, .ref (hM 0), .int r1]) (by rw [show (0 + 1 : Int32) = 1 from by decide]) ?_
  refine va_sld hx hb hXs hbl hbA hS (i := 1) (vp_in_iff.mpr (by decide)) dL_law_1392 ?_
  refine lv_aload_n hx hb dL_law_1393 rfl (lv_at hl 0 rfl) ?_
  refine lv_iload_n hx hb dL_law_1394 rfl (lv_at hl 3 rfl) ?_
  refine lv_iconst (v := 2) hx hb dL_law_1395 (by decide) ?_
  refine lv_iadd hx hb dL_law_1396 ?_
  refine W.eq (g2 := F0 m 1397 ls [.int 2, .ref b, .int (xs (Int32.toNatClampNeg 1)), .ref (hM 0), .int r1]) (by rw [show (0 + 2 : Int32) = 2 from by decide]) ?_
  refine va_sld hx hb hXs hbl hbA hS (i := 2) (vp_in_iff.mpr (by decide)) dL_law_1397 ?_
  refine lv_aload_n hx hb dL_law_1398 rfl (lv_at hl 0 rfl) ?_
  refine lv_iload_n hx hb dL_law_1399 rfl (lv_at hl 3 rfl) ?_
  refine lv_iconst (v := 3) hx hb dL_law_1400 (by decide) ?_
  refine lv_iadd hx hb dL_law_1401 ?_
  refine W.eq (g2 := F0 m 1402 ls [.int 3, .ref b, .int (xs (Int32.toNatClampNeg 2)), .int (xs (Int32.toNatClampNeg 1)), .ref (hM 0), .int r1]) (by rw [show (0 + 3 : Int32) = 3 from by decide]) ?_
  refine va_sld hx hb hXs hbl hbA hS (i := 3) (vp_in_iff.mpr (by decide)) dL_law_1402 ?_
  refine lv_i2l (v := (Int32.toInt64 (xs (Int32.toNatClampNeg 3)))) hx hb dL_law_1403 rfl ?_
  refine lv_bipush (v := 32) hx hb dL_law_1404 (by decide) ?_
  refine lv_lshl (v := ((Int32.toInt64 (xs (Int32.toNatClampNeg 3))) <<< ((Int32.toInt64 32) &&& 63))) hx hb dL_law_1406 rfl ?_
  refine lv_aload_n hx hb dL_law_1407 rfl (lv_at hl 0 rfl) ?_
  refine lv_iload_n hx hb dL_law_1408 rfl (lv_at hl 3 rfl) ?_
  refine lv_iconst (v := 4) hx hb dL_law_1409 (by decide) ?_
  refine lv_iadd hx hb dL_law_1410 ?_
  refine W.eq (g2 := F0 m 1411 ls [.int 4, .ref b, .long ((Int32.toInt64 (xs (Int32.toNatClampNeg 3))) <<< ((Int32.toInt64 32) &&& 63)), .int (xs (Int32.toNatClampNeg 2)), .int (xs (Int32.toNatClampNeg 1)), .ref (hM 0), .int r1]) (by rw [show (0 + 4 : Int32) = 4 from by decide]) ?_
  refine va_sld hx hb hXs hbl hbA hS (i := 4) (vp_in_iff.mpr (by decide)) dL_law_1411 ?_
  refine lv_i2l (v := (Int32.toInt64 (xs (Int32.toNatClampNeg 4)))) hx hb dL_law_1412 rfl ?_
  refine lv_ldc2 (v := 4294967295) hx hb hown (hts _ mw_753) dL_law_1413 ?_
  refine lv_land hx hb dL_law_1416 ?_
  refine lv_lor hx hb dL_law_1417 ?_
  refine lw_calli (va_runV (As := [.int (xs (Int32.toNatClampNeg 1)), .int (xs (Int32.toNatClampNeg 2)), .long (((Int32.toInt64 (xs (Int32.toNatClampNeg 3))) <<< ((Int32.toInt64 32) &&& 63)) ||| ((Int32.toInt64 (xs (Int32.toNatClampNeg 4))) &&& 4294967295))]) (rest := [.int r1]) ⟨hx, hb, hml, hown, hts⟩ (cf_X12_put l D ca za hM hhM ((xs (Int32.toNatClampNeg 1))) ((xs (Int32.toNatClampNeg 2))) ((((Int32.toInt64 (xs (Int32.toNatClampNeg 3))) <<< ((Int32.toInt64 32) &&& 63)) ||| ((Int32.toInt64 (xs (Int32.toNatClampNeg 4))) &&& 4294967295))) H.size) (cwV 3 hts (gw_V (fun _ h => h) mw_759 mw_760 mw_761 mw_217 mw_758) rfl rfl rfl (by decide +kernel) ⟨Nat.le_of_ble_eq_true rfl, Nat.le_of_ble_eq_true rfl⟩) (sg_preV (ci := 12) (C := RX12) (T := TX12) (N := 55) hAM hK hPM hS (show sgZ zcM za (fun q => s.heap.size ≤ q) s.heap.size s from fun i q h => by simp [zcM] at h) 0 (by decide) rfl rfl) rfl rfl hl.1 rfl (lv_room (Nat.le_of_ble_eq_true rfl)) dL_law_1418 hcl) hAM hS (fun r2 H1 locs hqr2 hkr2 hzr2 hS => ?_)
  obtain ⟨H, hHe⟩ : ∃ z, z = H1 := ⟨_, rfl⟩
  rw [← hHe] at hS
  rw [← hHe]
  obtain ⟨f1, L1, Q1, -, h1⟩ := hqr1
  obtain ⟨f2, L2, Q2, -, h2⟩ := hqr2
  have hr : r1 = r2 := by
    rcases h1 with ⟨rfl, h8⟩ | ⟨rfl, h8⟩ <;> rcases h2 with ⟨rfl, h9⟩ | ⟨rfl, h9⟩ <;> first | rfl | (exfalso; omega) | exact Int32.toInt_inj.mp (by have k1 : (0 : Int32).toInt = 0 := (by decide); have k2 : (-1 : Int32).toInt = -1 := (by decide); have k3 : (-2 : Int32).toInt = -2 := (by decide); omega)
  refine lv_icmp_eq (tgt := 1579) hx hb dL_law_1421 (by decide) (fun _ => ?_) (fun c => absurd hr c)
  exact hJ _ _ _ hS (lv_sub hl [0, 3] rfl)

set_option maxHeartbeats 4000000 in
set_option maxRecDepth 100000 in
theorem lc_36 {p : Program} {e : Env} {s : State} {m : MethodId} {below : List Frame} {meth : Method} {cd : Code} {Qz : State → Prop} (l : Launch) {b : Nat} {xs : Nat → Int32} {D : va_G} {ca : Nat → ClassId} {za hX hM : Nat → Nat} {cells slots : Nat} {H : Heap} {locs : List Loc} {ls : Array Slot} (hx : p.tables.exec = Jvm.exec) (hb : cd.code = code) (hml : cd.maxLocals = 4) (hown : s.vm.findClass R_law = some m.cls) (hts : ∀ w ∈ gwL, w.before #[Value.ref b] s = true) (hXs : va_X b 6 xs s s.heap) (hbl : b < s.heap.size) (hK : va_K D vwCl (tyX ca) s) (hZ : sgZ zcX za (fun q => s.heap.size ≤ q) s.heap.size s) (hhX : sgH 52 hX) (hhM : sgH 26 hM) (hAX : sgY (fun q => s.heap.size ≤ q) 52 hX s.heap.size) (hAM : sgY (fun q => s.heap.size ≤ q) 26 hM s.heap.size) (hdis : ∀ i j : Nat, i < 52 → j < 26 → hX i ≠ hM j) (hcl : cells ≤ room_1.cells ∧ slots ≤ room_1.slots) (hPX : va_P D vwCl (sgw 52 hX (eX ca hX) f0X L0 Q0) H) (hPM : va_P D vwCl (sgw 26 hM (eM ca hM) f0M L0 Q0) H) (hS : va_S (fun q => s.heap.size ≤ q) s.heap H locs) (hl : lv_has ls 4 [(0, .ref b), (1, .ref (hX 0)), (2, .ref (hM 0)), (3, .int 0)]) (hJ : ∀ (H : Heap) (locs : List Loc) (ls : Array Slot), va_S (fun q => s.heap.size ≤ q) s.heap H locs → lv_has ls 4 [(0, .ref b), (3, .int 0)] → W p l e room_1 s m #[Value.ref b] below meth cd H locs cells slots Qz (F0 m 1579 ls [])) : W p l e room_1 s m #[Value.ref b] below meth cd H locs cells slots Qz (F0 m 1426 ls []) := by
  have hbA : ¬ (fun q => s.heap.size ≤ q) b := Nat.not_le.mpr hbl
  have hown : s.vm.findClass RL = some m.cls := hown
  refine lv_aload_n hx hb dL_law_1426 rfl (lv_at hl 1 rfl) ?_
  refine lv_aload_n hx hb dL_law_1427 rfl (lv_at hl 0 rfl) ?_
  refine lv_iload_n hx hb dL_law_1428 rfl (lv_at hl 3 rfl) ?_
  refine lv_iconst (v := 1) hx hb dL_law_1429 (by decide) ?_
  refine lv_iadd hx hb dL_law_1430 ?_
  refine W.eq (g2 := F0 m 1431 ls [.int 1, .ref b, .ref (hX 0)]) (by rw [show (0 + 1 : Int32) = 1 from by decide]) ?_
  refine va_sld hx hb hXs hbl hbA hS (i := 1) (vp_in_iff.mpr (by decide)) dL_law_1431 ?_
  refine lv_aload_n hx hb dL_law_1432 rfl (lv_at hl 0 rfl) ?_
  refine lv_iload_n hx hb dL_law_1433 rfl (lv_at hl 3 rfl) ?_
  refine lv_iconst (v := 2) hx hb dL_law_1434 (by decide) ?_
  refine lv_iadd hx hb dL_law_1435 ?_
  refine W.eq (g2 := F0 m 1436 ls [.int 2, .ref b, .int (xs (Int32.toNatClampNeg 1)), .ref (hX 0)]) (by rw [show (0 + 2 : Int32) = 2 from by decide]) ?_
  refine va_sld hx hb hXs hbl hbA hS (i := 2) (vp_in_iff.mpr (by decide)) dL_law_1436 ?_
  refine lw_calll (va_runV (As := [.int (xs (Int32.toNatClampNeg 1)), .int (xs (Int32.toNatClampNeg 2))]) (rest := []) ⟨hx, hb, hml, hown, hts⟩ (cf_X11_element l D ca za hX hhX ((xs (Int32.toNatClampNeg 1))) ((xs (Int32.toNatClampNeg 2))) H.size) (cwV 2 hts (gw_V (fun _ h => h) mw_763 mw_764 mw_765 mw_9 mw_762) rfl rfl rfl (by decide +kernel) ⟨Nat.le_of_ble_eq_true rfl, Nat.le_of_ble_eq_true rfl⟩) (sg_preV (ci := 11) (C := RX11) (T := TX11) (N := 10) hAX hK hPX hS hZ 0 (by decide) rfl rfl) rfl rfl hl.1 rfl (lv_room (Nat.le_of_ble_eq_true rfl)) dL_law_1437 hcl) hAX hS (fun r1 H1 locs hqr1 hkr1 hzr1 hS => ?_)
  have hPM := lw_kept hPM hdis hkr1
  clear hPX
  obtain ⟨H, hHe⟩ : ∃ z, z = H1 := ⟨_, rfl⟩
  rw [← hHe] at hS hPM
  rw [← hHe]
  refine lv_aload_n hx hb dL_law_1440 rfl (lv_at hl 2 rfl) ?_
  refine lv_aload_n hx hb dL_law_1441 rfl (lv_at hl 0 rfl) ?_
  refine lv_iload_n hx hb dL_law_1442 rfl (lv_at hl 3 rfl) ?_
  refine lv_iconst (v := 1) hx hb dL_law_1443 (by decide) ?_
  refine lv_iadd hx hb dL_law_1444 ?_
  refine W.eq (g2 := F0 m 1445 ls [.int 1, .ref b, .ref (hM 0), .long r1]) (by rw [show (0 + 1 : Int32) = 1 from by decide]) ?_
  refine va_sld hx hb hXs hbl hbA hS (i := 1) (vp_in_iff.mpr (by decide)) dL_law_1445 ?_
  refine lv_aload_n hx hb dL_law_1446 rfl (lv_at hl 0 rfl) ?_
  refine lv_iload_n hx hb dL_law_1447 rfl (lv_at hl 3 rfl) ?_
  refine lv_iconst (v := 2) hx hb dL_law_1448 (by decide) ?_
  refine lv_iadd hx hb dL_law_1449 ?_
  refine W.eq (g2 := F0 m 1450 ls [.int 2, .ref b, .int (xs (Int32.toNatClampNeg 1)), .ref (hM 0), .long r1]) (by rw [show (0 + 2 : Int32) = 2 from by decide]) ?_
  refine va_sld hx hb hXs hbl hbA hS (i := 2) (vp_in_iff.mpr (by decide)) dL_law_1450 ?_
  refine lw_calll (va_runV (As := [.int (xs (Int32.toNatClampNeg 1)), .int (xs (Int32.toNatClampNeg 2))]) (rest := [.long r1]) ⟨hx, hb, hml, hown, hts⟩ (cf_X12_element l D ca za hM hhM ((xs (Int32.toNatClampNeg 1))) ((xs (Int32.toNatClampNeg 2))) H.size) (cwV 2 hts (gw_V (fun _ h => h) mw_767 mw_768 mw_769 mw_217 mw_766) rfl rfl rfl (by decide +kernel) ⟨Nat.le_of_ble_eq_true rfl, Nat.le_of_ble_eq_true rfl⟩) (sg_preV (ci := 12) (C := RX12) (T := TX12) (N := 55) hAM hK hPM hS (show sgZ zcM za (fun q => s.heap.size ≤ q) s.heap.size s from fun i q h => by simp [zcM] at h) 0 (by decide) rfl rfl) rfl rfl hl.1 rfl (lv_room (Nat.le_of_ble_eq_true rfl)) dL_law_1451 hcl) hAM hS (fun r2 H1 locs hqr2 hkr2 hzr2 hS => ?_)
  obtain ⟨H, hHe⟩ : ∃ z, z = H1 := ⟨_, rfl⟩
  rw [← hHe] at hS
  rw [← hHe]
  refine W.lcmp hx hb dL_law_1454 ?_
  obtain ⟨f1, L1, Q1, -, h1⟩ := hqr1
  obtain ⟨f2, L2, Q2, -, h2⟩ := hqr2
  have hr : r1 = r2 := by
    rcases h1 with ⟨rfl, h8⟩ <;> rcases h2 with ⟨rfl, h9⟩ <;> first | rfl | (exfalso; omega) | exact Int32.toInt_inj.mp (by have k1 : (0 : Int32).toInt = 0 := (by decide); have k2 : (-1 : Int32).toInt = -1 := (by decide); have k3 : (-2 : Int32).toInt = -2 := (by decide); omega)
  refine lv_if_eq (tgt := 1579) hx hb dL_law_1455 (by decide) (fun _ => ?_) (fun c => absurd (by rw [hr]; exact lg_cmp_self _) c)
  exact hJ _ _ _ hS (lv_sub hl [0, 3] rfl)

set_option maxHeartbeats 4000000 in
set_option maxRecDepth 100000 in
theorem lc_37 {p : Program} {e : Env} {s : State} {m : MethodId} {below : List Frame} {meth : Method} {cd : Code} {Qz : State → Prop} (l : Launch) {b : Nat} {xs : Nat → Int32} {D : va_G} {ca : Nat → ClassId} {za hX hM : Nat → Nat} {cells slots : Nat} {H : Heap} {locs : List Loc} {ls : Array Slot} (hx : p.tables.exec = Jvm.exec) (hb : cd.code = code) (hml : cd.maxLocals = 4) (hown : s.vm.findClass R_law = some m.cls) (hts : ∀ w ∈ gwL, w.before #[Value.ref b] s = true) (hXs : va_X b 6 xs s s.heap) (hbl : b < s.heap.size) (hK : va_K D vwCl (tyX ca) s) (hZ : sgZ zcX za (fun q => s.heap.size ≤ q) s.heap.size s) (hhX : sgH 52 hX) (hhM : sgH 26 hM) (hAX : sgY (fun q => s.heap.size ≤ q) 52 hX s.heap.size) (hAM : sgY (fun q => s.heap.size ≤ q) 26 hM s.heap.size) (hdis : ∀ i j : Nat, i < 52 → j < 26 → hX i ≠ hM j) (hcl : cells ≤ room_1.cells ∧ slots ≤ room_1.slots) (hPX : va_P D vwCl (sgw 52 hX (eX ca hX) f0X L0 Q0) H) (hPM : va_P D vwCl (sgw 26 hM (eM ca hM) f0M L0 Q0) H) (hS : va_S (fun q => s.heap.size ≤ q) s.heap H locs) (hl : lv_has ls 4 [(0, .ref b), (1, .ref (hX 0)), (2, .ref (hM 0)), (3, .int 0)]) (hJ : ∀ (H : Heap) (locs : List Loc) (ls : Array Slot), va_S (fun q => s.heap.size ≤ q) s.heap H locs → lv_has ls 4 [(0, .ref b), (3, .int 0)] → W p l e room_1 s m #[Value.ref b] below meth cd H locs cells slots Qz (F0 m 1579 ls [])) : W p l e room_1 s m #[Value.ref b] below meth cd H locs cells slots Qz (F0 m 1460 ls []) := by
  have hbA : ¬ (fun q => s.heap.size ≤ q) b := Nat.not_le.mpr hbl
  have hown : s.vm.findClass RL = some m.cls := hown
  refine lv_aload_n hx hb dL_law_1460 rfl (lv_at hl 1 rfl) ?_
  refine lv_aload_n hx hb dL_law_1461 rfl (lv_at hl 0 rfl) ?_
  refine lv_iload_n hx hb dL_law_1462 rfl (lv_at hl 3 rfl) ?_
  refine lv_iconst (v := 1) hx hb dL_law_1463 (by decide) ?_
  refine lv_iadd hx hb dL_law_1464 ?_
  refine W.eq (g2 := F0 m 1465 ls [.int 1, .ref b, .ref (hX 0)]) (by rw [show (0 + 1 : Int32) = 1 from by decide]) ?_
  refine va_sld hx hb hXs hbl hbA hS (i := 1) (vp_in_iff.mpr (by decide)) dL_law_1465 ?_
  refine lv_aload_n hx hb dL_law_1466 rfl (lv_at hl 0 rfl) ?_
  refine lv_iload_n hx hb dL_law_1467 rfl (lv_at hl 3 rfl) ?_
  refine lv_iconst (v := 2) hx hb dL_law_1468 (by decide) ?_
  refine lv_iadd hx hb dL_law_1469 ?_
  refine W.eq (g2 := F0 m 1470 ls [.int 2, .ref b, .int (xs (Int32.toNatClampNeg 1)), .ref (hX 0)]) (by rw [show (0 + 2 : Int32) = 2 from by decide]) ?_
  refine va_sld hx hb hXs hbl hbA hS (i := 2) (vp_in_iff.mpr (by decide)) dL_law_1470 ?_
  refine lv_aload_n hx hb dL_law_1471 rfl (lv_at hl 0 rfl) ?_
  refine lv_iload_n hx hb dL_law_1472 rfl (lv_at hl 3 rfl) ?_
  refine lv_iconst (v := 3) hx hb dL_law_1473 (by decide) ?_
  refine lv_iadd hx hb dL_law_1474 ?_
  refine W.eq (g2 := F0 m 1475 ls [.int 3, .ref b, .int (xs (Int32.toNatClampNeg 2)), .int (xs (Int32.toNatClampNeg 1)), .ref (hX 0)]) (by rw [show (0 + 3 : Int32) = 3 from by decide]) ?_
  refine va_sld hx hb hXs hbl hbA hS (i := 3) (vp_in_iff.mpr (by decide)) dL_law_1475 ?_
  refine lv_aload_n hx hb dL_law_1476 rfl (lv_at hl 0 rfl) ?_
  refine lv_iload_n hx hb dL_law_1477 rfl (lv_at hl 3 rfl) ?_
  refine lv_iconst (v := 4) hx hb dL_law_1478 (by decide) ?_
  refine lv_iadd hx hb dL_law_1479 ?_
  refine W.eq (g2 := F0 m 1480 ls [.int 4, .ref b, .int (xs (Int32.toNatClampNeg 3)), .int (xs (Int32.toNatClampNeg 2)), .int (xs (Int32.toNatClampNeg 1)), .ref (hX 0)]) (by rw [show (0 + 4 : Int32) = 4 from by decide]) ?_
  refine va_sld hx hb hXs hbl hbA hS (i := 4) (vp_in_iff.mpr (by decide)) dL_law_1480 ?_
  refine lv_aload_n hx hb dL_law_1481 rfl (lv_at hl 0 rfl) ?_
  refine lv_iload_n hx hb dL_law_1482 rfl (lv_at hl 3 rfl) ?_
  refine lv_iconst (v := 5) hx hb dL_law_1483 (by decide) ?_
  refine lv_iadd hx hb dL_law_1484 ?_
  refine W.eq (g2 := F0 m 1485 ls [.int 5, .ref b, .int (xs (Int32.toNatClampNeg 4)), .int (xs (Int32.toNatClampNeg 3)), .int (xs (Int32.toNatClampNeg 2)), .int (xs (Int32.toNatClampNeg 1)), .ref (hX 0)]) (by rw [show (0 + 5 : Int32) = 5 from by decide]) ?_
  refine va_sld hx hb hXs hbl hbA hS (i := 5) (vp_in_iff.mpr (by decide)) dL_law_1485 ?_
  refine lw_calli (va_runV (As := [.int (xs (Int32.toNatClampNeg 1)), .int (xs (Int32.toNatClampNeg 2)), .int (xs (Int32.toNatClampNeg 3)), .int (xs (Int32.toNatClampNeg 4)), .int (xs (Int32.toNatClampNeg 5))]) (rest := []) ⟨hx, hb, hml, hown, hts⟩ (cf_X11_shift l D ca za hX hhX ((xs (Int32.toNatClampNeg 1))) ((xs (Int32.toNatClampNeg 2))) ((xs (Int32.toNatClampNeg 3))) ((xs (Int32.toNatClampNeg 4))) ((xs (Int32.toNatClampNeg 5))) H.size) (cwV 5 hts (gw_V (fun _ h => h) mw_771 mw_772 mw_773 mw_9 mw_770) rfl rfl rfl (by decide +kernel) ⟨Nat.le_of_ble_eq_true rfl, Nat.le_of_ble_eq_true rfl⟩) (sg_preV (ci := 11) (C := RX11) (T := TX11) (N := 10) hAX hK hPX hS hZ 0 (by decide) rfl rfl) rfl rfl hl.1 rfl (lv_room (Nat.le_of_ble_eq_true rfl)) dL_law_1486 hcl) hAX hS (fun r1 H1 locs hqr1 hkr1 hzr1 hS => ?_)
  have hPM := lw_kept hPM hdis hkr1
  clear hPX
  obtain ⟨H, hHe⟩ : ∃ z, z = H1 := ⟨_, rfl⟩
  rw [← hHe] at hS hPM
  rw [← hHe]
  refine lv_aload_n hx hb dL_law_1489 rfl (lv_at hl 2 rfl) ?_
  refine lv_aload_n hx hb dL_law_1490 rfl (lv_at hl 0 rfl) ?_
  refine lv_iload_n hx hb dL_law_1491 rfl (lv_at hl 3 rfl) ?_
  refine lv_iconst (v := 1) hx hb dL_law_1492 (by decide) ?_
  refine lv_iadd hx hb dL_law_1493 ?_
  refine W.eq (g2 := F0 m 1494 ls [.int 1, .ref b, .ref (hM 0), .int r1]) (by rw [show (0 + 1 : Int32) = 1 from by decide]) ?_
  refine va_sld hx hb hXs hbl hbA hS (i := 1) (vp_in_iff.mpr (by decide)) dL_law_1494 ?_
  refine lv_aload_n hx hb dL_law_1495 rfl (lv_at hl 0 rfl) ?_
  refine lv_iload_n hx hb dL_law_1496 rfl (lv_at hl 3 rfl) ?_
  refine lv_iconst (v := 2) hx hb dL_law_1497 (by decide) ?_
  refine lv_iadd hx hb dL_law_1498 ?_
  refine W.eq (g2 := F0 m 1499 ls [.int 2, .ref b, .int (xs (Int32.toNatClampNeg 1)), .ref (hM 0), .int r1]) (by rw [show (0 + 2 : Int32) = 2 from by decide]) ?_
  refine va_sld hx hb hXs hbl hbA hS (i := 2) (vp_in_iff.mpr (by decide)) dL_law_1499 ?_
  refine lv_aload_n hx hb dL_law_1500 rfl (lv_at hl 0 rfl) ?_
  refine lv_iload_n hx hb dL_law_1501 rfl (lv_at hl 3 rfl) ?_
  refine lv_iconst (v := 3) hx hb dL_law_1502 (by decide) ?_
  refine lv_iadd hx hb dL_law_1503 ?_
  refine W.eq (g2 := F0 m 1504 ls [.int 3, .ref b, .int (xs (Int32.toNatClampNeg 2)), .int (xs (Int32.toNatClampNeg 1)), .ref (hM 0), .int r1]) (by rw [show (0 + 3 : Int32) = 3 from by decide]) ?_
  refine va_sld hx hb hXs hbl hbA hS (i := 3) (vp_in_iff.mpr (by decide)) dL_law_1504 ?_
  refine lv_aload_n hx hb dL_law_1505 rfl (lv_at hl 0 rfl) ?_
  refine lv_iload_n hx hb dL_law_1506 rfl (lv_at hl 3 rfl) ?_
  refine lv_iconst (v := 4) hx hb dL_law_1507 (by decide) ?_
  refine lv_iadd hx hb dL_law_1508 ?_
  refine W.eq (g2 := F0 m 1509 ls [.int 4, .ref b, .int (xs (Int32.toNatClampNeg 3)), .int (xs (Int32.toNatClampNeg 2)), .int (xs (Int32.toNatClampNeg 1)), .ref (hM 0), .int r1]) (by rw [show (0 + 4 : Int32) = 4 from by decide]) ?_
  refine va_sld hx hb hXs hbl hbA hS (i := 4) (vp_in_iff.mpr (by decide)) dL_law_1509 ?_
  refine lv_aload_n hx hb dL_law_1510 rfl (lv_at hl 0 rfl) ?_
  refine lv_iload_n hx hb dL_law_1511 rfl (lv_at hl 3 rfl) ?_
  refine lv_iconst (v := 5) hx hb dL_law_1512 (by decide) ?_
  refine lv_iadd hx hb dL_law_1513 ?_
  refine W.eq (g2 := F0 m 1514 ls [.int 5, .ref b, .int (xs (Int32.toNatClampNeg 4)), .int (xs (Int32.toNatClampNeg 3)), .int (xs (Int32.toNatClampNeg 2)), .int (xs (Int32.toNatClampNeg 1)), .ref (hM 0), .int r1]) (by rw [show (0 + 5 : Int32) = 5 from by decide]) ?_
  refine va_sld hx hb hXs hbl hbA hS (i := 5) (vp_in_iff.mpr (by decide)) dL_law_1514 ?_
  refine lw_calli (va_runV (As := [.int (xs (Int32.toNatClampNeg 1)), .int (xs (Int32.toNatClampNeg 2)), .int (xs (Int32.toNatClampNeg 3)), .int (xs (Int32.toNatClampNeg 4)), .int (xs (Int32.toNatClampNeg 5))]) (rest := [.int r1]) ⟨hx, hb, hml, hown, hts⟩ (cf_X12_shift l D ca za hM hhM ((xs (Int32.toNatClampNeg 1))) ((xs (Int32.toNatClampNeg 2))) ((xs (Int32.toNatClampNeg 3))) ((xs (Int32.toNatClampNeg 4))) ((xs (Int32.toNatClampNeg 5))) H.size) (cwV 5 hts (gw_V (fun _ h => h) mw_775 mw_776 mw_777 mw_217 mw_774) rfl rfl rfl (by decide +kernel) ⟨Nat.le_of_ble_eq_true rfl, Nat.le_of_ble_eq_true rfl⟩) (sg_preV (ci := 12) (C := RX12) (T := TX12) (N := 55) hAM hK hPM hS (show sgZ zcM za (fun q => s.heap.size ≤ q) s.heap.size s from fun i q h => by simp [zcM] at h) 0 (by decide) rfl rfl) rfl rfl hl.1 rfl (lv_room (Nat.le_of_ble_eq_true rfl)) dL_law_1515 hcl) hAM hS (fun r2 H1 locs hqr2 hkr2 hzr2 hS => ?_)
  obtain ⟨H, hHe⟩ : ∃ z, z = H1 := ⟨_, rfl⟩
  rw [← hHe] at hS
  rw [← hHe]
  obtain ⟨f1, L1, Q1, -, h1⟩ := hqr1
  obtain ⟨f2, L2, Q2, -, h2⟩ := hqr2
  have hr : r1 = r2 := by
    rcases h1 with ⟨rfl, h8⟩ | ⟨rfl, h8⟩ <;> rcases h2 with ⟨rfl, h9⟩ | ⟨rfl, h9⟩ <;> first | rfl | (exfalso; omega) | exact Int32.toInt_inj.mp (by have k1 : (0 : Int32).toInt = 0 := (by decide); have k2 : (-1 : Int32).toInt = -1 := (by decide); have k3 : (-2 : Int32).toInt = -2 := (by decide); omega)
  refine lv_icmp_eq (tgt := 1579) hx hb dL_law_1518 (by decide) (fun _ => ?_) (fun c => absurd hr c)
  exact hJ _ _ _ hS (lv_sub hl [0, 3] rfl)

set_option maxHeartbeats 4000000 in
set_option maxRecDepth 100000 in
theorem lc_38 {p : Program} {e : Env} {s : State} {m : MethodId} {below : List Frame} {meth : Method} {cd : Code} {Qz : State → Prop} (l : Launch) {b : Nat} {xs : Nat → Int32} {D : va_G} {ca : Nat → ClassId} {za hX hM : Nat → Nat} {cells slots : Nat} {H : Heap} {locs : List Loc} {ls : Array Slot} (hx : p.tables.exec = Jvm.exec) (hb : cd.code = code) (hml : cd.maxLocals = 4) (hown : s.vm.findClass R_law = some m.cls) (hts : ∀ w ∈ gwL, w.before #[Value.ref b] s = true) (hXs : va_X b 6 xs s s.heap) (hbl : b < s.heap.size) (hK : va_K D vwCl (tyX ca) s) (hZ : sgZ zcX za (fun q => s.heap.size ≤ q) s.heap.size s) (hhX : sgH 52 hX) (hhM : sgH 26 hM) (hAX : sgY (fun q => s.heap.size ≤ q) 52 hX s.heap.size) (hAM : sgY (fun q => s.heap.size ≤ q) 26 hM s.heap.size) (hdis : ∀ i j : Nat, i < 52 → j < 26 → hX i ≠ hM j) (hcl : cells ≤ room_1.cells ∧ slots ≤ room_1.slots) (hPX : va_P D vwCl (sgw 52 hX (eX ca hX) f0X L0 Q0) H) (hPM : va_P D vwCl (sgw 26 hM (eM ca hM) f0M L0 Q0) H) (hS : va_S (fun q => s.heap.size ≤ q) s.heap H locs) (hl : lv_has ls 4 [(0, .ref b), (1, .ref (hX 0)), (2, .ref (hM 0)), (3, .int 0)]) (hJ : ∀ (H : Heap) (locs : List Loc) (ls : Array Slot), va_S (fun q => s.heap.size ≤ q) s.heap H locs → lv_has ls 4 [(0, .ref b), (3, .int 0)] → W p l e room_1 s m #[Value.ref b] below meth cd H locs cells slots Qz (F0 m 1579 ls [])) : W p l e room_1 s m #[Value.ref b] below meth cd H locs cells slots Qz (F0 m 1523 ls []) := by
  have hbA : ¬ (fun q => s.heap.size ≤ q) b := Nat.not_le.mpr hbl
  have hown : s.vm.findClass RL = some m.cls := hown
  refine lv_aload_n hx hb dL_law_1523 rfl (lv_at hl 1 rfl) ?_
  refine lv_aload_n hx hb dL_law_1524 rfl (lv_at hl 0 rfl) ?_
  refine lv_iload_n hx hb dL_law_1525 rfl (lv_at hl 3 rfl) ?_
  refine lv_iconst (v := 1) hx hb dL_law_1526 (by decide) ?_
  refine lv_iadd hx hb dL_law_1527 ?_
  refine W.eq (g2 := F0 m 1528 ls [.int 1, .ref b, .ref (hX 0)]) (by rw [show (0 + 1 : Int32) = 1 from by decide]) ?_
  refine va_sld hx hb hXs hbl hbA hS (i := 1) (vp_in_iff.mpr (by decide)) dL_law_1528 ?_
  refine lv_aload_n hx hb dL_law_1529 rfl (lv_at hl 0 rfl) ?_
  refine lv_iload_n hx hb dL_law_1530 rfl (lv_at hl 3 rfl) ?_
  refine lv_iconst (v := 2) hx hb dL_law_1531 (by decide) ?_
  refine lv_iadd hx hb dL_law_1532 ?_
  refine W.eq (g2 := F0 m 1533 ls [.int 2, .ref b, .int (xs (Int32.toNatClampNeg 1)), .ref (hX 0)]) (by rw [show (0 + 2 : Int32) = 2 from by decide]) ?_
  refine va_sld hx hb hXs hbl hbA hS (i := 2) (vp_in_iff.mpr (by decide)) dL_law_1533 ?_
  refine lw_calli (va_runV (As := [.int (xs (Int32.toNatClampNeg 1)), .int (xs (Int32.toNatClampNeg 2))]) (rest := []) ⟨hx, hb, hml, hown, hts⟩ (cf_X11_taken l D ca za hX hhX ((xs (Int32.toNatClampNeg 1))) ((xs (Int32.toNatClampNeg 2))) H.size) (cwV 2 hts (gw_V (fun _ h => h) mw_779 mw_780 mw_781 mw_9 mw_778) rfl rfl rfl (by decide +kernel) ⟨Nat.le_of_ble_eq_true rfl, Nat.le_of_ble_eq_true rfl⟩) (sg_preV (ci := 11) (C := RX11) (T := TX11) (N := 10) hAX hK hPX hS hZ 0 (by decide) rfl rfl) rfl rfl hl.1 rfl (lv_room (Nat.le_of_ble_eq_true rfl)) dL_law_1534 hcl) hAX hS (fun r1 H1 locs hqr1 hkr1 hzr1 hS => ?_)
  have hPM := lw_kept hPM hdis hkr1
  clear hPX
  obtain ⟨H, hHe⟩ : ∃ z, z = H1 := ⟨_, rfl⟩
  rw [← hHe] at hS hPM
  rw [← hHe]
  refine lv_aload_n hx hb dL_law_1537 rfl (lv_at hl 2 rfl) ?_
  refine lv_aload_n hx hb dL_law_1538 rfl (lv_at hl 0 rfl) ?_
  refine lv_iload_n hx hb dL_law_1539 rfl (lv_at hl 3 rfl) ?_
  refine lv_iconst (v := 1) hx hb dL_law_1540 (by decide) ?_
  refine lv_iadd hx hb dL_law_1541 ?_
  refine W.eq (g2 := F0 m 1542 ls [.int 1, .ref b, .ref (hM 0), .int r1]) (by rw [show (0 + 1 : Int32) = 1 from by decide]) ?_
  refine va_sld hx hb hXs hbl hbA hS (i := 1) (vp_in_iff.mpr (by decide)) dL_law_1542 ?_
  refine lv_aload_n hx hb dL_law_1543 rfl (lv_at hl 0 rfl) ?_
  refine lv_iload_n hx hb dL_law_1544 rfl (lv_at hl 3 rfl) ?_
  refine lv_iconst (v := 2) hx hb dL_law_1545 (by decide) ?_
  refine lv_iadd hx hb dL_law_1546 ?_
  refine W.eq (g2 := F0 m 1547 ls [.int 2, .ref b, .int (xs (Int32.toNatClampNeg 1)), .ref (hM 0), .int r1]) (by rw [show (0 + 2 : Int32) = 2 from by decide]) ?_
  refine va_sld hx hb hXs hbl hbA hS (i := 2) (vp_in_iff.mpr (by decide)) dL_law_1547 ?_
  refine lw_calli (va_runV (As := [.int (xs (Int32.toNatClampNeg 1)), .int (xs (Int32.toNatClampNeg 2))]) (rest := [.int r1]) ⟨hx, hb, hml, hown, hts⟩ (cf_X12_taken l D ca za hM hhM ((xs (Int32.toNatClampNeg 1))) ((xs (Int32.toNatClampNeg 2))) H.size) (cwV 2 hts (gw_V (fun _ h => h) mw_783 mw_784 mw_785 mw_217 mw_782) rfl rfl rfl (by decide +kernel) ⟨Nat.le_of_ble_eq_true rfl, Nat.le_of_ble_eq_true rfl⟩) (sg_preV (ci := 12) (C := RX12) (T := TX12) (N := 55) hAM hK hPM hS (show sgZ zcM za (fun q => s.heap.size ≤ q) s.heap.size s from fun i q h => by simp [zcM] at h) 0 (by decide) rfl rfl) rfl rfl hl.1 rfl (lv_room (Nat.le_of_ble_eq_true rfl)) dL_law_1548 hcl) hAM hS (fun r2 H1 locs hqr2 hkr2 hzr2 hS => ?_)
  obtain ⟨H, hHe⟩ : ∃ z, z = H1 := ⟨_, rfl⟩
  rw [← hHe] at hS
  rw [← hHe]
  obtain ⟨f1, L1, Q1, -, h1⟩ := hqr1
  obtain ⟨f2, L2, Q2, -, h2⟩ := hqr2
  have hr : r1 = r2 := by
    rcases h1 with ⟨rfl, h8⟩ | ⟨rfl, h8⟩ <;> rcases h2 with ⟨rfl, h9⟩ | ⟨rfl, h9⟩ <;> first | rfl | (exfalso; omega) | exact Int32.toInt_inj.mp (by have k1 : (0 : Int32).toInt = 0 := (by decide); have k2 : (-1 : Int32).toInt = -1 := (by decide); have k3 : (-2 : Int32).toInt = -2 := (by decide); omega)
  refine lv_icmp_eq (tgt := 1579) hx hb dL_law_1551 (by decide) (fun _ => ?_) (fun c => absurd hr c)
  exact hJ _ _ _ hS (lv_sub hl [0, 3] rfl)

set_option maxHeartbeats 4000000 in
set_option maxRecDepth 100000 in
theorem lc_39 {p : Program} {e : Env} {s : State} {m : MethodId} {below : List Frame} {meth : Method} {cd : Code} {Qz : State → Prop} (l : Launch) {b : Nat} {xs : Nat → Int32} {D : va_G} {ca : Nat → ClassId} {za hX hM : Nat → Nat} {cells slots : Nat} {H : Heap} {locs : List Loc} {ls : Array Slot} (hx : p.tables.exec = Jvm.exec) (hb : cd.code = code) (hml : cd.maxLocals = 4) (hown : s.vm.findClass R_law = some m.cls) (hts : ∀ w ∈ gwL, w.before #[Value.ref b] s = true) (hXs : va_X b 6 xs s s.heap) (hbl : b < s.heap.size) (hK : va_K D vwCl (tyX ca) s) (hZ : sgZ zcX za (fun q => s.heap.size ≤ q) s.heap.size s) (hhX : sgH 52 hX) (hhM : sgH 26 hM) (hAX : sgY (fun q => s.heap.size ≤ q) 52 hX s.heap.size) (hAM : sgY (fun q => s.heap.size ≤ q) 26 hM s.heap.size) (hdis : ∀ i j : Nat, i < 52 → j < 26 → hX i ≠ hM j) (hcl : cells ≤ room_1.cells ∧ slots ≤ room_1.slots) (hPX : va_P D vwCl (sgw 52 hX (eX ca hX) f0X L0 Q0) H) (hPM : va_P D vwCl (sgw 26 hM (eM ca hM) f0M L0 Q0) H) (hS : va_S (fun q => s.heap.size ≤ q) s.heap H locs) (hl : lv_has ls 4 [(0, .ref b), (1, .ref (hX 0)), (2, .ref (hM 0)), (3, .int 0)]) (hJ : ∀ (H : Heap) (locs : List Loc) (ls : Array Slot), va_S (fun q => s.heap.size ≤ q) s.heap H locs → lv_has ls 4 [(0, .ref b), (3, .int 0)] → W p l e room_1 s m #[Value.ref b] below meth cd H locs cells slots Qz (F0 m 1579 ls [])) : W p l e room_1 s m #[Value.ref b] below meth cd H locs cells slots Qz (F0 m 1556 ls []) := by
  have hbA : ¬ (fun q => s.heap.size ≤ q) b := Nat.not_le.mpr hbl
  have hown : s.vm.findClass RL = some m.cls := hown
  refine lv_aload_n hx hb dL_law_1556 rfl (lv_at hl 1 rfl) ?_
  refine lv_aload_n hx hb dL_law_1557 rfl (lv_at hl 0 rfl) ?_
  refine lv_iload_n hx hb dL_law_1558 rfl (lv_at hl 3 rfl) ?_
  refine lv_iconst (v := 1) hx hb dL_law_1559 (by decide) ?_
  refine lv_iadd hx hb dL_law_1560 ?_
  refine W.eq (g2 := F0 m 1561 ls [.int 1, .ref b, .ref (hX 0)]) (by rw [show (0 + 1 : Int32) = 1 from by decide]) ?_
  refine va_sld hx hb hXs hbl hbA hS (i := 1) (vp_in_iff.mpr (by decide)) dL_law_1561 ?_
  refine lw_calli (va_runV (As := [.int (xs (Int32.toNatClampNeg 1))]) (rest := []) ⟨hx, hb, hml, hown, hts⟩ (cf_X11_count l D ca za hX hhX ((xs (Int32.toNatClampNeg 1))) H.size) (cwV 1 hts (gw_V (fun _ h => h) mw_787 mw_788 mw_789 mw_9 mw_786) rfl rfl rfl (by decide +kernel) ⟨Nat.le_of_ble_eq_true rfl, Nat.le_of_ble_eq_true rfl⟩) (sg_preV (ci := 11) (C := RX11) (T := TX11) (N := 10) hAX hK hPX hS hZ 0 (by decide) rfl rfl) rfl rfl hl.1 rfl (lv_room (Nat.le_of_ble_eq_true rfl)) dL_law_1562 hcl) hAX hS (fun r1 H1 locs hqr1 hkr1 hzr1 hS => ?_)
  have hPM := lw_kept hPM hdis hkr1
  clear hPX
  obtain ⟨H, hHe⟩ : ∃ z, z = H1 := ⟨_, rfl⟩
  rw [← hHe] at hS hPM
  rw [← hHe]
  refine lv_aload_n hx hb dL_law_1565 rfl (lv_at hl 2 rfl) ?_
  refine lv_aload_n hx hb dL_law_1566 rfl (lv_at hl 0 rfl) ?_
  refine lv_iload_n hx hb dL_law_1567 rfl (lv_at hl 3 rfl) ?_
  refine lv_iconst (v := 1) hx hb dL_law_1568 (by decide) ?_
  refine lv_iadd hx hb dL_law_1569 ?_
  refine W.eq (g2 := F0 m 1570 ls [.int 1, .ref b, .ref (hM 0), .int r1]) (by rw [show (0 + 1 : Int32) = 1 from by decide]) ?_
  refine va_sld hx hb hXs hbl hbA hS (i := 1) (vp_in_iff.mpr (by decide)) dL_law_1570 ?_
  refine lw_calli (va_runV (As := [.int (xs (Int32.toNatClampNeg 1))]) (rest := [.int r1]) ⟨hx, hb, hml, hown, hts⟩ (cf_X12_count l D ca za hM hhM ((xs (Int32.toNatClampNeg 1))) H.size) (cwV 1 hts (gw_V (fun _ h => h) mw_791 mw_792 mw_793 mw_217 mw_790) rfl rfl rfl (by decide +kernel) ⟨Nat.le_of_ble_eq_true rfl, Nat.le_of_ble_eq_true rfl⟩) (sg_preV (ci := 12) (C := RX12) (T := TX12) (N := 55) hAM hK hPM hS (show sgZ zcM za (fun q => s.heap.size ≤ q) s.heap.size s from fun i q h => by simp [zcM] at h) 0 (by decide) rfl rfl) rfl rfl hl.1 rfl (lv_room (Nat.le_of_ble_eq_true rfl)) dL_law_1571 hcl) hAM hS (fun r2 H1 locs hqr2 hkr2 hzr2 hS => ?_)
  obtain ⟨H, hHe⟩ : ∃ z, z = H1 := ⟨_, rfl⟩
  rw [← hHe] at hS
  rw [← hHe]
  obtain ⟨f1, L1, Q1, -, h1⟩ := hqr1
  obtain ⟨f2, L2, Q2, -, h2⟩ := hqr2
  have hr : r1 = r2 := by
    rcases h1 with ⟨rfl, h8⟩ | ⟨rfl, h8⟩ <;> rcases h2 with ⟨rfl, h9⟩ | ⟨rfl, h9⟩ <;> first | rfl | (exfalso; omega) | exact Int32.toInt_inj.mp (by have k1 : (0 : Int32).toInt = 0 := (by decide); have k2 : (-1 : Int32).toInt = -1 := (by decide); have k3 : (-2 : Int32).toInt = -2 := (by decide); omega)
  refine lv_icmp_eq (tgt := 1579) hx hb dL_law_1574 (by decide) (fun _ => ?_) (fun c => absurd hr c)
  exact hJ _ _ _ hS (lv_sub hl [0, 3] rfl)

