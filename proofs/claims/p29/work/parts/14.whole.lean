/-! the law from its entry. Laid by a program (wip/tool) -/
theorem lw_mkcall {p : Program} {l : Launch} {e : Env} {R : Room} {s : State} {m : MethodId} {args : Array Value} {below : List Frame} {meth : Method} {c : Code} {H : Heap} {locs : List Loc} {cells slots : Nat} {Qz : State → Prop} {pc : Nat} {ls : Array Slot} {rest : List Value} {n : Nat} {h : Nat → Nat} {A : Nat → Prop} {st0 : List Value} {av : Array Value} {mc ms : Nat} {B : State → Prop} (hr : va_Run p l e R s m args below meth c H locs cells slots mc ms (F0 m pc ls st0) rest (mkQ B (sgA n h H.size) av) (sgA n h H.size)) (hA : sgY A n h s.heap.size) (hS : va_S A s.heap H locs)
    (kk : ∀ (t : State) (H1 : Heap) (locs1 : List Loc), t.heap = H1 → B t → (∀ q : Nat, q < H.size → ¬ sgA n h H.size q → H1[q]? = H[q]?) → va_S A s.heap H1 locs1 → W p l e R s m args below meth c H1 locs1 (cells + mc) (slots + ms) Qz (F0 m (pc + 3) ls rest)) : W p l e R s m args below meth c H locs cells slots Qz (F0 m pc ls st0) :=
  va_callv hr hS (fun q _ hq => hA.sub hS.1 hq) (fun q hq => hA.sub hS.1 hq) (fun _ t H1 locs1 ht _ _ hB _ hk hS1 => kk t H1 locs1 ht hB hk hS1)
theorem mk_split {D : va_G} {cl : List vw_C} {w1 w2 : va_W} {H : Heap} (hP : va_P D cl (w1 ++ w2) H) : va_P D cl w1 H ∧ va_P D cl w2 H := by
  refine ⟨fun k q hq => hP k q ?_, fun k q hq => hP (w1.length + k) q ?_⟩
  · rw [List.getElem?_append_left (List.getElem?_eq_some_iff.mp hq).1]; exact hq
  · rw [List.getElem?_append_right (Nat.le_add_right _ _), Nat.add_sub_cancel_left]; exact hq
set_option maxHeartbeats 8000000 in
set_option maxRecDepth 100000 in
theorem whole_start {p : Program} {e : Env} {s : State} {m : MethodId} {below : List Frame} {meth : Method} {c : Code} (l : Launch) (hflags : l.flags = flags0) {b L : Nat} {xs : Nat → Int32} (hL : L ≤ 3072) (C0 : lw_At p s m meth c b L xs) : W p l e room_1 s m #[Value.ref b] below meth c s.heap [] 0 0 (lw_Z below #[Value.ref b] s) (entryFrame m ([Value.ref b] : List Value).toArray 4) := by
  obtain ⟨hx, hb, hr, hml, hown, hts0, hX, hbl, hlocks, hgv⟩ := id C0
  have hAq : ∀ q : Nat, s.heap.size ≤ q → (fun q => s.heap.size ≤ q) q := fun _ h => h
  have hbA : ¬ (fun q => s.heap.size ≤ q) b := Nat.not_le.mpr hbl
  obtain ⟨D, ca, hK⟩ := lz_K hts0
  obtain ⟨za, hZ⟩ := lz_Z hts0 hgv
  have hN := lz_N hts0
  have hO : ∀ C ∈ ["SetAgain$Shelf"], va_AO C s := fun C hC => by rw [List.mem_singleton.mp hC]; exact va_AO.of (hts0 (.arrayOver (.object "SetAgain$Shelf")) (by decide +kernel))
  have hts : ∀ w ∈ gwL, w.before #[Value.ref b] s = true := fun w h => hts0 w (gwL_in w h)
  have hl := lv_entry ([.ref b]) (n := 4) (Nat.le_of_ble_eq_true rfl)
  rw [lg_entry_eq]
  generalize (lg_sl ([.ref b]) ++ List.replicate (4 - (lg_sl ([.ref b])).length) Slot.unset).toArray = ls at hl ⊢
  have hl : lv_has ls 4 [(0, .ref b)] := hl
  have hP : va_P D vwCl (sgw 0 (sgl []) (eXc ca) zF L0 zQ) s.heap := fun k q h => by simp [sgw] at h
  have hD : va_D (fun q => s.heap.size ≤ q) (sgw 0 (sgl []) (eXc ca) zF L0 zQ) := ⟨fun i j p q h => by simp [sgw] at h, fun k q h => by simp [sgw] at h⟩
  have hS : va_S (fun q => s.heap.size ≤ q) s.heap s.heap [] := va_S.rf
  have hown : s.vm.findClass RL = some m.cls := hown
  refine mk_new (n := 0) (ci := 11) (fs := [.null, .null, .null, .null, .null, .null, .null, .null, .null, .null]) (C := RX11) (T := TX11) (N := 10) hx hb hts gx_11 tyX11 tyX11_ok hown (hts _ mw_1287) (hts _ mw_1288) (hts _ mw_37) rfl hAq hK hP hD hS rfl rfl (by decide +kernel) (Nat.le_of_ble_eq_true rfl) (Nat.le_of_ble_eq_true rfl) dL_law_0 (fun a0 H hP hD hS => ?_)
  have hP : va_P D vwCl (sgw 1 (sgl [a0]) (eXc ca) zF L0 zQ) H := hP
  have hD : va_D (fun q => s.heap.size ≤ q) (sgw 1 (sgl [a0]) (eXc ca) zF L0 zQ) := hD
  have hA := mk_Y hD hAq
  refine lv_dup hx hb dL_law_3 rfl ?_
  have hsub : ∀ q, sgA 1 (sgl [a0]) H.size q → (fun q => s.heap.size ≤ q) q := fun q hq => hA.sub hS.1 hq
  refine mk_call (va_runI (As := []) (rest := [.ref a0]) ⟨hx, hb, hml, hown, hts⟩ (ci_X11_init l D ca a0 zF zQ (fun _ _ => rfl) (fun _ _ => rfl) H.size) (cwI 0 hts (gw_in (fun _ h => h) mw_1289) rfl rfl rfl (hts _ mw_37) (hts _ mw_1290) (hts _ mw_1291) rfl (by decide +kernel) ⟨(Nat.le_of_ble_eq_true rfl), (Nat.le_of_ble_eq_true rfl)⟩) (mk_pre (p := p) hK hP hD hO hN) rfl rfl hl.1 rfl (lv_room (Nat.le_of_ble_eq_true rfl)) dL_law_4 ⟨(Nat.le_of_ble_eq_true rfl), (Nat.le_of_ble_eq_true rfl)⟩) hA hS (fun t H locs ht hB hS => ?_)
  obtain ⟨a1, a2, a3, a4, a5, a6, a7, a8, a9, a10, a11, a12, a13, a14, a15, a16, a17, a18, a19, a20, a21, a22, a23, a24, a25, a26, a27, a28, a29, a30, a31, a32, a33, a34, a35, a36, a37, a38, a39, a40, a41, a42, a43, a44, a45, a46, a47, a48, a49, a50, a51, f1, Q1, hPX, hDX, -, -, ef, eQ⟩ := hB
  rw [ht, ef, eQ, cv_X] at hPX
  have hDX := hDX.weaken (fun _ _ _ h9 => hsub _ h9)
  have hhX := mk_H hDX
  have hAX := mk_Y hDX hAq
  clear hDX hP hD hA ef eQ
  obtain ⟨hX0, ehX⟩ : ∃ z : Nat → Nat, z = sgl [a0, a1, a2, a3, a4, a5, a6, a7, a8, a9, a10, a11, a12, a13, a14, a15, a16, a17, a18, a19, a20, a21, a22, a23, a24, a25, a26, a27, a28, a29, a30, a31, a32, a33, a34, a35, a36, a37, a38, a39, a40, a41, a42, a43, a44, a45, a46, a47, a48, a49, a50, a51] := ⟨_, rfl⟩
  have e0 : a0 = hX0 0 := by rw [ehX]; rfl
  rw [← ehX] at hPX hhX hAX
  refine lv_astore_n (lv' := [(1, .ref a0), (0, .ref b)]) hx hb dL_law_7 rfl hl (by decide) rfl (fun ls hl => ?_)
  rw [e0] at hl
  have hDX : va_D (fun q => s.heap.size ≤ q) (sgw 52 hX0 (eX ca hX0) f0X L0 Q0) := sgD hhX hAX
  refine va_new (ci := 12) (fs := [.null, .null, .null, .null, .int 0, .int 0, .int 0, .null, .null, .int 0, .null, .int 0, .int 0, .int 0, .int 0, .int 0, .int 0, .null, .null, .null, .int 0, .int 0, .int 0, .int 0, .int 0, .int 0, .null, .null, .null, .int 0, .int 0, .int 0, .null, .null, .null, .int 0, .null, .null, .int 0, .int 0, .int 0, .int 0, .int 0, .int 0, .null, .int 0, .null, .null, .int 0, .int 0, .int 0, .null, .null, .null, .null]) (C := RX12) (T := TX12) (N := 55) hx hb hts gx_12 tyX12 tyX12_ok hown (hts _ mw_1292) (hts _ mw_1293) (hts _ mw_619) hK hPX hDX hS hAq rfl (by decide +kernel) (Nat.le_of_ble_eq_true rfl) (Nat.le_of_ble_eq_true rfl) dL_law_8 (fun b0 H hP2 hD2 hS => ?_)
  obtain ⟨hPX, hPM⟩ := mk_split hP2
  have hP : va_P D vwCl (sgw 1 (sgl [b0]) (eMc ca) zF L0 zQ) H := hPM
  have hd0 : ∀ i j : Nat, i < 1 → j < 52 → sgl [b0] i ≠ hX0 j := by
    intro i j hi hj h9
    have hi0 : i = 0 := by omega
    subst hi0
    have g1 : (sgw 52 hX0 (eX ca hX0) f0X L0 Q0 ++ [(b0, (.inr (12, [.null, .null, .null, .null, .int 0, .int 0, .int 0, .null, .null, .int 0, .null, .int 0, .int 0, .int 0, .int 0, .int 0, .int 0, .null, .null, .null, .int 0, .int 0, .int 0, .int 0, .int 0, .int 0, .null, .null, .null, .int 0, .int 0, .int 0, .null, .null, .null, .int 0, .null, .null, .int 0, .int 0, .int 0, .int 0, .int 0, .int 0, .null, .int 0, .null, .null, .int 0, .int 0, .int 0, .null, .null, .null, .null]) : va_E))])[j]? = some (hX0 j, eX ca hX0 j (f0X j) (L0 j) (Q0 j)) := by rw [List.getElem?_append_left (by rw [sgw_len]; exact hj), sgw_at hj]
    have g2 : (sgw 52 hX0 (eX ca hX0) f0X L0 Q0 ++ [(b0, (.inr (12, [.null, .null, .null, .null, .int 0, .int 0, .int 0, .null, .null, .int 0, .null, .int 0, .int 0, .int 0, .int 0, .int 0, .int 0, .null, .null, .null, .int 0, .int 0, .int 0, .int 0, .int 0, .int 0, .null, .null, .null, .int 0, .int 0, .int 0, .null, .null, .null, .int 0, .null, .null, .int 0, .int 0, .int 0, .int 0, .int 0, .int 0, .null, .int 0, .null, .null, .int 0, .int 0, .int 0, .null, .null, .null, .null]) : va_E))])[52]? = some (b0, .inr (12, [.null, .null, .null, .null, .int 0, .int 0, .int 0, .null, .null, .int 0, .null, .int 0, .int 0, .int 0, .int 0, .int 0, .int 0, .null, .null, .null, .int 0, .int 0, .int 0, .int 0, .int 0, .int 0, .null, .null, .null, .int 0, .int 0, .int 0, .null, .null, .null, .int 0, .null, .null, .int 0, .int 0, .int 0, .int 0, .int 0, .int 0, .null, .int 0, .null, .null, .int 0, .int 0, .int 0, .null, .null, .null, .null])) := by rw [List.getElem?_append_right (by rw [sgw_len]; exact Nat.le_refl _), sgw_len]; rfl
    have := hD2.1 j 52 _ _ g1 g2 h9.symm
    omega
  have hD : va_D (fun q => s.heap.size ≤ q) (sgw 1 (sgl [b0]) (eMc ca) zF L0 zQ) := by
    refine ⟨fun i j p q hp hq _ => ?_, fun k q hq => ?_⟩
    · have h1 := (sgw_inv hp).1; have h2 := (sgw_inv hq).1; omega
    · obtain ⟨h1, rfl⟩ := sgw_inv hq
      have h0 : k = 0 := by omega
      subst h0
      exact hD2.2 52 (b0, .inr (12, [.null, .null, .null, .null, .int 0, .int 0, .int 0, .null, .null, .int 0, .null, .int 0, .int 0, .int 0, .int 0, .int 0, .int 0, .null, .null, .null, .int 0, .int 0, .int 0, .int 0, .int 0, .int 0, .null, .null, .null, .int 0, .int 0, .int 0, .null, .null, .null, .int 0, .null, .null, .int 0, .int 0, .int 0, .int 0, .int 0, .int 0, .null, .int 0, .null, .null, .int 0, .int 0, .int 0, .null, .null, .null, .null])) (by rw [List.getElem?_append_right (by rw [sgw_len]; exact Nat.le_refl _), sgw_len]; rfl)
  have hA := mk_Y hD hAq
  refine lv_dup hx hb dL_law_11 rfl ?_
  have hsub : ∀ q, sgA 1 (sgl [b0]) H.size q → (fun q => s.heap.size ≤ q) q := fun q hq => hA.sub hS.1 hq
  have hlt : ∀ i : Nat, i < 52 → hX0 i < H.size := fun i hi => (hPX i _ (sgw_at hi)).lt
  obtain ⟨sz9, esz⟩ : ∃ z : Nat, z = H.size := ⟨_, rfl⟩
  refine lw_mkcall (va_runI (As := []) (rest := [.ref b0]) ⟨hx, hb, hml, hown, hts⟩ (ci_X12_init l D ca b0 zF zQ (fun _ _ => rfl) (fun _ _ => rfl) H.size) (cwI 0 hts (gw_in (fun _ h => h) mw_1294) rfl rfl rfl (hts _ mw_619) (hts _ mw_1295) (hts _ mw_1296) rfl (by decide +kernel) ⟨(Nat.le_of_ble_eq_true rfl), (Nat.le_of_ble_eq_true rfl)⟩) (mk_pre (p := p) hK hP hD hO hN) rfl rfl hl.1 rfl (lv_room (Nat.le_of_ble_eq_true rfl)) dL_law_12 ⟨(Nat.le_of_ble_eq_true rfl), (Nat.le_of_ble_eq_true rfl)⟩) hA hS (fun t H locs ht hB hk hS => ?_)
  obtain ⟨b1, b2, b3, b4, b5, b6, b7, b8, b9, b10, b11, b12, b13, b14, b15, b16, b17, b18, b19, b20, b21, b22, b23, b24, b25, f2, Q2, hPM, hDM, -, -, ef, eQ⟩ := hB
  have hPX := lw_kept hPX hd0 hk
  rw [ht, ef, eQ, cv_M] at hPM
  have hdis : ∀ i j : Nat, i < 52 → j < 26 → hX0 i ≠ sgl [b0, b1, b2, b3, b4, b5, b6, b7, b8, b9, b10, b11, b12, b13, b14, b15, b16, b17, b18, b19, b20, b21, b22, b23, b24, b25] j := by
    intro i j hi hj h9
    rcases hDM.2 j _ (sgw_at hj) with ⟨k, hk1, h2⟩ | h2
    · exact hd0 k i hk1 hi (h2.symm.trans h9.symm)
    · have h3 := hlt i hi
      rw [h9] at h3
      exact absurd h3 (Nat.not_lt.mpr h2)
  have hDM := hDM.weaken (fun _ _ _ h9 => hsub _ h9)
  have hhM := mk_H hDM
  have hAM := mk_Y hDM hAq
  clear hDM hP hD hA ef eQ
  obtain ⟨hM0, ehM⟩ : ∃ z : Nat → Nat, z = sgl [b0, b1, b2, b3, b4, b5, b6, b7, b8, b9, b10, b11, b12, b13, b14, b15, b16, b17, b18, b19, b20, b21, b22, b23, b24, b25] := ⟨_, rfl⟩
  have e1 : b0 = hM0 0 := by rw [ehM]; rfl
  rw [← ehM] at hPM hhM hAM hdis
  refine lv_astore_n (lv' := [(2, .ref b0), (1, .ref (hX0 0)), (0, .ref b)]) hx hb dL_law_15 rfl hl (by decide) rfl (fun ls hl => ?_)
  rw [e1] at hl
  refine lv_iconst (v := 0) hx hb dL_law_16 (by decide) ?_
  refine lv_istore_n (lv' := [(3, .int 0), (2, .ref (hM0 0)), (1, .ref (hX0 0)), (0, .ref b)]) hx hb dL_law_17 rfl hl (by decide) rfl (fun ls hl => ?_)
  refine W.widen (k := 78) (n := 10540) (by decide) (by decide) ?_
  have hend : ∀ (H : Heap) (locs : List Loc) (ls : Array Slot), va_S (fun q => s.heap.size ≤ q) s.heap H locs → W p l e room_1 s m #[Value.ref b] below meth c H locs 78 10540 (lw_Z below #[Value.ref b] s) (F0 m 1584 ls []) := by
    intro H locs ls hS
    refine lv_iconst (v := 1) hx hb dL_law_1584 (by decide) ?_
    refine va_forget (fun q hq => hS.2.2 q hq) ?_
    refine W.widen (k := 600000) (n := 7302250) (Nat.le_of_ble_eq_true rfl) (Nat.le_of_ble_eq_true rfl) ?_
    exact lw_ret hx hb hr hlocks dL_law_1585
  have hdis2 : ∀ i j : Nat, i < 26 → j < 52 → hM0 i ≠ hX0 j := fun i j hi hj h9 => hdis j i hj hi h9.symm
  have hcl : 78 ≤ room_1.cells ∧ 10540 ≤ room_1.slots := ⟨Nat.le_of_ble_eq_true rfl, Nat.le_of_ble_eq_true rfl⟩
  have loop : ∀ (n : Nat) (i : Int32) (fX : sg_F) (LX : sg_L) (QX : sg_Q) (fM : sg_F) (LM : sg_L) (QM : sg_Q) (H : Heap) (locs : List Loc) (ls : Array Slot), 3072 - i.toInt < (n : Int) → 0 ≤ i.toInt ∧ i.toInt ≤ 3072 → lwInv fX LX QX fM LM QM → va_P D vwCl (sgw 52 hX0 (eX ca hX0) fX LX QX) H → va_P D vwCl (sgw 26 hM0 (eM ca hM0) fM LM QM) H → va_S (fun q => s.heap.size ≤ q) s.heap H locs → lv_has ls 4 [(0, .ref b), (1, .ref (hX0 0)), (2, .ref (hM0 0)), (3, .int i)] → W p l e room_1 s m #[Value.ref b] below meth c H locs 78 10540 (lw_Z below #[Value.ref b] s) (F0 m 18 ls []) := by
    intro n
    induction n with
    | zero => intro i fX LX QX fM LM QM H locs ls hm hi; exact absurd hm (by omega)
    | succ n ih =>
      intro i fX LX QX fM LM QM H locs ls hm hi hV hPX hPM hS hl
      refine lv_iload_n hx hb dL_law_18 rfl (lv_at hl 3 rfl) ?_
      refine lv_aload_n hx hb dL_law_19 rfl (lv_at hl 0 rfl) ?_
      refine va_slen hx hb hX hbl hbA hS dL_law_20 ?_
      refine lv_bipush (v := 6) hx hb dL_law_21 (by decide) ?_
      refine lv_isub hx hb dL_law_23 ?_
      refine lv_topi (fun v9 ev9 => ?_)
      have k6 : (6 : Int32).toInt = 6 := by decide
      have hLi : (Int32.ofNat L).toInt = (L : Int) := nI_toInt (n := L) (by omega)
      have q9 : v9.toInt = (L : Int) - 6 := by rw [ev9]; exact (bn_subI (by omega) (by omega)).trans (by omega)
      refine lv_icmp_gt (tgt := 1584) hx hb dL_law_24 (by decide) (fun _ => hend _ _ _ hS) (fun c9 => ?_)
      have c8 := bn_nlt c9
      have hi6 : 0 ≤ i.toInt ∧ i.toInt + 6 ≤ (L : Int) := ⟨hi.1, by omega⟩
      have hJ : ∀ (fX : sg_F) (LX : sg_L) (QX : sg_Q) (fM : sg_F) (LM : sg_L) (QM : sg_Q) (H : Heap) (locs : List Loc) (ls : Array Slot), lwInv fX LX QX fM LM QM → va_P D vwCl (sgw 52 hX0 (eX ca hX0) fX LX QX) H → va_P D vwCl (sgw 26 hM0 (eM ca hM0) fM LM QM) H → va_S (fun q => s.heap.size ≤ q) s.heap H locs → lv_has ls 4 [(0, .ref b), (1, .ref (hX0 0)), (2, .ref (hM0 0)), (3, .int i)] → W p l e room_1 s m #[Value.ref b] below meth c H locs 78 10540 (lw_Z below #[Value.ref b] s) (F0 m 1578 ls []) := by
        intro fX LX QX fM LM QM H locs ls hV hPX hPM hS hl
        obtain ⟨v8, ev8⟩ : ∃ z : Int32, z = i + 6 := ⟨_, rfl⟩
        have q8 : v8.toInt = i.toInt + 6 := by rw [ev8]; exact (bn_addc i 6 (by decide) (by omega) (by omega))
        refine lv_iinc (v := v8) (lv' := [(3, .int v8), (0, .ref b), (1, .ref (hX0 0)), (2, .ref (hM0 0))]) hx hb dL_law_1578 hl (k := 3) rfl (by rw [ev8]; rfl) (by decide) rfl (fun ls hl => ?_)
        refine lv_goto (tgt := 18) hx hb dL_law_1581 (by decide) ?_
        exact ih v8 fX LX QX fM LM QM _ _ _ (by omega) ⟨by omega, by omega⟩ hV hPX hPM hS (lv_sub hl [1, 2, 3, 0] rfl)
      refine lv_aload_n hx hb dL_law_27 rfl (lv_at hl 0 rfl) ?_
      refine lv_iload_n hx hb dL_law_28 rfl (lv_at hl 3 rfl) ?_
      refine va_sld hx hb hX hbl hbA hS (i := i) (vp_in_iff.mpr ⟨by omega, by omega⟩) dL_law_29 ?_
      refine lv_bipush (v := 63) hx hb dL_law_30 (by decide) ?_
      refine lv_iand hx hb dL_law_32 ?_
      refine lv_topi (fun v ev => ?_)
      have hv := vp_in_iff.mp (show vp_in v 64 from by rw [ev]; exact pk_andIn _ 6 (by decide) (by decide))
      rcases (show 39 < v.toInt ∨ v.toInt = 0 ∨ v.toInt = 1 ∨ v.toInt = 2 ∨ v.toInt = 3 ∨ v.toInt = 4 ∨ v.toInt = 5 ∨ v.toInt = 6 ∨ v.toInt = 7 ∨ v.toInt = 8 ∨ v.toInt = 9 ∨ v.toInt = 10 ∨ v.toInt = 11 ∨ v.toInt = 12 ∨ v.toInt = 13 ∨ v.toInt = 14 ∨ v.toInt = 15 ∨ v.toInt = 16 ∨ v.toInt = 17 ∨ v.toInt = 18 ∨ v.toInt = 19 ∨ v.toInt = 20 ∨ v.toInt = 21 ∨ v.toInt = 22 ∨ v.toInt = 23 ∨ v.toInt = 24 ∨ v.toInt = 25 ∨ v.toInt = 26 ∨ v.toInt = 27 ∨ v.toInt = 28 ∨ v.toInt = 29 ∨ v.toInt = 30 ∨ v.toInt = 31 ∨ v.toInt = 32 ∨ v.toInt = 33 ∨ v.toInt = 34 ∨ v.toInt = 35 ∨ v.toInt = 36 ∨ v.toInt = 37 ∨ v.toInt = 38 ∨ v.toInt = 39 from by omega) with q | q | q | q | q | q | q | q | q | q | q | q | q | q | q | q | q | q | q | q | q | q | q | q | q | q | q | q | q | q | q | q | q | q | q | q | q | q | q | q | q
      · refine lv_tableOut (tgt := 1578) hx hb dL_law_33 (Or.inr q) (by decide) ?_
        exact hJ _ _ _ _ _ _ _ _ _ hV hPX hPM hS hl
      · refine lv_tableIn (tgt := 208) hx hb dL_law_33 (by omega) (by omega) (by rw [q]; rfl) (by decide) ?_
        exact lc_0 l hx hb hml hown hts hX hL hi6 hbl hK hZ hhX hhM hAX hAM hdis hdis2 hcl hV hPX hPM hS hl hJ
      · refine lv_tableIn (tgt := 241) hx hb dL_law_33 (by omega) (by omega) (by rw [q]; rfl) (by decide) ?_
        exact lc_1 l hx hb hml hown hts hX hL hi6 hbl hK hZ hhX hhM hAX hAM hdis hdis2 hcl hV hPX hPM hS hl hJ
      · refine lv_tableIn (tgt := 284) hx hb dL_law_33 (by omega) (by omega) (by rw [q]; rfl) (by decide) ?_
        exact lc_2 l hx hb hml hown hts hX hL hi6 hbl hK hZ hhX hhM hAX hAM hdis hdis2 hcl hV hPX hPM hS hl hJ
      · refine lv_tableIn (tgt := 327) hx hb dL_law_33 (by omega) (by omega) (by rw [q]; rfl) (by decide) ?_
        exact lc_3 l hx hb hml hown hts hX hL hi6 hbl hK hZ hhX hhM hAX hAM hdis hdis2 hcl hV hPX hPM hS hl hJ
      · refine lv_tableIn (tgt := 360) hx hb dL_law_33 (by omega) (by omega) (by rw [q]; rfl) (by decide) ?_
        exact lc_4 l hx hb hml hown hts hX hL hi6 hbl hK hZ hhX hhM hAX hAM hdis hdis2 hcl hV hPX hPM hS hl hJ
      · refine lv_tableIn (tgt := 383) hx hb dL_law_33 (by omega) (by omega) (by rw [q]; rfl) (by decide) ?_
        exact lc_5 l hx hb hml hown hts hX hL hi6 hbl hK hZ hhX hhM hAX hAM hdis hdis2 hcl hV hPX hPM hS hl hJ
      · refine lv_tableIn (tgt := 396) hx hb dL_law_33 (by omega) (by omega) (by rw [q]; rfl) (by decide) ?_
        exact lc_6 l hx hb hml hown hts hX hL hi6 hbl hK hZ hhX hhM hAX hAM hdis hdis2 hcl hV hPX hPM hS hl hJ
      · refine lv_tableIn (tgt := 439) hx hb dL_law_33 (by omega) (by omega) (by rw [q]; rfl) (by decide) ?_
        exact lc_7 l hx hb hml hown hts hX hL hi6 hbl hK hZ hhX hhM hAX hAM hdis hdis2 hcl hV hPX hPM hS hl hJ
      · refine lv_tableIn (tgt := 482) hx hb dL_law_33 (by omega) (by omega) (by rw [q]; rfl) (by decide) ?_
        exact lc_8 l hx hb hml hown hts hX hL hi6 hbl hK hZ hhX hhM hAX hAM hdis hdis2 hcl hV hPX hPM hS hl hJ
      · refine lv_tableIn (tgt := 525) hx hb dL_law_33 (by omega) (by omega) (by rw [q]; rfl) (by decide) ?_
        exact lc_9 l hx hb hml hown hts hX hL hi6 hbl hK hZ hhX hhM hAX hAM hdis hdis2 hcl hV hPX hPM hS hl hJ
      · refine lv_tableIn (tgt := 558) hx hb dL_law_33 (by omega) (by omega) (by rw [q]; rfl) (by decide) ?_
        exact lc_10 l hx hb hml hown hts hX hL hi6 hbl hK hZ hhX hhM hAX hAM hdis hdis2 hcl hV hPX hPM hS hl hJ
      · refine lv_tableIn (tgt := 601) hx hb dL_law_33 (by omega) (by omega) (by rw [q]; rfl) (by decide) ?_
        exact lc_11 l hx hb hml hown hts hX hL hi6 hbl hK hZ hhX hhM hAX hAM hdis hdis2 hcl hV hPX hPM hS hl hJ
      · refine lv_tableIn (tgt := 644) hx hb dL_law_33 (by omega) (by omega) (by rw [q]; rfl) (by decide) ?_
        exact lc_12 l hx hb hml hown hts hX hL hi6 hbl hK hZ hhX hhM hAX hAM hdis hdis2 hcl hV hPX hPM hS hl hJ
      · refine lv_tableIn (tgt := 677) hx hb dL_law_33 (by omega) (by omega) (by rw [q]; rfl) (by decide) ?_
        exact lc_13 l hx hb hml hown hts hX hL hi6 hbl hK hZ hhX hhM hAX hAM hdis hdis2 hcl hV hPX hPM hS hl hJ
      · refine lv_tableIn (tgt := 720) hx hb dL_law_33 (by omega) (by omega) (by rw [q]; rfl) (by decide) ?_
        exact lc_14 l hx hb hml hown hts hX hL hi6 hbl hK hZ hhX hhM hAX hAM hdis hdis2 hcl hV hPX hPM hS hl hJ
      · refine lv_tableIn (tgt := 763) hx hb dL_law_33 (by omega) (by omega) (by rw [q]; rfl) (by decide) ?_
        exact lc_15 l hx hb hml hown hts hX hL hi6 hbl hK hZ hhX hhM hAX hAM hdis hdis2 hcl hV hPX hPM hS hl hJ
      · refine lv_tableIn (tgt := 806) hx hb dL_law_33 (by omega) (by omega) (by rw [q]; rfl) (by decide) ?_
        exact lc_16 l hx hb hml hown hts hX hL hi6 hbl hK hZ hhX hhM hAX hAM hdis hdis2 hcl hV hPX hPM hS hl hJ
      · refine lv_tableIn (tgt := 829) hx hb dL_law_33 (by omega) (by omega) (by rw [q]; rfl) (by decide) ?_
        exact lc_17 l hx hb hml hown hts hX hL hi6 hbl hK hZ hhX hhM hAX hAM hdis hdis2 hcl hV hPX hPM hS hl hJ
      · refine lv_tableIn (tgt := 872) hx hb dL_law_33 (by omega) (by omega) (by rw [q]; rfl) (by decide) ?_
        exact lc_18 l hx hb hml hown hts hX hL hi6 hbl hK hZ hhX hhM hAX hAM hdis hdis2 hcl hV hPX hPM hS hl hJ
      · refine lv_tableIn (tgt := 915) hx hb dL_law_33 (by omega) (by omega) (by rw [q]; rfl) (by decide) ?_
        exact lc_19 l hx hb hml hown hts hX hL hi6 hbl hK hZ hhX hhM hAX hAM hdis hdis2 hcl hV hPX hPM hS hl hJ
      · refine lv_tableIn (tgt := 958) hx hb dL_law_33 (by omega) (by omega) (by rw [q]; rfl) (by decide) ?_
        exact lc_20 l hx hb hml hown hts hX hL hi6 hbl hK hZ hhX hhM hAX hAM hdis hdis2 hcl hV hPX hPM hS hl hJ
      · refine lv_tableIn (tgt := 991) hx hb dL_law_33 (by omega) (by omega) (by rw [q]; rfl) (by decide) ?_
        exact lc_21 l hx hb hml hown hts hX hL hi6 hbl hK hZ hhX hhM hAX hAM hdis hdis2 hcl hV hPX hPM hS hl hJ
      · refine lv_tableIn (tgt := 1044) hx hb dL_law_33 (by omega) (by omega) (by rw [q]; rfl) (by decide) ?_
        exact lc_22 l hx hb hml hown hts hX hL hi6 hbl hK hZ hhX hhM hAX hAM hdis hdis2 hcl hV hPX hPM hS hl hJ
      · refine lv_tableIn (tgt := 1067) hx hb dL_law_33 (by omega) (by omega) (by rw [q]; rfl) (by decide) ?_
        exact lc_23 l hx hb hml hown hts hX hL hi6 hbl hK hZ hhX hhM hAX hAM hdis hdis2 hcl hV hPX hPM hS hl hJ
      · refine lv_tableIn (tgt := 1100) hx hb dL_law_33 (by omega) (by omega) (by rw [q]; rfl) (by decide) ?_
        exact lc_24 l hx hb hml hown hts hX hL hi6 hbl hK hZ hhX hhM hAX hAM hdis hdis2 hcl hV hPX hPM hS hl hJ
      · refine lv_tableIn (tgt := 1113) hx hb dL_law_33 (by omega) (by omega) (by rw [q]; rfl) (by decide) ?_
        exact lc_25 l hx hb hml hown hts hX hL hi6 hbl hK hZ hhX hhM hAX hAM hdis hdis2 hcl hV hPX hPM hS hl hJ
      · refine lv_tableIn (tgt := 1136) hx hb dL_law_33 (by omega) (by omega) (by rw [q]; rfl) (by decide) ?_
        exact lc_26 l hx hb hml hown hts hX hL hi6 hbl hK hZ hhX hhM hAX hAM hdis hdis2 hcl hV hPX hPM hS hl hJ
      · refine lv_tableIn (tgt := 1149) hx hb dL_law_33 (by omega) (by omega) (by rw [q]; rfl) (by decide) ?_
        exact lc_27 l hx hb hml hown hts hX hL hi6 hbl hK hZ hhX hhM hAX hAM hdis hdis2 hcl hV hPX hPM hS hl hJ
      · refine lv_tableIn (tgt := 1162) hx hb dL_law_33 (by omega) (by omega) (by rw [q]; rfl) (by decide) ?_
        exact lc_28 l hx hb hml hown hts hX hL hi6 hbl hK hZ hhX hhM hAX hAM hdis hdis2 hcl hV hPX hPM hS hl hJ
      · refine lv_tableIn (tgt := 1175) hx hb dL_law_33 (by omega) (by omega) (by rw [q]; rfl) (by decide) ?_
        exact lc_29 l hx hb hml hown hts hX hL hi6 hbl hK hZ hhX hhM hAX hAM hdis hdis2 hcl hV hPX hPM hS hl hJ
      · refine lv_tableIn (tgt := 1188) hx hb dL_law_33 (by omega) (by omega) (by rw [q]; rfl) (by decide) ?_
        exact lc_30 l hx hb hml hown hts hX hL hi6 hbl hK hZ hhX hhM hAX hAM hdis hdis2 hcl hV hPX hPM hS hl hJ
      · refine lv_tableIn (tgt := 1211) hx hb dL_law_33 (by omega) (by omega) (by rw [q]; rfl) (by decide) ?_
        exact lc_31 l hx hb hml hown hts hX hL hi6 hbl hK hZ hhX hhM hAX hAM hdis hdis2 hcl hV hPX hPM hS hl hJ
      · refine lv_tableIn (tgt := 1254) hx hb dL_law_33 (by omega) (by omega) (by rw [q]; rfl) (by decide) ?_
        exact lc_32 l hx hb hml hown hts hX hL hi6 hbl hK hZ hhX hhM hAX hAM hdis hdis2 hcl hV hPX hPM hS hl hJ
      · refine lv_tableIn (tgt := 1277) hx hb dL_law_33 (by omega) (by omega) (by rw [q]; rfl) (by decide) ?_
        exact lc_33 l hx hb hml hown hts hX hL hi6 hbl hK hZ hhX hhM hAX hAM hdis hdis2 hcl hV hPX hPM hS hl hJ
      · refine lv_tableIn (tgt := 1310) hx hb dL_law_33 (by omega) (by omega) (by rw [q]; rfl) (by decide) ?_
        exact lc_34 l hx hb hml hown hts hX hL hi6 hbl hK hZ hhX hhM hAX hAM hdis hdis2 hcl hV hPX hPM hS hl hJ
      · refine lv_tableIn (tgt := 1353) hx hb dL_law_33 (by omega) (by omega) (by rw [q]; rfl) (by decide) ?_
        exact lc_35 l hx hb hml hown hts hX hL hi6 hbl hK hZ hhX hhM hAX hAM hdis hdis2 hcl hV hPX hPM hS hl hJ
      · refine lv_tableIn (tgt := 1426) hx hb dL_law_33 (by omega) (by omega) (by rw [q]; rfl) (by decide) ?_
        exact lc_36 l hx hb hml hown hts hX hL hi6 hbl hK hZ hhX hhM hAX hAM hdis hdis2 hcl hV hPX hPM hS hl hJ
      · refine lv_tableIn (tgt := 1459) hx hb dL_law_33 (by omega) (by omega) (by rw [q]; rfl) (by decide) ?_
        exact lc_37 l hx hb hml hown hts hX hL hi6 hbl hK hZ hhX hhM hAX hAM hdis hdis2 hcl hV hPX hPM hS hl hJ
      · refine lv_tableIn (tgt := 1522) hx hb dL_law_33 (by omega) (by omega) (by rw [q]; rfl) (by decide) ?_
        exact lc_38 l hx hb hml hown hts hX hL hi6 hbl hK hZ hhX hhM hAX hAM hdis hdis2 hcl hV hPX hPM hS hl hJ
      · refine lv_tableIn (tgt := 1555) hx hb dL_law_33 (by omega) (by omega) (by rw [q]; rfl) (by decide) ?_
        exact lc_39 l hx hb hml hown hts hX hL hi6 hbl hK hZ hhX hhM hAX hAM hdis hdis2 hcl hV hPX hPM hS hl hJ
  exact loop 3073 0 f0X L0 Q0 f0M L0 Q0 _ _ _ (by have k0 : (0 : Int32).toInt = 0 := (by decide); omega) (by decide) ⟨f0X_I, f0X_J, f0M_I, f0M_J, ⟨rDesk.zero, rTrace.zero, rShelf.zero, rEl.zero, rNum.zero, rChg.zero, rByte.zero, rTape.zero, rLs.zero, rSt.zero, rIdle.zero, rIm.zero⟩⟩ hPX hPM hS (lv_sub hl [3, 2, 1, 0] rfl)
