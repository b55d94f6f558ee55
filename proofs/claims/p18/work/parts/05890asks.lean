/-! MORE QUESTIONS about a week -/
theorem ad_le {x y : Int32} {K b : Int} (hx : 0 ≤ x.toInt ∧ x.toInt ≤ K) (hy : 0 ≤ y.toInt ∧ y.toInt ≤ b) (h : K + b ≤ 2147483647) : 0 ≤ (x + y).toInt ∧ (x + y).toInt ≤ K + b := by
  have e : (x + y).toInt = x.toInt + y.toInt := bn_addI (by omega) (by omega)
  omega
theorem lsv_b {m : Nat → Int32} {hl : Bool} {T : Nat → Int32} {n : Nat} {s p v : Int32} : 0 ≤ (lsv m hl T n s p v).toInt ∧ (lsv m hl T n s p v).toInt ≤ 9999 := by
  unfold lsv
  obtain ⟨x, ex⟩ : ∃ z : Int32, z = lsr m hl T n s.toNatClampNeg p.toNatClampNeg p v := ⟨_, rfl⟩
  rw [← ex]
  unfold lcl
  by_cases c : x.toInt < 0
  · rw [if_pos c]; decide
  rw [if_neg c]
  by_cases d : 9999 < x.toInt
  · rw [if_pos d]; decide
  · rw [if_neg d]; omega
/-- a shift costs so much at most -/
theorem xpassB {m : Nat → Int32} {S : Int} {hl : Bool} {T : Nat → Int32} {n : Nat} {w : Int32} {f : sg_F} {K : Int} (hc : xCx m S hl T n f) (hS : S ≤ 8) (hm : mOk m) (hq : pOk m) (hv : ∀ p : Nat, p < 3 → 0 ≤ (f 14 p).toInt ∧ (f 14 p).toInt ≤ 60) (hw : w.toInt = -1 ∨ (0 ≤ w.toInt ∧ w.toInt < S)) (h10 : 0 ≤ (f 13 9).toInt → 0 ≤ (f 13 10).toInt ∧ (f 13 10).toInt ≤ 60) (B : 0 ≤ (f 13 6).toInt ∧ (f 13 6).toInt ≤ K) (hK : K ≤ 2000000000) (L : sg_L) : 0 ≤ (sX4_pass w f L 13 6).toInt ∧ (sX4_pass w f L 13 6).toInt ≤ K + 70000 := by
  have pr : ∀ (a : Int32) (p : Nat), p < 3 → (0 ≤ a.toInt ∧ a.toInt ≤ 60) → 0 ≤ (a * m (67 + p)).toInt ∧ (a * m (67 + p)).toInt ≤ 5940 := fun a p hp ha => by
    obtain ⟨-, z1, z2⟩ := mul_le (x := 60) (y := 99) ha (hq (67 + p) (by omega) (by omega)) (by decide)
    exact ⟨z1, by omega⟩
  have slip : ∀ (g : sg_F), g 2 = m → sX4_slip g L 13 = g 13 := fun g e => (xsl e L).1 13 (by decide)
  rcases hw with hw | hw
  · have ep : sX4_pass w f L = sX4_slip f L := by
      unfold sX4_pass sX4_pass_b22; (repeat first | rw [spl_d] | rw [spl2_d])
      rw [if_pos hw]
    rw [ep, slip f hc.1]; omega
  obtain ⟨c1, c2⟩ := xcm (s := w) hc hS hm hw hv L
  obtain ⟨f1, ef⟩ : ∃ z : sg_F, z = sX4_comes w f L := ⟨_, rfl⟩
  rw [← ef] at c1 c2
  obtain ⟨nr, en⟩ : ∃ z : Int32, z = (if w.toInt = (f 13 7).toInt then f 13 8 else m (8 * w.toNatClampNeg + 6)) := ⟨_, rfl⟩
  rw [← en] at c2
  obtain ⟨y1, y2, y3, y4, y5, y6⟩ := c2
  have cs := bn_clI hw.1
  have bw := (hm w.toNatClampNeg (by omega)).1
  have tb : ∀ p : Nat, p < 3 → 0 ≤ (tvn nr (m (8 * w.toNatClampNeg + p)) (f 14 p)).toInt ∧ (tvn nr (m (8 * w.toNatClampNeg + p)) (f 14 p)).toInt ≤ 60 := fun p hp => tvn_b (bw p hp) (hv p hp)
  have ab1 : ∀ p : Nat, p < 3 → 0 ≤ (ab (tvn nr (m (8 * w.toNatClampNeg + p)) (f 14 p) - f 14 p)).toInt ∧ (ab (tvn nr (m (8 * w.toNatClampNeg + p)) (f 14 p) - f 14 p)).toInt ≤ 60 := fun p hp => by
    have := ab_le (tb p hp) (hv p hp)
    exact ⟨this.2.1, this.2.2.1⟩
  have r1 := ad_le (b := 5940) B (pr _ 0 (by decide) (ab1 0 (by decide))) (by omega)
  have r2 := ad_le r1 (lsv_b (m := m) (hl := hl) (T := T) (n := n) (s := w) (p := 0) (v := tvn nr (m (8 * w.toNatClampNeg + 0)) (f 14 0))) (by omega)
  have r3 := ad_le r2 (pr _ 1 (by decide) (ab1 1 (by decide))) (by omega)
  have r4 := ad_le r3 (lsv_b (m := m) (hl := hl) (T := T) (n := n) (s := w) (p := 1) (v := tvn nr (m (8 * w.toNatClampNeg + 1)) (f 14 1))) (by omega)
  have r5 := ad_le r4 (pr _ 2 (by decide) (ab1 2 (by decide))) (by omega)
  have r6 := ad_le r5 (lsv_b (m := m) (hl := hl) (T := T) (n := n) (s := w) (p := 2) (v := tvn nr (m (8 * w.toNatClampNeg + 2)) (f 14 2))) (by omega)
  rw [← y6] at r6
  have ep : sX4_pass w f L = sX4_slip (if w.toInt = (f1 13 9).toInt then sX4_leaves f1 L else f1) L := by
    unfold sX4_pass sX4_pass_b22; (repeat first | rw [spl_d] | rw [spl2_d])
    rw [if_neg (show ¬ w.toInt = -1 from by omega), ← ef]
    by_cases z : w.toInt = (f1 13 9).toInt
    · rw [if_pos z, if_pos z]
    · rw [if_neg z, if_neg z]
  rw [ep]
  by_cases z : w.toInt = (f1 13 9).toInt
  case neg => rw [if_neg z, slip f1 c1.1]; omega
  rw [if_pos z]
  obtain ⟨x1, x2, x3, x4⟩ := xle (m := m) (f := f1) c1.1 L
  rw [slip _ (by rw [x1 2 (by decide) (by decide) (by decide)]; exact c1.1)]
  have e10 : f1 13 10 = f 13 10 := y2 10 (by decide) (by decide)
  have e9 : f1 13 9 = f 13 9 := y2 9 (by decide) (by decide)
  have b10 := h10 (by rw [← e9]; omega)
  rw [← e10] at b10
  have b14 : ∀ p : Nat, p < 3 → 0 ≤ (f1 14 p).toInt ∧ (f1 14 p).toInt ≤ 60 := fun p hp => by rw [(y3 p hp).1]; exact tb p hp
  have ab2 : ∀ p : Nat, p < 3 → 0 ≤ (ab (f1 13 10 - f1 14 p)).toInt ∧ (ab (f1 13 10 - f1 14 p)).toInt ≤ 60 := fun p hp => by
    have := ab_le b10 (b14 p hp)
    exact ⟨this.2.1, this.2.2.1⟩
  have s1 := ad_le r6 (pr _ 0 (by decide) (ab2 0 (by decide))) (by omega)
  have s2 := ad_le s1 (pr _ 1 (by decide) (ab2 1 (by decide))) (by omega)
  have s3 := ad_le s2 (pr _ 2 (by decide) (ab2 2 (by decide))) (by omega)
  rw [← x4] at s3
  omega
/-- what a week costs is never below 0 -/
theorem xSqB {m : Nat → Int32} {S : Int} {hl : Bool} {T : Nat → Int32} {n : Nat} {W : Nat → Int32} {N : Nat} {f0 f : sg_F} {L : sg_L} (hS : S ≤ 8) (hm : mOk m) (hq : pOk m) (hN : N ≤ 21) (hW : ∀ i : Nat, i < N → (W i).toInt = -1 ∨ (0 ≤ (W i).toInt ∧ (W i).toInt < S)) (h10 : 0 ≤ (f0 13 9).toInt → 0 ≤ (f0 13 10).toInt ∧ (f0 13 10).toInt ≤ 60) (z : f 13 6 = 0) (h : ∀ j : Nat, j ≤ N → xCx m S hl T n (xSq W f L j) ∧ xP f0 (xSq W f L j) ∧ ∀ p : Nat, p < 3 → 0 ≤ (xSq W f L j 14 p).toInt ∧ (xSq W f L j 14 p).toInt ≤ 60) : ∀ j : Nat, j ≤ N → 0 ≤ (xSq W f L j 13 6).toInt ∧ (xSq W f L j 13 6).toInt ≤ 70000 * (j : Int) := by
  intro j
  induction j with
  | zero =>
    intro _
    show 0 ≤ (f 13 6).toInt ∧ (f 13 6).toInt ≤ 70000 * ((0 : Nat) : Int)
    rw [z]; decide
  | succ j ih =>
    intro hj
    obtain ⟨u1, u2, u3⟩ := h j (by omega)
    have := xpassB (w := W j) u1 hS hm hq u3 (hW j (by omega)) (by rw [u2.2 9 (by decide) (by decide), u2.2 10 (by decide) (by decide)]; exact h10) (ih (by omega)) (by omega) L
    show 0 ≤ (sX4_pass (W j) (xSq W f L j) L 13 6).toInt ∧ (sX4_pass (W j) (xSq W f L j) L 13 6).toInt ≤ 70000 * ((j + 1 : Nat) : Int)
    omega
theorem hWho.W {W : Nat → Int32} {S : Int} {N : Nat} {x0 : Int32} {g : sg_F} {LM : sg_L} (h : hWho W S N x0 g LM) (hN : N ≤ 21) : ∀ i : Nat, i < N → (W i).toInt = -1 ∨ (0 ≤ (W i).toInt ∧ (W i).toInt < S) := by
  intro i hi
  have e : (Int32.ofNat i).toInt = i := nI_toInt (n := i) (by omega)
  rcases h (Int32.ofNat i) i e hi with ⟨a, -⟩ | ⟨a, b, -⟩
  · exact Or.inl a
  · exact Or.inr ⟨a, b⟩
/-- marked -/
theorem svl {m : Nat → Int32} {F : sg_F} {L : sg_L} (h2 : F 2 = m) : sX4_savedByMarks_l15 4 0 0 F L = (0 + F 15 0 * (m (67 + 0) - m (67 + 0) / 2) + F 15 1 * (m (67 + 1) - m (67 + 1) / 2) + F 15 2 * (m (67 + 2) - m (67 + 2) / 2), F) := by
  have a1 : (0 : Int32) + 1 = 1 := by decide
  have a2 : (1 : Int32) + 1 = 2 := by decide
  have a3 : (2 : Int32) + 1 = 3 := by decide
  have st : ∀ (k p : Nat) (y z : Int32), z.toInt = p → p < 3 → sX4_savedByMarks_l15 (k + 1) y z F L = sX4_savedByMarks_l15 k (y + F 15 p * (m (67 + p) - m (67 + p) / 2)) (z + 1) F L := by
    intro k p y z ez hp
    have ep := msl1 ez hp
    have e9 : sX4_savedByMarks_l15 (k + 1) y z F L = sX4_savedByMarks_h15 (sX4_savedByMarks_l15 k) y z F L := rfl
    rw [e9]
    unfold sX4_savedByMarks_h15 sX0_priceOf; (repeat first | rw [spl_d] | rw [spl2_d])
    rw [if_pos (show z.toInt < 3 from by omega), adI (k := 67) (by decide) (by omega) ez (by omega), ep, h2]
  have e4 : ∀ y : Int32, sX4_savedByMarks_l15 1 y 3 F L = (y, F) := fun y => by
    show sX4_savedByMarks_h15 (sX4_savedByMarks_l15 0) y 3 F L = (y, F)
    unfold sX4_savedByMarks_h15; (repeat first | rw [spl_d] | rw [spl2_d])
    rw [if_neg (by decide)]
  rw [st 3 0 0 0 (by decide) (by decide), a1, st 2 1 _ 1 (by decide) (by decide), a2, st 1 2 _ 2 (by decide) (by decide), a3, e4]
theorem rgm (a0 a1 a2 q0 q1 q2 h0 h1 h2 z : Int32) : (a0 * q0 + a1 * q1 + a2 * q2 + z) - (a0 * h0 + a1 * h1 + a2 * h2 + z) = 0 + a0 * (q0 - h0) + a1 * (q1 - h1) + a2 * (q2 - h2) := by grind
theorem t_marked {fX fX1 fM fM1 : sg_F} {LX LM : sg_L} {hl : Bool} {T : Nat → Int32} {n : Nat} {d r1 r2 : Int32} (h : rAll fX fM LX LM) (hm : mOk (fX 2)) (hq : pOk (fX 2)) (hc : xCx (fX 2) (fX 1 3).toInt hl T n fX) (hC : mCx (fX 2) hl T n fM) (e1 : (r1, fX1) = sX11_marked d fX LX) (e2 : (r2, fM1) = sX12_marked d fM LM) : r1 = r2 ∧ xLo (fX 2) (fX 1 3).toInt hl T n (fX1 9) ∧ rIdle fX1 fM1 := by
  have hb : 0 ≤ (fX 1 3).toInt ∧ (fX 1 3).toInt ≤ 8 := h.2.2.2.2.2.2 1 3
  have hid := h.2.2.2.2.2.1
  have nil : r1 = r2 → fX1 = fX → fM1 = fM → r1 = r2 ∧ xLo (fX 2) (fX 1 3).toInt hl T n (fX1 9) ∧ rIdle fX1 fM1 := fun a b c => ⟨a, by rw [b]; exact hc.2.2.2, by rw [b, c]; exact hid⟩
  unfold sX11_marked at e1; (repeat first | rw [spl_d] at e1 | rw [spl2_d] at e1)
  unfold sX12_marked at e2; (repeat first | rw [spl_d] at e2 | rw [spl2_d] at e2)
  rw [pX_isShelf] at e1
  by_cases q1 : 0 ≤ d.toInt ∧ d.toInt ≤ 5
  case neg =>
    rw [if_neg q1, if_neg zk0] at e1
    rw [mbytes, if_neg q1, if_neg (by decide), if_pos rfl] at e2
    obtain ⟨a1, b1⟩ := Prod.mk.inj e1
    obtain ⟨a2, b2⟩ := Prod.mk.inj e2
    exact nil (by rw [a1, a2]) b1 b2
  rw [if_pos q1, if_pos rfl] at e1
  rcases h.week hc hC q1 with ⟨a, b⟩ | ⟨a, b⟩ | ⟨b, W, N, f1, a, hN, hw, e, -⟩
  · rw [a] at e1; dsimp only at e1; rw [if_neg (by decide)] at e1
    rw [b, if_neg (by decide), if_neg (by decide)] at e2
    obtain ⟨a1, b1⟩ := Prod.mk.inj e1
    obtain ⟨a2, b2⟩ := Prod.mk.inj e2
    exact nil (by rw [a1, a2]) b1 b2
  · rw [a] at e1; dsimp only at e1; rw [if_neg (by decide)] at e1
    rw [b, if_neg (by decide), if_neg (by decide)] at e2
    obtain ⟨a1, b1⟩ := Prod.mk.inj e1
    obtain ⟨a2, b2⟩ := Prod.mk.inj e2
    exact nil (by rw [a1, a2]) b1 b2
  · obtain ⟨g1, p1, p2, p3, p4, p5, p6⟩ := hw.go hb.2 hm hq hN LX
    obtain ⟨i1, i2, i3, i4, i5, i6, i7⟩ := hid
    have e13 : f1 13 = fX 13 := e 13 (by decide) (by decide) (by decide)
    rw [a] at e1; dsimp only at e1; rw [if_pos (by decide)] at e1
    unfold sX4_savedByMarks at e1; (repeat first | rw [spl_d] at e1 | rw [spl2_d] at e1)
    rw [p6 (f1 10 2) N hw.2.2.2.2.2.2.2.2 (Nat.le_refl N)] at e1
    rw [b, if_pos rfl, p1] at e2
    dsimp only at e2
    obtain ⟨ga, ega⟩ : ∃ z : sg_F, z = sg_up g1 0 (sgu (g1 0) 23 1) := ⟨_, rfl⟩
    rw [← ega] at e2
    have ha : ∀ k j : Nat, k ≠ 8 → k ≠ 12 → k ≠ 13 → k ≠ 0 → ga k j = fM k j := fun k j k8 k12 k13 k0 => by rw [ega, sg_up_n k0]; exact p3 k j k8 k12 k13 (Or.inl k0)
    have ha0 : ∀ j : Nat, j ≠ 23 → (j ≠ 12 ∧ j ≠ 13 ∧ j ≠ 14 ∧ j ≠ 15 ∧ j ≠ 16 ∧ j ≠ 29 ∧ j ≠ 30 ∧ j ≠ 31) → ga 0 j = fM 0 j := fun j h23 hj => by rw [ega, sg_up_s, sgu_n h23]; exact p3 0 j (by decide) (by decide) (by decide) (Or.inr hj)
    have a23 : ga 0 23 = 1 := by rw [ega, sg_up_s, sgu_s]
    have hwa : wS (fX 2) (fX 1 3).toInt hl T n W N d LM f1 ga := by
      refine hw.chg hw.1 (fun _ _ _ _ _ _ _ => rfl) ha (ha0 6 (by decide) (by decide)) (ha0 11 (by decide) (by decide)) ⟨?_, fun z => ?_, ?_, fun z => ?_, fun s z => ?_⟩
      · rw [e13, i1, ha0 20 (by decide) (by decide), i3]
      · rw [e13, i1] at z; exact absurd z (by decide)
      · rw [e13, i2, ha0 24 (by decide) (by decide), i6]
      · rw [e13, i2] at z; exact absurd z (by decide)
      · rw [ha0 22 (by decide) (by decide), i4, bt_0] at z; exact absurd z Bool.false_ne_true
    obtain ⟨g2, s1, s2, s3, s4, s5, s6⟩ := hwa.go hb.2 hm hq hN LX
    rw [s1] at e2
    dsimp only at e2
    obtain ⟨F, eF⟩ : ∃ z : sg_F, z = xSq W (sX4_begin f1 LX) LX N := ⟨_, rfl⟩
    have hF := p5 N (Nat.le_refl N)
    rw [← eF] at e1 p2 s2 hF
    rw [svl hF.1.1] at e1
    dsimp only at e1
    obtain ⟨a1, b1⟩ := Prod.mk.inj e1
    obtain ⟨a2, b2⟩ := Prod.mk.inj e2
    have g22 : g1 0 22 = 0 := (p3 0 22 (by decide) (by decide) (by decide) (Or.inr (by decide))).trans i4
    have g23 : g1 0 23 = 0 := (p3 0 23 (by decide) (by decide) (by decide) (Or.inr (by decide))).trans i5
    have k22 : g2 0 22 = 0 := (s3 0 22 (by decide) (by decide) (by decide) (Or.inr (by decide))).trans ((ha0 22 (by decide) (by decide)).trans i4)
    have k23 : g2 0 23 = 1 := (s3 0 23 (by decide) (by decide) (by decide) (Or.inr (by decide))).trans a23
    obtain ⟨c1, c2, c3, c4, c5, c6⟩ := p2
    obtain ⟨d1, d2, d3, d4, d5, d6⟩ := s2
    rw [g22, spN_k0, Int32.add_zero, Int32.add_zero] at c5
    rw [k22, spN_k0, Int32.add_zero, Int32.add_zero] at d5
    rw [Int32.add_zero] at c4 d4
    have q0 : ∀ p : Nat, mpr (fX 2) g1 p = fX 2 (67 + p) := fun p => by unfold mpr; rw [g23, if_pos (by decide)]
    have q9 : ∀ p : Nat, mpr (fX 2) g2 p = fX 2 (67 + p) / 2 := fun p => by unfold mpr; rw [k23, if_neg (by decide)]
    rw [q0, q0, q0] at c5
    rw [q9, q9, q9] at d5
    refine ⟨?_, by rw [b1]; exact hF.1.2.2.2, ?_⟩
    · rw [a1, a2, c5, d5, c4, d4, rgm]
    · have x7 : F 13 7 = -1 := by rw [hF.2.1.2 7 (by decide) (by decide), e13]; exact i1
      have x9 : F 13 9 = -1 := by rw [hF.2.1.2 9 (by decide) (by decide), e13]; exact i2
      have y0 : ∀ j : Nat, j ≠ 23 → (j ≠ 12 ∧ j ≠ 13 ∧ j ≠ 14 ∧ j ≠ 15 ∧ j ≠ 16 ∧ j ≠ 29 ∧ j ≠ 30 ∧ j ≠ 31) → fM1 0 j = fM 0 j := fun j h23 hj => by
        rw [b2, sg_up_s, sgu_n h23, s3 0 j (by decide) (by decide) (by decide) (Or.inr hj)]; exact ha0 j h23 hj
      refine ⟨by rw [b1]; exact x7, by rw [b1]; exact x9, by rw [y0 20 (by decide) (by decide)]; exact i3, by rw [y0 22 (by decide) (by decide)]; exact i4, by rw [b2, sg_up_s, sgu_s], by rw [y0 24 (by decide) (by decide)]; exact i6, fun j => ?_⟩
      rw [b2, sg_up_n (by decide), s3 11 j (by decide) (by decide) (by decide) (Or.inl (by decide)), ha 11 j (by decide) (by decide) (by decide) (by decide)]
      exact i7 j
theorem has_X (x : Int32) (f : sg_F) (L : sg_L) : sX0_has x f L = if 0 ≤ x.toInt ∧ x.toInt < (f 1 3).toInt then 1 else 0 := by
  unfold sX0_has; (repeat first | rw [spl_d] | rw [spl2_d])
  by_cases c : x.toInt < 0
  · rw [if_pos c, if_neg (show ¬ (0 ≤ x.toInt ∧ x.toInt < (f 1 3).toInt) from by omega)]
  rw [if_neg c]
  by_cases e : x.toInt < (f 1 3).toInt
  · rw [if_pos e, if_pos (show 0 ≤ x.toInt ∧ x.toInt < (f 1 3).toInt from by omega)]
  · rw [if_neg e, if_neg (show ¬ (0 ≤ x.toInt ∧ x.toInt < (f 1 3).toInt) from by omega)]
/-- wilful -/
theorem t_wilful {fX fX1 fM fM1 : sg_F} {LX LM : sg_L} {hl : Bool} {T : Nat → Int32} {n : Nat} {d s v r1 r2 : Int32} (h : rAll fX fM LX LM) (hm : mOk (fX 2)) (hq : pOk (fX 2)) (hc : xCx (fX 2) (fX 1 3).toInt hl T n fX) (hC : mCx (fX 2) hl T n fM) (e1 : (r1, fX1) = sX11_wilful d s v fX LX) (e2 : (r2, fM1) = sX12_wilful d s v fM LM) : r1 = r2 ∧ xLo (fX 2) (fX 1 3).toInt hl T n (fX1 9) ∧ rIdle fX1 fM1 := by
  have hb : 0 ≤ (fX 1 3).toInt ∧ (fX 1 3).toInt ≤ 8 := h.2.2.2.2.2.2 1 3
  have hid := h.2.2.2.2.2.1
  have e13 : (fX 1 3).toInt = (fM 0 6).toInt := h.1.1
  have es := Int32.toInt_toInt64 s
  have ev := Int32.toInt_toInt64 v
  have nil : r1 = r2 → fX1 = fX → fM1 = fM → r1 = r2 ∧ xLo (fX 2) (fX 1 3).toInt hl T n (fX1 9) ∧ rIdle fX1 fM1 := fun a b c => ⟨a, by rw [b]; exact hc.2.2.2, by rw [b, c]; exact hid⟩
  unfold sX11_wilful at e1; (repeat first | rw [spl_d] at e1 | rw [spl2_d] at e1)
  unfold sX12_wilful at e2; (repeat first | rw [spl_d] at e2 | rw [spl2_d] at e2)
  rw [pX_isShelf, has_X, pX_isSetting] at e1
  rw [pM_isSitter _ _ _ (by omega), pM_isSetting, es, ev, ← e13] at e2
  have e2n : sX12_bytesIs d fM LM ≠ 1 → (r2, fM1) = (-2000000000, fM) := fun z => by
    rw [if_neg z] at e2
    by_cases y : sX12_bytesIs d fM LM = -1
    · rw [if_pos y] at e2; exact e2
    · rw [if_neg y] at e2; exact e2
  have no : (r1, fX1) = (-2000000000, fX) → (r2, fM1) = (-2000000000, fM) → r1 = r2 ∧ xLo (fX 2) (fX 1 3).toInt hl T n (fX1 9) ∧ rIdle fX1 fM1 := fun e1 e2 => by
    obtain ⟨a1, b1⟩ := Prod.mk.inj e1
    obtain ⟨a2, b2⟩ := Prod.mk.inj e2
    exact nil (by rw [a1, a2]) b1 b2
  by_cases q1 : 0 ≤ d.toInt ∧ d.toInt ≤ 5
  case neg =>
    rw [if_neg q1, if_neg zk0] at e1
    exact no e1 (e2n (by rw [mbytes, if_neg q1]; decide))
  rw [if_pos q1, if_pos rfl] at e1
  by_cases q2 : 0 ≤ s.toInt ∧ s.toInt < (fX 1 3).toInt
  case neg =>
    rw [if_neg q2, if_neg zk0] at e1
    refine no e1 ?_
    by_cases y : sX12_bytesIs d fM LM = 1
    · rw [if_pos y, if_neg q2, if_neg zk0] at e2; exact e2
    · exact e2n y
  rw [if_pos q2, if_pos rfl] at e1
  rw [if_pos q2, if_pos rfl] at e2
  by_cases q3 : 0 ≤ v.toInt ∧ v.toInt ≤ 60
  case neg =>
    rw [if_neg q3, if_neg zk0] at e1
    refine no e1 ?_
    by_cases y : sX12_bytesIs d fM LM = 1
    · rw [if_pos y, if_neg q3, if_neg zk0] at e2; exact e2
    · exact e2n y
  rw [if_pos q3, if_pos rfl] at e1
  rw [if_pos q3, if_pos rfl] at e2
  rcases h.week hc hC q1 with ⟨a, b⟩ | ⟨a, b⟩ | ⟨b, W, N, f1, a, hN, hw, e, -⟩
  · rw [a] at e1; dsimp only at e1; rw [if_neg (by decide)] at e1
    exact no e1 (e2n (by rw [b]; decide))
  · rw [a] at e1; dsimp only at e1; rw [if_neg (by decide)] at e1
    exact no e1 (e2n (by rw [b]; decide))
  · obtain ⟨g1, p1, p2, p3, p4, p5, p6⟩ := hw.go hb.2 hm hq hN LX
    obtain ⟨i1, i2, i3, i4, i5, i6, i7⟩ := hid
    have hv : (f1 10 2).toInt = N := hw.2.2.2.2.2.2.2.2
    have e13' : f1 13 = fX 13 := e 13 (by decide) (by decide) (by decide)
    rw [a] at e1; dsimp only at e1; rw [if_pos (by decide)] at e1
    unfold sX4_moreByWilful at e1; (repeat first | rw [spl_d] at e1 | rw [spl2_d] at e1)
    rw [p6 (f1 10 2) N hv (Nat.le_refl N)] at e1
    rw [b, if_pos rfl, p1] at e2
    dsimp only at e2
    obtain ⟨F, eF⟩ : ∃ z : sg_F, z = xSq W (sX4_begin f1 LX) LX N := ⟨_, rfl⟩
    have hF := p5 N (Nat.le_refl N)
    rw [← eF] at e1 p2 hF
    obtain ⟨ga, ega⟩ : ∃ z : sg_F, z = sg_up (sg_up g1 0 (sgu (g1 0) 24 s)) 0 (sgu (sg_up g1 0 (sgu (g1 0) 24 s) 0) 25 v) := ⟨_, rfl⟩
    obtain ⟨fa, efa⟩ : ∃ z : sg_F, z = sg_up (sg_up F 13 (sgu (F 13) 9 s)) 13 (sgu (sg_up F 13 (sgu (F 13) 9 s) 13) 10 v) := ⟨_, rfl⟩
    rw [← ega] at e2
    rw [← efa] at e1
    have ha : ∀ k j : Nat, k ≠ 8 → k ≠ 12 → k ≠ 13 → k ≠ 0 → ga k j = fM k j := fun k j k8 k12 k13 k0 => by rw [ega, sg_up_n k0, sg_up_n k0]; exact p3 k j k8 k12 k13 (Or.inl k0)
    have ha0 : ∀ j : Nat, j ≠ 24 → j ≠ 25 → (j ≠ 12 ∧ j ≠ 13 ∧ j ≠ 14 ∧ j ≠ 15 ∧ j ≠ 16 ∧ j ≠ 29 ∧ j ≠ 30 ∧ j ≠ 31) → ga 0 j = fM 0 j := fun j h24 h25 hj => by rw [ega, sg_up_s, sgu_n h25, sg_up_s, sgu_n h24]; exact p3 0 j (by decide) (by decide) (by decide) (Or.inr hj)
    have a24 : ga 0 24 = s := by rw [ega, sg_up_s, sgu_n (by decide), sg_up_s, sgu_s]
    have a25 : ga 0 25 = v := by rw [ega, sg_up_s, sgu_s]
    have x9 : fa 13 9 = s := by rw [efa, sg_up_s, sgu_n (by decide), sg_up_s, sgu_s]
    have x10 : fa 13 10 = v := by rw [efa, sg_up_s, sgu_s]
    have xq : ∀ q : Nat, q ≠ 13 → fa q = F q := fun q hq => by rw [efa, sg_up_n hq, sg_up_n hq]
    have x7 : fa 13 7 = -1 := by rw [efa, sg_up_s, sgu_n (by decide), sg_up_s, sgu_n (by decide), hF.2.1.2 7 (by decide) (by decide), e13']; exact i1
    have hwa : wS (fX 2) (fX 1 3).toInt hl T n W N d LM fa ga := by
      refine hw.chg (hF.1.fr (xq 1 (by decide)) (xq 2 (by decide)) (xq 4 (by decide)) (xq 7 (by decide)) (xq 9 (by decide))) (fun q b8 b9 b13 b14 b15 b16 => by rw [xq q b13]; exact hF.2.1.1 q b8 b9 b13 b14 b15 b16) ha (ha0 6 (by decide) (by decide) (by decide)) (ha0 11 (by decide) (by decide) (by decide)) ⟨?_, fun z => ?_, by rw [x9, a24], fun z => ⟨by rw [x10, a25], by rw [a25]; exact q3.1, by rw [a25]; exact q3.2⟩, fun t z => ?_⟩
      · rw [x7, ha0 20 (by decide) (by decide) (by decide), i3]
      · rw [x7] at z; exact absurd z (by decide)
      · rw [ha0 22 (by decide) (by decide) (by decide), i4, bt_0] at z; exact absurd z Bool.false_ne_true
    obtain ⟨g2, s1, s2, s3, s4, s5, s6⟩ := hwa.go hb.2 hm hq hN LX
    rw [s6 (f1 10 2) N hv (Nat.le_refl N)] at e1
    rw [s1] at e2
    dsimp only at e2
    obtain ⟨G, eG⟩ : ∃ z : sg_F, z = xSq W (sX4_begin fa LX) LX N := ⟨_, rfl⟩
    have hG := s5 N (Nat.le_refl N)
    rw [← eG] at e1 s2 hG
    dsimp only at e1
    obtain ⟨a1, b1⟩ := Prod.mk.inj e1
    obtain ⟨a2, b2⟩ := Prod.mk.inj e2
    have g22 : g1 0 22 = 0 := (p3 0 22 (by decide) (by decide) (by decide) (Or.inr (by decide))).trans i4
    have g23 : g1 0 23 = 0 := (p3 0 23 (by decide) (by decide) (by decide) (Or.inr (by decide))).trans i5
    have k22 : g2 0 22 = 0 := (s3 0 22 (by decide) (by decide) (by decide) (Or.inr (by decide))).trans ((ha0 22 (by decide) (by decide) (by decide)).trans i4)
    have k23 : g2 0 23 = 0 := (s3 0 23 (by decide) (by decide) (by decide) (Or.inr (by decide))).trans ((ha0 23 (by decide) (by decide) (by decide)).trans i5)
    obtain ⟨c1, -, -⟩ := p2.cost g22 g23
    obtain ⟨d1, -, -⟩ := s2.cost k22 k23
    refine ⟨?_, ?_, ?_⟩
    · rw [a1, a2, ← c1, ← d1, sg_up_s, sgu_n (by decide)]
    · rw [b1, sg_up_n (show (9 : Nat) ≠ 13 by decide)]; exact hG.1.2.2.2
    · have y0 : ∀ j : Nat, j ≠ 24 → j ≠ 25 → (j ≠ 12 ∧ j ≠ 13 ∧ j ≠ 14 ∧ j ≠ 15 ∧ j ≠ 16 ∧ j ≠ 29 ∧ j ≠ 30 ∧ j ≠ 31) → fM1 0 j = fM 0 j := fun j h24 h25 hj => by
        rw [b2, sg_up_s, sgu_n h24, s3 0 j (by decide) (by decide) (by decide) (Or.inr hj)]; exact ha0 j h24 h25 hj
      refine ⟨by rw [b1, sg_up_s, sgu_n (by decide), hG.2.1.2 7 (by decide) (by decide)]; exact x7, by rw [b1, sg_up_s, sgu_s], by rw [y0 20 (by decide) (by decide) (by decide)]; exact i3, by rw [y0 22 (by decide) (by decide) (by decide)]; exact i4, by rw [y0 23 (by decide) (by decide) (by decide)]; exact i5, by rw [b2, sg_up_s, sgu_s], fun j => ?_⟩
      rw [b2, sg_up_n (by decide), s3 11 j (by decide) (by decide) (by decide) (Or.inl (by decide)), ha 11 j (by decide) (by decide) (by decide) (by decide)]
      exact i7 j
