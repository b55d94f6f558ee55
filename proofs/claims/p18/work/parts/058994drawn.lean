/-! DRAWN: the weeks, the call -/
/-- what is paid so far -/
def i6 (m : Nat → Int32) (f : sg_F) : Prop := f 13 6 = f 13 5 + (f 15 0 * m (67 + 0) + f 15 1 * m (67 + 1) + f 15 2 * m (67 + 2))
theorem rgd {t b2 b3 x y X Y : Int32} (h1 : t = b2 + b3) (h2 : x + b3 = X) (h3 : y + b2 = Y) : t + (x + y) = Y + X := by
  rw [h1, ← h2, ← h3]; ac_rfl
theorem hF_0 {f g g1 : sg_F} (h : hF f g) (e : ∀ j : Nat, 20 ≤ j → j ≤ 25 → g1 0 j = g 0 j) : hF f g1 := by
  unfold hF
  rw [e 20 (by decide) (by decide), e 21 (by decide) (by decide), e 22 (by decide) (by decide), e 23 (by decide) (by decide), e 24 (by decide) (by decide), e 25 (by decide) (by decide)]
  exact h
theorem drawn_l {m : Nat → Int32} {S : Int} {hl : Bool} {T : Nat → Int32} {n : Nat} {W : Nat → Int32} {N : Nat} {d x0 x2 x3 : Int32} {LX LM : sg_L} {fb gb : sg_F} (hS : S ≤ 8) (hm : mOk m) (hq : pOk m) (hN : N ≤ 21) (hx2 : x2.toInt ≤ 20) : ∀ (q w : Nat) (y s c t : Int32) (f g : sg_F), y.toInt = w → 21 - w ≤ q → w ≤ 20 → 0 < q → wS m S hl T n W N d LM f g → i6 m f → f 13 6 = t → xP fb f → (∀ k j : Nat, k ≠ 8 → k ≠ 12 → k ≠ 13 → k ≠ 11 → (k ≠ 0 ∨ (j ≠ 12 ∧ j ≠ 13 ∧ j ≠ 14 ∧ j ≠ 15 ∧ j ≠ 16 ∧ j ≠ 29 ∧ j ≠ 30 ∧ j ≠ 31)) → g k j = gb k j) → (∀ j : Nat, g 11 j = 0) → gb 0 22 = 0 → gb 0 23 = 0 → ∃ (r : Int32) (F G : sg_F), sX4_drawWeeks_l12 x0 x2 q s c y f LX = (r, F) ∧ sX12_drawn_l60 d x0 x2 x3 q s t c y g LM = (if x3.toInt = 0 then F 13 6 else r, G) ∧ xCx m S hl T n F ∧ xP fb F ∧ (∀ j : Nat, j ≠ 12 → j ≠ 13 → j ≠ 14 → j ≠ 15 → j ≠ 16 → j ≠ 29 → j ≠ 30 → j ≠ 31 → G 0 j = gb 0 j) ∧ ∀ j : Nat, G 11 j = 0 := by
  intro q
  induction q with
  | zero => intro w y s c t f g _ _ _ h; exact absurd h (by omega)
  | succ q ih =>
    intro w y s c t f g ey hq1 hw20 _ h h6 ht hP hG h11 g22 g23
    have e9 : sX4_drawWeeks_l12 x0 x2 (q + 1) s c y f LX = sX4_drawWeeks_h12 x0 x2 (sX4_drawWeeks_l12 x0 x2 q) s c y f LX := rfl
    have e8 : sX12_drawn_l60 d x0 x2 x3 (q + 1) s t c y g LM = sX12_drawn_h60 d x0 x2 x3 (sX12_drawn_l60 d x0 x2 x3 q) s t c y g LM := rfl
    rw [e9, e8]
    unfold sX4_drawWeeks_h12 sX12_drawn_h60; (repeat first | rw [spl_d] | rw [spl2_d])
    by_cases cw : y.toInt < x2.toInt
    case neg =>
      rw [if_neg cw, if_neg cw]
      refine ⟨c, f, g, rfl, ?_, h.1, hP, fun j a1 a2 a3 a4 a5 a6 a7 a8 => hG 0 j (by decide) (by decide) (by decide) (by decide) (Or.inr ⟨a1, a2, a3, a4, a5, a6, a7, a8⟩), h11⟩
      by_cases z : x3.toInt = 0
      · rw [if_pos z, if_pos z, ht]
      · rw [if_neg z, if_neg z]
    rw [if_pos cw, if_pos cw]
    obtain ⟨h1, h2, h3, h4, h5, hw, hsh, hf11, hf10⟩ := h
    have hW := hw.W hN
    -- the class stands as now
    obtain ⟨b14, bk⟩ := xst f LX
    obtain ⟨B, eB⟩ : ∃ z : sg_F, z = sX4_standAsNow f LX := ⟨_, rfl⟩
    rw [← eB] at b14 bk ⊢
    have hPB : xP f B := ⟨fun q' _ _ _ a _ _ => bk q' a, fun j _ _ => by rw [bk 13 (by decide)]⟩
    have hcB : xCx m S hl T n B := h1.fr (bk 1 (by decide)) (bk 2 (by decide)) (bk 4 (by decide)) (bk 7 (by decide)) (bk 9 (by decide))
    -- the reference draws
    obtain ⟨g1, p1, p2, p3⟩ := mdraw (m := m) (W := W) (s := s) (c := c) (x1 := x0) (x2 := x2) (x3 := x3) (y6 := t) (y8 := y) (sX12_drawn_l60 d x0 x2 x3 q) hS hN h2 hw hsh h11 22 0 0 g (by decide) (Nat.zero_le _) (by omega) (fun _ _ => rfl) (fun j => by rw [h11 j, if_neg (fun z => absurd z.1 (by omega))])
    have p1 : sX12_drawn_l69 (sX12_drawn_l60 d x0 x2 x3 q) d x0 x2 x3 22 s t c y 0 g LM = _ := p1
    rw [p1]
    have hC1 : mCx m hl T n g1 := h2.fr (fun j => by rw [p2 1 (by decide)]) (fun j => by rw [p2 7 (by decide)]) (by rw [p2 0 (by decide)])
    have hw1 : hWho (dW m W s) S N d g1 LM := by
      intro y i ey hi
      rw [whoM_fr (y := y) (show g1 0 6 = g 0 6 from by rw [p2 0 (by decide)]), p3 i]
      rcases hw y i ey hi with ⟨w1, w2⟩ | ⟨w1, w2, w3, w4⟩
      · have k : ¬ dK m W s i = true := fun z => by
          have := of_decide_eq_true z
          omega
        have eW : dW m W s i = W i := if_neg k
        rw [eW]
        exact Or.inl ⟨w1, Or.inl (w2.resolve_right (fun z => z (by rw [h11]; decide)))⟩
      · by_cases k : dK m W s i = true
        · have eW : dW m W s i = -1 := if_pos k
          rw [eW, if_pos ⟨hi, k⟩]
          exact Or.inl ⟨by decide, Or.inr (by decide)⟩
        · have eW : dW m W s i = W i := if_neg k
          rw [eW, if_neg (fun z => k z.2)]
          exact Or.inr ⟨w1, w2, w3, by decide⟩
    -- the week
    obtain ⟨y1, y2, y3, y4, y5⟩ := mbg g1 LM
    obtain ⟨g2, eg2⟩ : ∃ z : sg_F, z = sX12_beginsWeek g1 LM := ⟨_, rfl⟩
    rw [← eg2] at y1 y2 y3 y4 y5
    have gg : ∀ j : Nat, (j ≠ 12 ∧ j ≠ 13 ∧ j ≠ 14 ∧ j ≠ 15 ∧ j ≠ 16 ∧ j ≠ 29 ∧ j ≠ 30 ∧ j ≠ 31) → g2 0 j = gb 0 j := fun j hj => by
      rw [y5 0 j (by decide) (by decide) (by decide) (Or.inr hj), p2 0 (by decide)]
      exact hG 0 j (by decide) (by decide) (by decide) (by decide) (Or.inr hj)
    have k22 : g2 0 22 = 0 := (gg 22 (by decide)).trans g22
    have k23 : g2 0 23 = 0 := (gg 23 (by decide)).trans g23
    have hfB : hF B g2 := (hF_0 (h5.K hPB mH.rf) (fun j _ _ => by rw [p2 0 (by decide)])).K xP.rf y5
    have mp : ∀ p : Nat, mpr m g2 p = m (67 + p) := fun p => by unfold mpr; rw [k23, if_pos (by decide)]
    have h6B : B 13 6 = B 13 5 + (B 15 0 * m (67 + 0) + B 15 1 * m (67 + 1) + B 15 2 * m (67 + 2)) := by rw [bk 13 (by decide), bk 15 (by decide)]; exact h6
    obtain ⟨b3, eb3⟩ : ∃ z : Int32, z = B 15 0 * m (67 + 0) + B 15 1 * m (67 + 1) + B 15 2 * m (67 + 2) := ⟨_, rfl⟩
    have hwR : wR m (B 15 0 + B 15 1 + B 15 2) (B 13 5) b3 B g2 := by
      refine ⟨fun p hp => ?_, fun p hp => ?_, ?_, ?_, ?_, h6B⟩
      · rw [b14 p hp, y1 p hp, p2 5 (by decide)]; exact h3 p hp
      · rw [b14 p hp]; exact h4 p hp
      · rw [y2, Int32.zero_add]
      · rw [y3, Int32.zero_add]
      · rw [y4, k22, spN_k0, mp, mp, mp, eb3, Int32.zero_add, Int32.add_zero]
    have k6 : g2 0 6 = g1 0 6 := y5 0 6 (by decide) (by decide) (by decide) (Or.inr (by decide))
    have k23' : g2 23 = g1 23 := funext fun j => y5 23 j (by decide) (by decide) (by decide) (Or.inl (by decide))
    obtain ⟨g3, a1, a2, a3, a4, a5⟩ := hweek (x0 := d) (f := B) (W := dW m W s) (N := N) LX LM hS hm hq hN 22 0 0 g2 (by decide) (Nat.zero_le _) (by omega) (hC1.H y5) hcB hwR hfB (hw1.H k6 (fun j => y5 11 j (by decide) (by decide) (by decide) (Or.inl (by decide)))) (by rw [shfM_fr k23', shfM_fr (p2 23 (by decide))]; exact hsh) (fun j h1 h2 => absurd h1 (by omega))
    have ew : sX12_weekOf d g1 LM = (g3 0 31 + g3 0 30, g3) := by
      unfold sX12_weekOf; (repeat first | rw [spl_d] | rw [spl2_d])
      rw [← eg2]; exact a1
    rw [ew]
    dsimp only
    -- the class's week
    have xd := xdraw (m := m) (W := W) (B := B) (L := LX) (s := s) (c := c) (x0 := x0) (x1 := x2) (y5 := y) (sX4_drawWeeks_l12 x0 x2 q) hS hN hW (by rw [bk 10 (by decide)]; exact hf10) (fun i hi => by rw [bk 11 (by decide)]; exact hf11 i hi) (fun j hj => by
      obtain ⟨u1, u2, -⟩ := a5 j (Nat.zero_le _) hj
      exact ⟨u1, u2⟩) 22 0 0 (by decide) (Nat.zero_le _) (by omega)
    have xd : sX4_drawWeeks_l25 (sX4_drawWeeks_l12 x0 x2 q) x0 x2 22 s c y 0 B LX = _ := xd
    rw [xd]
    obtain ⟨v1, v2, v3⟩ := a5 N (Nat.zero_le _) (Nat.le_refl N)
    have v2 : xP B (xSq (dW m W s) B LX N) := v2
    obtain ⟨F, eF⟩ : ∃ z : sg_F, z = xSq (dW m W s) B LX N := ⟨_, rfl⟩
    rw [← eF] at v1 v2 a2 ⊢
    -- the marks go
    obtain ⟨g4, z1, z2, z3⟩ := mzero (rec := sX12_drawn_l60 d x0 x2 x3 q) (d := d) (x1 := x0) (x2 := x2) (x3 := x3) (a := dS W s N) (b := t + (g3 0 31 + g3 0 30)) (c := dC m W s c N) (y8 := y) (LM := LM) (g0 := g3) 22 0 0 g3 (by decide) (by decide) (by decide) (fun _ _ => rfl) (fun j hj => absurd hj (by omega)) (fun j hj => by
      rw [a3 11 j (by decide) (by decide) (by decide) (Or.inl (by decide)), y5 11 j (by decide) (by decide) (by decide) (Or.inl (by decide)), p3 j, if_neg (fun z => absurd z.1 (by omega))])
    rw [z1]
    have gk : ∀ k j : Nat, k ≠ 8 → k ≠ 12 → k ≠ 13 → k ≠ 11 → (k ≠ 0 ∨ (j ≠ 12 ∧ j ≠ 13 ∧ j ≠ 14 ∧ j ≠ 15 ∧ j ≠ 16 ∧ j ≠ 29 ∧ j ≠ 30 ∧ j ≠ 31)) → g4 k j = g k j := fun k j k8 k12 k13 k11 hk => by
      rw [z2 k k11, a3 k j k8 k12 k13 hk, y5 k j k8 k12 k13 hk, p2 k k11]
    obtain ⟨c1, c2, c3, c4, c5, c6⟩ := a2
    have d22 : g3 0 22 = 0 := (a3 0 22 (by decide) (by decide) (by decide) (Or.inr (by decide))).trans k22
    have d23 : g3 0 23 = 0 := (a3 0 23 (by decide) (by decide) (by decide) (Or.inr (by decide))).trans k23
    have mp3 : ∀ p : Nat, mpr m g3 p = m (67 + p) := fun p => by unfold mpr; rw [d23, if_pos (by decide)]
    rw [d22, spN_k0, Int32.add_zero, mp3, mp3, mp3] at c5
    have hPf : xP f F := hPB.tr v2
    have hsum : F 13 6 = t + (g3 0 31 + g3 0 30) := by
      rw [c6]
      exact (rgd (b2 := B 13 5) (b3 := b3) (by rw [eb3, ← h6B, bk 13 (by decide), ht]) c5 c4).symm
    by_cases qz : q = 0
    · exfalso; omega
    refine ih (w + 1) (y + 1) _ _ _ F g4 (inc1 ey (by omega)) (by omega) (by omega) (by omega) ?_ c6 hsum (hP.tr hPf) (fun k j k8 k12 k13 k11 hk => (gk k j k8 k12 k13 k11 hk).trans (hG k j k8 k12 k13 k11 hk)) z3 g22 g23
    refine wS.chg ⟨h1, h2, h3, h4, h5, hw, hsh, hf11, hf10⟩ v1 hPf.1 (fun k j k8 k12 k13 k0 => ?_) (gk 0 6 (by decide) (by decide) (by decide) (by decide) (Or.inr (by decide))) (gk 0 11 (by decide) (by decide) (by decide) (by decide) (Or.inr (by decide))) ?_
    · by_cases k11 : k = 11
      · rw [k11, z3 j, h11 j]
      · exact gk k j k8 k12 k13 k11 (Or.inl k0)
    · exact hF_0 (h5.K hPf mH.rf) (fun j j1 j2 => gk 0 j (by decide) (by decide) (by decide) (by decide) (Or.inr (by omega)))
theorem t_drawn {fX fX1 fM fM1 : sg_F} {LX LM : sg_L} {hl : Bool} {T : Nat → Int32} {n : Nat} {d s w k r1 r2 : Int32} (h : rAll fX fM LX LM) (hm : mOk (fX 2)) (hq : pOk (fX 2)) (hc : xCx (fX 2) (fX 1 3).toInt hl T n fX) (hC : mCx (fX 2) hl T n fM) (e1 : (r1, fX1) = sX11_drawn d s w k fX LX) (e2 : (r2, fM1) = sX12_drawn d s w k fM LM) : r1 = r2 ∧ xLo (fX 2) (fX 1 3).toInt hl T n (fX1 9) ∧ rIdle fX1 fM1 := by
  have hb : 0 ≤ (fX 1 3).toInt ∧ (fX 1 3).toInt ≤ 8 := h.2.2.2.2.2.2 1 3
  have hid := h.2.2.2.2.2.1
  have j0 : (0 : Int64).toInt = 0 := by decide
  have j1 : (1 : Int64).toInt = 1 := by decide
  have j20 : (20 : Int64).toInt = 20 := by decide
  have ew := Int32.toInt_toInt64 w
  have ek := Int32.toInt_toInt64 k
  have no : ∀ x : Int32, (r1, fX1) = (x, fX) → (r2, fM1) = (x, fM) → r1 = r2 ∧ xLo (fX 2) (fX 1 3).toInt hl T n (fX1 9) ∧ rIdle fX1 fM1 := fun x e1 e2 => by
    obtain ⟨a1, b1⟩ := Prod.mk.inj e1
    obtain ⟨a2, b2⟩ := Prod.mk.inj e2
    exact ⟨by rw [a1, a2], by rw [b1]; exact hc.2.2.2, by rw [b1, b2]; exact hid⟩
  unfold sX11_drawn at e1; (repeat first | rw [spl_d] at e1 | rw [spl2_d] at e1)
  unfold sX12_drawn at e2; (repeat first | rw [spl_d] at e2 | rw [spl2_d] at e2)
  rw [pX_isShelf] at e1
  rw [pM_within, pM_within, ew, ek, j0, j1, j20] at e2
  by_cases q1 : 0 ≤ d.toInt ∧ d.toInt ≤ 5
  case neg =>
    rw [if_neg q1, if_neg zk0] at e1
    rw [mbytes, if_neg q1, if_neg (by decide), if_pos rfl] at e2
    exact no _ e1 e2
  rw [if_pos q1, if_pos rfl] at e1
  have e2n : (¬ (1 ≤ w.toInt ∧ w.toInt ≤ 20) ∨ ¬ (0 ≤ k.toInt ∧ k.toInt ≤ 1)) → (r2, fM1) = (-1, fM) := fun z => by
    have inner : ∀ x : Int32 × sg_F, (if (if 1 ≤ w.toInt ∧ w.toInt ≤ 20 then (1 : Int32) else 0) = 1 then (if (if 0 ≤ k.toInt ∧ k.toInt ≤ 1 then (1 : Int32) else 0) = 1 then x else (-1, fM)) else (-1, fM)) = (-1, fM) := fun x => by
      by_cases z1 : 1 ≤ w.toInt ∧ w.toInt ≤ 20
      · have z2 : ¬ (0 ≤ k.toInt ∧ k.toInt ≤ 1) := z.resolve_left (fun w => w z1)
        rw [if_pos z1, if_pos rfl, if_neg z2, if_neg zk0]
      · rw [if_neg z1, if_neg zk0]
    by_cases y : sX12_bytesIs d fM LM = 1
    · rw [if_pos y, inner] at e2; exact e2
    · rw [if_neg y] at e2
      by_cases y2 : sX12_bytesIs d fM LM = -1
      · rw [if_pos y2] at e2; exact e2
      · rw [if_neg y2, inner] at e2; exact e2
  by_cases q2 : 1 ≤ w.toInt ∧ w.toInt ≤ 20
  case neg =>
    refine no (-1) ?_ (e2n (Or.inl q2))
    by_cases c1 : w.toInt < 1
    · rw [if_pos c1] at e1; exact e1
    · rw [if_neg c1, if_pos (by omega)] at e1; exact e1
  rw [if_neg (show ¬ w.toInt < 1 from by omega), if_neg (show ¬ 20 < w.toInt from by omega)] at e1
  by_cases q3 : 0 ≤ k.toInt ∧ k.toInt ≤ 1
  case neg =>
    refine no (-1) ?_ (e2n (Or.inr q3))
    by_cases c1 : k.toInt < 0
    · rw [if_pos c1] at e1; exact e1
    · rw [if_neg c1, if_pos (by omega)] at e1; exact e1
  rw [if_neg (show ¬ k.toInt < 0 from by omega), if_neg (show ¬ 1 < k.toInt from by omega)] at e1
  rw [if_pos q2, if_pos q3, if_pos rfl, if_pos rfl, if_pos rfl, if_pos rfl] at e2
  rcases h.week hc hC q1 with ⟨a, b⟩ | ⟨a, b⟩ | ⟨b, W, N, f1, a, hN, hw, e, -⟩
  · rw [a] at e1; dsimp only at e1; rw [if_neg (by decide)] at e1
    rw [b, if_neg (by decide), if_neg (by decide)] at e2
    exact no _ e1 e2
  · rw [a] at e1; dsimp only at e1; rw [if_neg (by decide)] at e1
    rw [b, if_neg (by decide), if_neg (by decide)] at e2
    exact no _ e1 e2
  · obtain ⟨i1, i2, i3, i4, i5, i6', i7⟩ := hid
    have e13' : f1 13 = fX 13 := e 13 (by decide) (by decide) (by decide)
    rw [a] at e1; dsimp only at e1; rw [if_pos (by decide)] at e1
    unfold sX4_drawWeeks at e1; (repeat first | rw [spl_d] at e1 | rw [spl2_d] at e1)
    rw [b, if_pos rfl] at e2
    obtain ⟨x1, x2, x3, x4, x5, x6⟩ := xbg f1 LX
    have hP : xP f1 (sX4_begin f1 LX) := ⟨fun q _ _ a b c d => x6 q a b c d, x5⟩
    have hcB : xCx (fX 2) (fX 1 3).toInt hl T n (sX4_begin f1 LX) := hw.1.fr (x6 1 (by decide) (by decide) (by decide) (by decide)) (x6 2 (by decide) (by decide) (by decide) (by decide)) (x6 4 (by decide) (by decide) (by decide) (by decide)) (x6 7 (by decide) (by decide) (by decide) (by decide)) (x6 9 (by decide) (by decide) (by decide) (by decide))
    obtain ⟨r, F, G, u1, u2, u3, u4, u5, u6⟩ := drawn_l (m := fX 2) (S := (fX 1 3).toInt) (hl := hl) (T := T) (n := n) (W := W) (N := N) (d := d) (x0 := s) (x2 := w) (x3 := k) (LX := LX) (LM := LM) (fb := f1) (gb := fM) hb.2 hm hq hN q2.2 21 0 0 s 0 0 (sX4_begin f1 LX) fM (by decide) (by decide) (by decide) (by decide) (hw.K hcB hP mH.rf) (by
      unfold i6
      rw [x3, x4, (x1 0 (by decide)).2, (x1 1 (by decide)).2, (x1 2 (by decide)).2, Int32.zero_mul, Int32.zero_mul, Int32.zero_mul]; rfl) x4 hP (fun _ _ _ _ _ _ _ => rfl) i7 i4 i5
    rw [u1] at e1
    rw [u2] at e2
    dsimp only at e1
    have k7 : F 13 7 = -1 := by rw [u4.2 7 (by decide) (by decide), e13']; exact i1
    have k9 : F 13 9 = -1 := by rw [u4.2 9 (by decide) (by decide), e13']; exact i2
    have G0 : ∀ j : Nat, j = 20 ∨ j = 22 ∨ j = 23 ∨ j = 24 → G 0 j = fM 0 j := fun j hj => u5 j (by omega) (by omega) (by omega) (by omega) (by omega) (by omega) (by omega) (by omega)
    have idF : rIdle F G := ⟨k7, k9, (G0 20 (by omega)).trans i3, (G0 22 (by omega)).trans i4, (G0 23 (by omega)).trans i5, (G0 24 (by omega)).trans i6', u6⟩
    obtain ⟨a2, b2⟩ := Prod.mk.inj e2
    by_cases z : k.toInt = 0
    · rw [if_pos z] at e1 a2
      obtain ⟨a1, b1⟩ := Prod.mk.inj e1
      exact ⟨by rw [a1, a2], by rw [b1]; exact u3.2.2.2, by rw [b1, b2]; exact idF⟩
    · rw [if_neg z] at e1 a2
      obtain ⟨a1, b1⟩ := Prod.mk.inj e1
      exact ⟨by rw [a1, a2], by rw [b1]; exact u3.2.2.2, by rw [b1, b2]; exact idF⟩
