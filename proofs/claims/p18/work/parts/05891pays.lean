/-! PAYS: the best near -/
/-- what else stands still while questions are changed -/
def qS (f g : sg_F) : Prop := f 13 9 = -1 ∧ g 0 22 = 0 ∧ g 0 23 = 0 ∧ g 0 24 = -1 ∧ ∀ j : Nat, g 11 j = 0
theorem pays_l {m : Nat → Int32} {S : Int} {hl : Bool} {T : Nat → Int32} {n : Nat} {W : Nat → Int32} {N : Nat} {d s k : Int32} {LX LM : sg_L} (hS : S ≤ 8) (hm : mOk m) (hq : pOk m) (hN : N ≤ 21) : ∀ (q i : Nat) (y y3 y4 z4 z5 : Int32) (f g : sg_F), y.toInt = i → i + q = 61 → wS m S hl T n W N d LM (sg_up f 13 (sgu (f 13) 8 y)) g → g 0 21 = y → qS f g → ((i = 0 ∧ z5 = -1) ∨ (0 < i ∧ y3 = z4 ∧ y4 = z5 ∧ 0 ≤ z5.toInt)) → ∃ (r : Int32) (F G : sg_F), sX4_bestNear_l13 s k (q + 1) y3 y4 y f LX = (r, F) ∧ sX12_pays_l60 d s k (q + 9) z4 z5 g LM = (r, G) ∧ xLo m S hl T n (F 9) ∧ rIdle F G := by
  intro q
  induction q with
  | zero =>
    intro i y y3 y4 z4 z5 f g ey hi hw h21 hQ hb
    have e9 : sX4_bestNear_l13 s k (0 + 1) y3 y4 y f LX = sX4_bestNear_h13 s k (sX4_bestNear_l13 s k 0) y3 y4 y f LX := rfl
    have e8 : sX12_pays_l60 d s k (0 + 9) z4 z5 g LM = sX12_pays_h60 d s k (sX12_pays_l60 d s k 8) z4 z5 g LM := rfl
    rw [e9, e8]
    unfold sX4_bestNear_h13 sX12_pays_h60; (repeat first | rw [spl_d] | rw [spl2_d])
    rw [if_pos (show 60 < y.toInt from by omega), h21, if_neg (show ¬ y.toInt < 61 from by omega)]
    obtain ⟨q1, q2, q3, q4, q5⟩ := hQ
    have id1 : rIdle (sg_up f 13 (sgu (f 13) 7 (-1))) (sg_up g 0 (sgu (g 0) 20 (-1))) := by
      refine ⟨by rw [sg_up_s, sgu_s], by rw [sg_up_s, sgu_n (by decide)]; exact q1, by rw [sg_up_s, sgu_s], by rw [sg_up_s, sgu_n (by decide)]; exact q2, by rw [sg_up_s, sgu_n (by decide)]; exact q3, by rw [sg_up_s, sgu_n (by decide)]; exact q4, fun j => by rw [sg_up_n (by decide)]; exact q5 j⟩
    have lo : xLo m S hl T n (sg_up f 13 (sgu (f 13) 7 (-1)) 9) := by
      have := hw.1.2.2.2
      rw [sg_up_n (by decide)] at this
      rw [sg_up_n (by decide)]; exact this
    rcases hb with ⟨a, -⟩ | ⟨a, b, c, -⟩
    · exfalso; omega
    · rw [b, c]
      by_cases z : k.toInt = 0
      · rw [if_pos z, if_pos z]; exact ⟨_, _, _, rfl, rfl, lo, id1⟩
      · rw [if_neg z, if_neg z]; exact ⟨_, _, _, rfl, rfl, lo, id1⟩
  | succ q ih =>
    intro i y y3 y4 z4 z5 f g ey hi hw h21 hQ hb
    have e9 : sX4_bestNear_l13 s k (q + 1 + 1) y3 y4 y f LX = sX4_bestNear_h13 s k (sX4_bestNear_l13 s k (q + 1)) y3 y4 y f LX := rfl
    have e8 : sX12_pays_l60 d s k (q + 1 + 9) z4 z5 g LM = sX12_pays_h60 d s k (sX12_pays_l60 d s k (q + 9)) z4 z5 g LM := rfl
    rw [e9, e8]
    unfold sX4_bestNear_h13 sX12_pays_h60; (repeat first | rw [spl_d] | rw [spl2_d])
    rw [if_neg (show ¬ 60 < y.toInt from by omega), h21, if_pos (show y.toInt < 61 from by omega)]
    obtain ⟨q1, q2, q3, q4, q5⟩ := hQ
    obtain ⟨f8, ef8⟩ : ∃ z : sg_F, z = sg_up f 13 (sgu (f 13) 8 y) := ⟨_, rfl⟩
    rw [← ef8] at hw ⊢
    have f89 : f8 13 9 = -1 := by rw [ef8, sg_up_s, sgu_n (by decide)]; exact q1
    obtain ⟨g1, p1, p2, p3, p4, p5, p6⟩ := hw.go hS hm hq hN LX
    rw [p6 (f8 10 2) N hw.2.2.2.2.2.2.2.2 (Nat.le_refl N), p1]
    dsimp only
    have hB := xSqB (f0 := f8) (L := LX) hS hm hq hN (hw.2.2.2.2.2.1.W hN) (fun z => absurd z (by rw [f89]; decide)) (xbg f8 LX).2.2.2.1 p5 N (Nat.le_refl N)
    obtain ⟨F, eF⟩ : ∃ z : sg_F, z = xSq W (sX4_begin f8 LX) LX N := ⟨_, rfl⟩
    have hF := p5 N (Nat.le_refl N)
    rw [← eF] at p2 hF hB ⊢
    have g22 : g1 0 22 = 0 := (p3 0 22 (by decide) (by decide) (by decide) (Or.inr (by decide))).trans q2
    have g23 : g1 0 23 = 0 := (p3 0 23 (by decide) (by decide) (by decide) (Or.inr (by decide))).trans q3
    have g21 : g1 0 21 = y := (p3 0 21 (by decide) (by decide) (by decide) (Or.inr (by decide))).trans h21
    obtain ⟨c1, -, -⟩ := p2.cost g22 g23
    rw [← c1]
    have ey1 := inc1 ey (by omega)
    -- the next one
    have nx : ∀ (a b c e : Int32), a = c → b = e → 0 ≤ e.toInt → ∃ (r : Int32) (F1 G : sg_F), sX4_bestNear_l13 s k (q + 1) a b (y + 1) F LX = (r, F1) ∧ sX12_pays_l60 d s k (q + 9) c e (sg_up g1 0 (sgu (g1 0) 21 (y + 1))) LM = (r, G) ∧ xLo m S hl T n (F1 9) ∧ rIdle F1 G := by
      intro a b c e h1 h2 h3
      refine ih (i + 1) (y + 1) a b c e F _ ey1 (by omega) ?_ (by rw [sg_up_s, sgu_s]) ⟨?_, ?_, ?_, ?_, fun j => ?_⟩ (Or.inr ⟨by omega, h1, h2, h3⟩)
      · refine hw.chg (hF.1.fr (by rw [sg_up_n (by decide)]) (by rw [sg_up_n (by decide)]) (by rw [sg_up_n (by decide)]) (by rw [sg_up_n (by decide)]) (by rw [sg_up_n (by decide)])) (fun q b8 b9 b13 b14 b15 b16 => by rw [sg_up_n b13]; exact hF.2.1.1 q b8 b9 b13 b14 b15 b16) (fun k j h8 h12 h13 h0 => by rw [sg_up_n h0]; exact p3 k j h8 h12 h13 (Or.inl h0)) ?_ ?_ ⟨?_, fun _ => ?_, ?_, fun z => ?_, fun t z => ?_⟩
        · rw [sg_up_s, sgu_n (by decide)]; exact p3 0 6 (by decide) (by decide) (by decide) (Or.inr (by decide))
        · rw [sg_up_s, sgu_n (by decide)]; exact p3 0 11 (by decide) (by decide) (by decide) (Or.inr (by decide))
        · rw [sg_up_s, sgu_n (by decide), hF.2.1.2 7 (by decide) (by decide), sg_up_s, sgu_n (by decide), p3 0 20 (by decide) (by decide) (by decide) (Or.inr (by decide))]
          exact hw.2.2.2.2.1.1
        · rw [sg_up_s, sgu_s, sg_up_s, sgu_s]
        · rw [sg_up_s, sgu_n (by decide), hF.2.1.2 9 (by decide) (by decide), f89, sg_up_s, sgu_n (by decide), p3 0 24 (by decide) (by decide) (by decide) (Or.inr (by decide))]
          exact q4.symm
        · rw [sg_up_s, sgu_n (by decide), hF.2.1.2 9 (by decide) (by decide), f89] at z
          exact absurd z (by decide)
        · rw [sg_up_s, sgu_n (by decide), g22, bt_0] at z; exact absurd z Bool.false_ne_true
      · rw [hF.2.1.2 9 (by decide) (by decide)]; exact f89
      · rw [sg_up_s, sgu_n (by decide)]; exact g22
      · rw [sg_up_s, sgu_n (by decide)]; exact g23
      · rw [sg_up_s, sgu_n (by decide), p3 0 24 (by decide) (by decide) (by decide) (Or.inr (by decide))]; exact q4
      · rw [sg_up_n (by decide), p3 11 j (by decide) (by decide) (by decide) (Or.inl (by decide))]; exact q5 j
    have b51 : sX4_bestNear_b51 (sX4_bestNear_l13 s k (q + 1)) s k y F LX = sX4_bestNear_l13 s k (q + 1) y (F 13 6) (y + 1) F LX := rfl
    have b60 : sX4_bestNear_b60 (sX4_bestNear_l13 s k (q + 1)) s k y3 y4 y F LX = sX4_bestNear_l13 s k (q + 1) y3 y4 (y + 1) F LX := rfl
    have m88 : ∀ z : Int32, z.toInt < 0 ∨ (F 13 6).toInt < z.toInt → sX12_pays_b88 (sX12_pays_l60 d s k (q + 9)) d s k z (F 13 6) g1 LM = sX12_pays_l60 d s k (q + 9) y (F 13 6) (sg_up g1 0 (sgu (g1 0) 21 (y + 1))) LM := by
      intro z hz
      unfold sX12_pays_b88 sX12_pays_b111; (repeat first | rw [spl_d] | rw [spl2_d])
      rw [g21]
      by_cases z0 : z.toInt < 0
      · rw [if_pos z0]
      · rw [if_neg z0, if_pos (hz.resolve_left z0)]
    rw [b51, b60]
    rcases hb with ⟨a, b⟩ | ⟨a, b, c, e⟩
    · rw [if_pos (show y.toInt = 0 from by omega), b, if_pos (show (-1 : Int32).toInt < 0 from by decide), m88 _ (Or.inl (by decide))]
      exact nx _ _ _ _ rfl rfl hB.1
    · rw [if_neg (show ¬ y.toInt = 0 from by omega), if_neg (show ¬ z5.toInt < 0 from by omega), c]
      by_cases z : (F 13 6).toInt < z5.toInt
      · rw [if_pos z, if_pos z, m88 _ (Or.inr z)]
        exact nx _ _ _ _ rfl rfl hB.1
      · rw [if_neg z, if_neg z, if_neg z]
        exact nx _ _ _ _ b rfl e
theorem t_pays {fX fX1 fM fM1 : sg_F} {LX LM : sg_L} {hl : Bool} {T : Nat → Int32} {n : Nat} {d s k r1 r2 : Int32} (h : rAll fX fM LX LM) (hm : mOk (fX 2)) (hq : pOk (fX 2)) (hc : xCx (fX 2) (fX 1 3).toInt hl T n fX) (hC : mCx (fX 2) hl T n fM) (e1 : (r1, fX1) = sX11_pays d s k fX LX) (e2 : (r2, fM1) = sX12_pays d s k fM LM) : r1 = r2 ∧ xLo (fX 2) (fX 1 3).toInt hl T n (fX1 9) ∧ rIdle fX1 fM1 := by
  have hb : 0 ≤ (fX 1 3).toInt ∧ (fX 1 3).toInt ≤ 8 := h.2.2.2.2.2.2 1 3
  have hid := h.2.2.2.2.2.1
  have e13 : (fX 1 3).toInt = (fM 0 6).toInt := h.1.1
  have j0 : (0 : Int64).toInt = 0 := by decide
  have j1 : (1 : Int64).toInt = 1 := by decide
  have es := Int32.toInt_toInt64 s
  have ek := Int32.toInt_toInt64 k
  have no : ∀ x : Int32, (r1, fX1) = (x, fX) → (r2, fM1) = (x, fM) → r1 = r2 ∧ xLo (fX 2) (fX 1 3).toInt hl T n (fX1 9) ∧ rIdle fX1 fM1 := fun x e1 e2 => by
    obtain ⟨a1, b1⟩ := Prod.mk.inj e1
    obtain ⟨a2, b2⟩ := Prod.mk.inj e2
    exact ⟨by rw [a1, a2], by rw [b1]; exact hc.2.2.2, by rw [b1, b2]; exact hid⟩
  unfold sX11_pays at e1; (repeat first | rw [spl_d] at e1 | rw [spl2_d] at e1)
  unfold sX12_pays at e2; (repeat first | rw [spl_d] at e2 | rw [spl2_d] at e2)
  rw [pX_isShelf, has_X] at e1
  rw [pM_isSitter _ _ _ (by omega), pM_within, es, ek, j0, j1, ← e13] at e2
  by_cases q1 : 0 ≤ d.toInt ∧ d.toInt ≤ 5
  case neg =>
    rw [if_neg q1, if_neg zk0] at e1
    rw [mbytes, if_neg q1, if_neg (by decide), if_pos rfl] at e2
    exact no _ e1 e2
  rw [if_pos q1, if_pos rfl] at e1
  have e2n : (¬ (0 ≤ s.toInt ∧ s.toInt < (fX 1 3).toInt) ∨ ¬ (0 ≤ k.toInt ∧ k.toInt ≤ 1)) → (r2, fM1) = (-1, fM) := fun z => by
    have inner : ∀ x : Int32 × sg_F, (if (if 0 ≤ s.toInt ∧ s.toInt < (fX 1 3).toInt then (1 : Int32) else 0) = 1 then (if (if 0 ≤ k.toInt ∧ k.toInt ≤ 1 then (1 : Int32) else 0) = 1 then x else (-1, fM)) else (-1, fM)) = (-1, fM) := fun x => by
      by_cases z1 : 0 ≤ s.toInt ∧ s.toInt < (fX 1 3).toInt
      · have z2 : ¬ (0 ≤ k.toInt ∧ k.toInt ≤ 1) := z.resolve_left (fun w => w z1)
        rw [if_pos z1, if_pos rfl, if_neg z2, if_neg zk0]
      · rw [if_neg z1, if_neg zk0]
    by_cases y : sX12_bytesIs d fM LM = 1
    · rw [if_pos y, inner] at e2; exact e2
    · rw [if_neg y] at e2
      by_cases y2 : sX12_bytesIs d fM LM = -1
      · rw [if_pos y2] at e2; exact e2
      · rw [if_neg y2, inner] at e2; exact e2
  by_cases q2 : 0 ≤ s.toInt ∧ s.toInt < (fX 1 3).toInt
  case neg =>
    rw [if_neg q2, if_neg zk0] at e1
    exact no _ e1 (e2n (Or.inl q2))
  rw [if_pos q2, if_pos rfl] at e1
  by_cases q3 : 0 ≤ k.toInt ∧ k.toInt ≤ 1
  case neg =>
    refine no (-1) ?_ (e2n (Or.inr q3))
    by_cases c1 : k.toInt < 0
    · rw [if_pos c1] at e1; exact e1
    · rw [if_neg c1, if_pos (by omega)] at e1; exact e1
  rw [if_neg (show ¬ k.toInt < 0 from by omega), if_neg (show ¬ 1 < k.toInt from by omega)] at e1
  rw [if_pos q2, if_pos q3, if_pos rfl, if_pos rfl, if_pos rfl, if_pos rfl] at e2
  rcases h.week hc hC q1 with ⟨a, b⟩ | ⟨a, b⟩ | ⟨b, W, N, f1, a, hN, hw, e, -⟩
  · rw [a] at e1; dsimp only at e1; rw [if_neg (by decide)] at e1
    rw [b, if_neg (by decide), if_neg (by decide)] at e2
    exact no _ e1 e2
  · rw [a] at e1; dsimp only at e1; rw [if_neg (by decide)] at e1
    rw [b, if_neg (by decide), if_neg (by decide)] at e2
    exact no _ e1 e2
  · obtain ⟨i1, i2, i3, i4, i5, i6, i7⟩ := hid
    have e13' : f1 13 = fX 13 := e 13 (by decide) (by decide) (by decide)
    rw [a] at e1; dsimp only at e1; rw [if_pos (by decide)] at e1
    unfold sX4_bestNear at e1; (repeat first | rw [spl_d] at e1 | rw [spl2_d] at e1)
    rw [b, if_pos rfl] at e2
    obtain ⟨ga, ega⟩ : ∃ z : sg_F, z = sg_up (sg_up fM 0 (sgu (fM 0) 20 s)) 0 (sgu (sg_up fM 0 (sgu (fM 0) 20 s) 0) 21 0) := ⟨_, rfl⟩
    obtain ⟨fa, efa⟩ : ∃ z : sg_F, z = sg_up f1 13 (sgu (f1 13) 7 s) := ⟨_, rfl⟩
    rw [← ega] at e2
    rw [← efa] at e1
    have ha0 : ∀ j : Nat, j ≠ 20 → j ≠ 21 → ga 0 j = fM 0 j := fun j h20 h21 => by rw [ega, sg_up_s, sgu_n h21, sg_up_s, sgu_n h20]
    have ha : ∀ k : Nat, k ≠ 0 → ga k = fM k := fun k hk => by rw [ega, sg_up_n hk, sg_up_n hk]
    have a20 : ga 0 20 = s := by rw [ega, sg_up_s, sgu_n (by decide), sg_up_s, sgu_s]
    have a21 : ga 0 21 = 0 := by rw [ega, sg_up_s, sgu_s]
    have x7 : fa 13 7 = s := by rw [efa, sg_up_s, sgu_s]
    have x9 : fa 13 9 = -1 := by rw [efa, sg_up_s, sgu_n (by decide), e13']; exact i2
    have xq : ∀ q : Nat, q ≠ 13 → fa q = f1 q := fun q hq => by rw [efa, sg_up_n hq]
    obtain ⟨r, F, G, u1, u2, u3, u4⟩ := pays_l (m := fX 2) (S := (fX 1 3).toInt) (hl := hl) (T := T) (n := n) (W := W) (N := N) (d := d) (s := s) (k := k) (LX := LX) (LM := LM) hb.2 hm hq hN 61 0 0 0 0 0 (-1) fa ga (by decide) (by decide) (by
      refine hw.chg (hw.1.fr (by rw [sg_up_n (by decide), xq 1 (by decide)]) (by rw [sg_up_n (by decide), xq 2 (by decide)]) (by rw [sg_up_n (by decide), xq 4 (by decide)]) (by rw [sg_up_n (by decide), xq 7 (by decide)]) (by rw [sg_up_n (by decide), xq 9 (by decide)])) (fun q _ _ b13 _ _ _ => by rw [sg_up_n b13, xq q b13]) (fun k j _ _ _ h0 => by rw [ha k h0]) (ha0 6 (by decide) (by decide)) (ha0 11 (by decide) (by decide)) ⟨?_, fun _ => ?_, ?_, fun z => ?_, fun t z => ?_⟩
      · rw [sg_up_s, sgu_n (by decide), x7, a20]
      · rw [sg_up_s, sgu_s, a21]
      · rw [sg_up_s, sgu_n (by decide), x9, ha0 24 (by decide) (by decide), i6]
      · rw [sg_up_s, sgu_n (by decide), x9] at z; exact absurd z (by decide)
      · rw [ha0 22 (by decide) (by decide), i4, bt_0] at z; exact absurd z Bool.false_ne_true) a21 ⟨x9, by rw [ha0 22 (by decide) (by decide)]; exact i4, by rw [ha0 23 (by decide) (by decide)]; exact i5, by rw [ha0 24 (by decide) (by decide)]; exact i6, fun j => by rw [ha 11 (by decide)]; exact i7 j⟩ (Or.inl ⟨rfl, rfl⟩)
    rw [u1] at e1
    rw [show (70 : Nat) = 61 + 9 from rfl, u2] at e2
    obtain ⟨a1, b1⟩ := Prod.mk.inj e1
    obtain ⟨a2, b2⟩ := Prod.mk.inj e2
    exact ⟨by rw [a1, a2], by rw [b1]; exact u3, by rw [b1, b2]; exact u4⟩
