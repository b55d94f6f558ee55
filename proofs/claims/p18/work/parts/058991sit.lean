/-! SIT -/
theorem t_sit {fX fX1 fM fM1 : sg_F} {LX LM : sg_L} {hl : Bool} {T : Nat → Int32} {n : Nat} {s r1 r2 : Int32} (h : rAll fX fM LX LM) (hi : rIm fX fM) (hm : mOk (fX 2)) (hq : pOk (fX 2)) (hc : xCx (fX 2) (fX 1 3).toInt hl T n fX) (hC : mCx (fX 2) hl T n fM) (e1 : (r1, fX1) = sX11_sit s fX LX) (e2 : (r2, fM1) = sX12_sit s fM LM) : r1 = r2 ∧ xLo (fX 2) (fX 1 3).toInt hl T n (fX1 9) ∧ rSt fX1 fM1 ∧ fX1 29 0 = fM1 0 38 := by
  have hI := h.2.2.2.2.2.2
  have hb : 0 ≤ (fX 1 3).toInt ∧ (fX 1 3).toInt ≤ 8 := hI 1 3
  have hst := h.2.2.2.2.1
  have hid := h.2.2.2.2.2.1
  have e13 : (fX 1 3).toInt = (fM 0 6).toInt := h.1.1
  have es := Int32.toInt_toInt64 s
  unfold sX11_sit at e1; (repeat first | rw [spl_d] at e1 | rw [spl2_d] at e1)
  unfold sX12_sit at e2; (repeat first | rw [spl_d] at e2 | rw [spl2_d] at e2)
  rw [has_X] at e1
  rw [pM_isSitter _ _ _ (by omega), es, ← e13] at e2
  by_cases q2 : 0 ≤ s.toInt ∧ s.toInt < (fX 1 3).toInt
  case neg =>
    rw [if_neg q2, if_neg zk0] at e1 e2
    obtain ⟨a1, b1⟩ := Prod.mk.inj e1
    obtain ⟨a2, b2⟩ := Prod.mk.inj e2
    rw [b1, b2]
    exact ⟨by rw [a1, a2], hc.2.2.2, hst, hi.1⟩
  rw [if_pos q2, if_pos rfl] at e1 e2
  have hs7 : 0 ≤ s.toInt ∧ s.toInt ≤ 7 := by omega
  -- the week begins
  obtain ⟨w1, w2, w3⟩ := wbeg (m := fX 2) hst (fun p _ => hI 3 p) LX LM
  obtain ⟨x1, x2, x3, x4, x5, x6⟩ := xbg fX LX
  obtain ⟨f0, ef0⟩ : ∃ z : sg_F, z = sX4_begin fX LX := ⟨_, rfl⟩
  obtain ⟨g0, eg0⟩ : ∃ z : sg_F, z = sX12_beginsWeek fM LM := ⟨_, rfl⟩
  unfold sX2_comes at e1; (repeat first | rw [spl_d] at e1 | rw [spl2_d] at e1)
  rw [← ef0] at w1 w2 x6 e1
  rw [← eg0] at w1 w3 e2
  have hc0 : xCx (fX 2) (fX 1 3).toInt hl T n f0 := hc.fr (x6 1 (by decide) (by decide) (by decide) (by decide)) (x6 2 (by decide) (by decide) (by decide) (by decide)) (x6 4 (by decide) (by decide) (by decide) (by decide)) (x6 7 (by decide) (by decide) (by decide) (by decide)) (x6 9 (by decide) (by decide) (by decide) (by decide))
  have hC0 := hC.H w3
  have hf0 : hF f0 g0 := hid.hF.K w2 w3
  -- who sits comes
  obtain ⟨c1, c2⟩ := xcm (s := s) hc0 hb.2 hm q2 w1.2.1 LX
  obtain ⟨g1, d1, d2⟩ := mcm (s := s) hC0 hm hq hs7 (fun p hp => by rw [← w1.1 p hp]; exact w1.2.1 p hp) LM
  obtain ⟨f1, ef1⟩ : ∃ z : sg_F, z = sX4_comes s f0 LX := ⟨_, rfl⟩
  rw [← ef1] at c1 c2 e1
  have en : (if s.toInt = (f0 13 7).toInt then f0 13 8 else fX 2 (8 * s.toNatClampNeg + 6)) = mnr (fX 2) g0 s := by
    unfold mnr
    rw [← hf0.1]
    by_cases z : s.toInt = (f0 13 7).toInt
    · rw [if_pos z, if_pos z, hf0.2.1 (by omega)]
    · rw [if_neg z, if_neg z]
  rw [en] at c2
  have r1' := wR.comes w1 hm hq hs7 rfl (hf0.2.2.2.2 s) c2 d2
  have g24 : g1 0 24 = -1 := by
    rw [d2.1 0 24 (by decide) (by decide) (by decide) (Or.inr (by decide)), w3 0 24 (by decide) (by decide) (by decide) (Or.inr (by decide))]
    exact hid.2.2.2.2.2.1
  have g22 : g1 0 22 = 0 := by
    rw [d2.1 0 22 (by decide) (by decide) (by decide) (Or.inr (by decide)), w3 0 22 (by decide) (by decide) (by decide) (Or.inr (by decide))]
    exact hid.2.2.2.1
  have g23 : g1 0 23 = 0 := by
    rw [d2.1 0 23 (by decide) (by decide) (by decide) (Or.inr (by decide)), w3 0 23 (by decide) (by decide) (by decide) (Or.inr (by decide))]
    exact hid.2.2.2.2.1
  have g38 : g1 0 38 = fM 0 38 := by
    rw [d2.1 0 38 (by decide) (by decide) (by decide) (Or.inr (by decide)), w3 0 38 (by decide) (by decide) (by decide) (Or.inr (by decide))]
  rw [d1, mcm_n (by rw [g24]; intro z; rw [show (-1 : Int32).toInt = -1 from by decide] at z; omega)] at e2
  obtain ⟨k1, -, -⟩ := r1'.cost g22 g23
  have f29 : f1 29 = fX 29 := by rw [c2.1 29 (by decide) (by decide) (by decide) (by decide) (by decide) (by decide), x6 29 (by decide) (by decide) (by decide) (by decide)]
  -- the class: what is laid down
  have c00 : (0 : Int32).toNatClampNeg = 0 := by decide
  have c01 : (1 : Int32).toNatClampNeg = 1 := by decide
  have c02 : (2 : Int32).toNatClampNeg = 2 := by decide
  have c03 : (3 : Int32).toNatClampNeg = 3 := by decide
  have c04 : (4 : Int32).toNatClampNeg = 4 := by decide
  rw [c00, c03] at e1
  obtain ⟨f2, ef2⟩ : ∃ z : sg_F, z = sg_up f1 3 (va_cpy (f1 14) (f1 3) 0 0 3) := ⟨_, rfl⟩
  rw [← ef2] at e1
  have f2k : ∀ q : Nat, q ≠ 3 → f2 q = f1 q := fun q hq' => by rw [ef2, sg_up_n hq']
  have f23 : ∀ p : Nat, p < 3 → f2 3 p = f1 14 p := fun p hp => by rw [ef2, sg_up_s, cpy_lt hp]
  have b80 : ∀ g : sg_F, (sX2_comes_b80 s g LX).1 = g 13 6 ∧ (sX2_comes_b80 s g LX).2 29 0 = g 29 0 + 1 ∧ ∀ q : Nat, q ≠ 29 → (sX2_comes_b80 s g LX).2 q = g q := by
    intro g
    unfold sX2_comes_b80; (repeat first | rw [spl_d] | rw [spl2_d])
    dsimp only
    rw [c00, c01, c02]
    refine ⟨?_, ?_, fun q hq' => ?_⟩
    · rw [sg_up_n (by decide), sg_up_n (by decide), sg_up_n (by decide)]
    · rw [sg_up_s, sgu_n (by decide), sg_up_s, sgu_n (by decide), sg_up_s, sgu_s]
    · rw [sg_up_n hq', sg_up_n hq', sg_up_n hq']
  have b60 : ∀ g : sg_F, (sX2_comes_b60 s g LX).1 = g 13 6 ∧ (sX2_comes_b60 s g LX).2 29 0 = g 29 0 + 1 ∧ ∀ q : Nat, q ≠ 29 → (sX2_comes_b60 s g LX).2 q = g q := by
    intro g
    unfold sX2_comes_b60; (repeat first | rw [spl_d] | rw [spl2_d])
    rw [c03, c04]
    obtain ⟨y1, y2, y3⟩ := b80 (sg_up (sg_up g 29 (sgu (g 29) 3 (g 13 6))) 29 (sgu (sg_up g 29 (sgu (g 29) 3 (g 13 6)) 29) 4 s))
    refine ⟨?_, ?_, fun q hq' => ?_⟩
    · rw [y1, sg_up_n (by decide), sg_up_n (by decide)]
    · rw [y2, sg_up_s, sgu_n (by decide), sg_up_s, sgu_n (by decide)]
    · rw [y3 q hq', sg_up_n hq', sg_up_n hq']
  have xe : r1 = f2 13 6 ∧ fX1 29 0 = f2 29 0 + 1 ∧ ∀ q : Nat, q ≠ 29 → fX1 q = f2 q := by
    have z80 := b80 f2
    have z60 := b60 f2
    by_cases v1 : (f2 29 0).toInt = 0
    · rw [if_pos v1] at e1
      obtain ⟨a1, b1⟩ := Prod.mk.inj e1
      rw [a1, b1]; exact z60
    · rw [if_neg v1] at e1
      by_cases v2 : (f2 29 3).toInt < (f2 13 6).toInt
      · rw [if_pos v2] at e1
        obtain ⟨a1, b1⟩ := Prod.mk.inj e1
        rw [a1, b1]; exact z60
      · rw [if_neg v2] at e1
        obtain ⟨a1, b1⟩ := Prod.mk.inj e1
        rw [a1, b1]; exact z80
  -- the reference's loop
  have go : ∀ (k i : Nat) (y : Int32) (g : sg_F), y.toInt = i → i ≤ 3 → 3 - i < k → (∀ q : Nat, q ≠ 5 → g q = g1 q) → (∀ p : Nat, p < i → g 5 p = g1 12 p) → (sX12_sit_l22 s k y g LM).1 = g1 0 31 + g1 0 30 ∧ (sX12_sit_l22 s k y g LM).2 0 38 = g1 0 38 + 1 ∧ ∀ p : Nat, p < 3 → (sX12_sit_l22 s k y g LM).2 5 p = g1 12 p := by
    intro k
    induction k with
    | zero => intro i y g _ _ h; exact absurd h (by omega)
    | succ k ih =>
      intro i y g ey hi' hk hg h5
      have e8 : sX12_sit_l22 s (k + 1) y g LM = sX12_sit_h22 s (sX12_sit_l22 s k) y g LM := rfl
      have ey1 := inc1 ey (by omega)
      have cy := bn_clI (x := y) (by omega)
      have eyn : y.toNatClampNeg = i := by omega
      rw [e8]
      unfold sX12_sit_h22; (repeat first | rw [spl_d] | rw [spl2_d])
      by_cases c : i < 3
      · rw [if_pos (show y.toInt < 3 from by omega), eyn]
        refine ih (i + 1) (y + 1) _ ey1 (by omega) (by omega) (fun q hq' => by rw [sg_up_n hq']; exact hg q hq') (fun p hp => ?_)
        rw [sg_up_s]
        by_cases z : p = i
        · rw [z, sgu_s, hg 12 (by decide)]
        · rw [sgu_n z]; exact h5 p (by omega)
      · rw [if_neg (show ¬ y.toInt < 3 from by omega)]
        have i3 : i = 3 := by omega
        have h5' : ∀ p : Nat, p < 3 → g 5 p = g1 12 p := fun p hp => h5 p (by omega)
        (repeat' split) <;> (refine ⟨?_, ?_, fun p hp => ?_⟩ <;> dsimp only)
        all_goals first | (rw [hg 0 (by decide)]; done) | (rw [sg_up_s, sgu_n (show (38 : Nat) ≠ 41 by decide), sg_up_s, sgu_n (show (38 : Nat) ≠ 42 by decide), sg_up_s, sgu_n (show (38 : Nat) ≠ 40 by decide), sg_up_s, sgu_n (show (38 : Nat) ≠ 39 by decide), sg_up_s, sgu_s, hg 0 (by decide)]; done) | (rw [sg_up_n (show (5 : Nat) ≠ 0 by decide), sg_up_n (show (5 : Nat) ≠ 0 by decide), sg_up_n (show (5 : Nat) ≠ 0 by decide), sg_up_n (show (5 : Nat) ≠ 0 by decide), sg_up_n (show (5 : Nat) ≠ 0 by decide)]; exact h5' p hp)
  obtain ⟨v1, v2, v3⟩ := go 4 0 0 g1 (by decide) (by decide) (by decide) (fun _ _ => rfl) (fun p hp => absurd hp (by omega))
  obtain ⟨u1, u2, u3⟩ := xe
  rw [← e2] at v1 v2 v3
  have v1 : r2 = g1 0 31 + g1 0 30 := v1
  have v2 : fM1 0 38 = g1 0 38 + 1 := v2
  have v3 : ∀ p : Nat, p < 3 → fM1 5 p = g1 12 p := v3
  refine ⟨?_, ?_, fun p hp => ?_, ?_⟩
  · rw [u1, v1, f2k 13 (by decide), k1]
  · rw [u3 9 (by decide), f2k 9 (by decide)]; exact c1.2.2.2
  · rw [u3 3 (by decide), f23 p hp, v3 p hp, r1'.1 p hp]
  · rw [u2, f2k 29 (by decide), f29, v2, g38, hi.1]
