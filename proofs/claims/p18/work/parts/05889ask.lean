/-! QUESTIONS about a week -/
/-- a week on both sides: what a question finds -/
def wS (m : Nat → Int32) (S : Int) (hl : Bool) (T : Nat → Int32) (n : Nat) (W : Nat → Int32) (N : Nat) (d : Int32) (LM : sg_L) (f g : sg_F) : Prop := xCx m S hl T n f ∧ mCx m hl T n g ∧ (∀ p : Nat, p < 3 → f 3 p = g 5 p) ∧ (∀ p : Nat, p < 3 → 0 ≤ (f 3 p).toInt ∧ (f 3 p).toInt ≤ 60) ∧ hF f g ∧ hWho W S N d g LM ∧ (sX12_shiftsOf d g LM).toInt = N ∧ (∀ i : Nat, i < N → f 11 i = W i) ∧ (f 10 2).toInt = N
theorem wS.go {m : Nat → Int32} {S : Int} {hl : Bool} {T : Nat → Int32} {n : Nat} {W : Nat → Int32} {N : Nat} {d : Int32} {LM : sg_L} {f g : sg_F} (h : wS m S hl T n W N d LM f g) (hS : S ≤ 8) (hm : mOk m) (hq : pOk m) (hN : N ≤ 21) (L : sg_L) : ∃ g1 : sg_F, sX12_weekOf d g LM = (g1 0 31 + g1 0 30, g1) ∧ wR m 0 0 0 (xSq W (sX4_begin f L) L N) g1 ∧ mH g g1 ∧ hHs W (sX4_begin f L) L N g1 ∧ (∀ j : Nat, j ≤ N → xCx m S hl T n (xSq W (sX4_begin f L) L j) ∧ xP f (xSq W (sX4_begin f L) L j) ∧ ∀ p : Nat, p < 3 → 0 ≤ (xSq W (sX4_begin f L) L j 14 p).toInt ∧ (xSq W (sX4_begin f L) L j 14 p).toInt ≤ 60) ∧ ∀ (x0 : Int32) (k : Nat), x0.toInt = k → k ≤ N → sX4_live x0 f L = xSq W (sX4_begin f L) L k := by
  obtain ⟨h1, h2, h3, h4, h5, h6, h7, h8, h9⟩ := h
  obtain ⟨g1, a1, a2, a3, a4, a5⟩ := wtwo (x0 := d) (W := W) (N := N) L LM hS hm hq hN h1 h2 h3 h4 h5 h6 h7
  refine ⟨g1, a1, a2, a3, a4, a5, fun x0 k e hk => xlive e (by omega) (fun j hj i hi => ?_)⟩
  rw [(a5 j (by omega)).2.1.1 11 (by decide) (by decide) (by decide) (by decide) (by decide) (by decide)]
  exact h8 i (by omega)
theorem wS.chg {m : Nat → Int32} {S : Int} {hl : Bool} {T : Nat → Int32} {n : Nat} {W : Nat → Int32} {N : Nat} {d : Int32} {LM : sg_L} {f g f1 g1 : sg_F} (h : wS m S hl T n W N d LM f g) (c : xCx m S hl T n f1) (a : ∀ q : Nat, q ≠ 8 → q ≠ 9 → q ≠ 13 → q ≠ 14 → q ≠ 15 → q ≠ 16 → f1 q = f q) (b : ∀ k j : Nat, k ≠ 8 → k ≠ 12 → k ≠ 13 → k ≠ 0 → g1 k j = g k j) (b6 : g1 0 6 = g 0 6) (b11 : g1 0 11 = g 0 11) (hf : hF f1 g1) : wS m S hl T n W N d LM f1 g1 := by
  obtain ⟨h1, h2, h3, h4, h5, h6, h7, h8, h9⟩ := h
  have a3 : f1 3 = f 3 := a 3 (by decide) (by decide) (by decide) (by decide) (by decide) (by decide)
  have a10 : f1 10 = f 10 := a 10 (by decide) (by decide) (by decide) (by decide) (by decide) (by decide)
  have a11 : f1 11 = f 11 := a 11 (by decide) (by decide) (by decide) (by decide) (by decide) (by decide)
  refine ⟨c, h2.fr (fun j => b 1 j (by decide) (by decide) (by decide) (by decide)) (fun j => b 7 j (by decide) (by decide) (by decide) (by decide)) b11, fun p hp => ?_, fun p hp => ?_, hf, h6.H b6 (fun j => b 11 j (by decide) (by decide) (by decide) (by decide)), ?_, fun i hi => ?_, ?_⟩
  · rw [a3, b 5 p (by decide) (by decide) (by decide) (by decide)]; exact h3 p hp
  · rw [a3]; exact h4 p hp
  · rw [shfM_fr (show g1 23 = g 23 from funext fun j => b 23 j (by decide) (by decide) (by decide) (by decide))]; exact h7
  · rw [a11]; exact h8 i hi
  · rw [a10]; exact h9
theorem wS.K {m : Nat → Int32} {S : Int} {hl : Bool} {T : Nat → Int32} {n : Nat} {W : Nat → Int32} {N : Nat} {d : Int32} {LM : sg_L} {f g f1 g1 : sg_F} (h : wS m S hl T n W N d LM f g) (c : xCx m S hl T n f1) (a : xP f f1) (b : mH g g1) : wS m S hl T n W N d LM f1 g1 := h.chg c a.1 (fun k j h8 h12 h13 h0 => b k j h8 h12 h13 (Or.inl h0)) (b 0 6 (by decide) (by decide) (by decide) (Or.inr (by decide))) (b 0 11 (by decide) (by decide) (by decide) (Or.inr (by decide))) (h.2.2.2.2.1.K a b)
/-- both worlds, as the questions find them -/
def rAll (fX fM : sg_F) (LX LM : sg_L) : Prop := rNum fX fM ∧ rShelf fX fM ∧ rEl fX LX LM ∧ rByte fX LX ∧ rSt fX fM ∧ rIdle fX fM ∧ sgI loX hiX fX
/-- a question about a row's week -/
theorem rAll.week {fX fM : sg_F} {LX LM : sg_L} {d : Int32} {hl : Bool} {T : Nat → Int32} {n : Nat} (h : rAll fX fM LX LM) (hc : xCx (fX 2) (fX 1 3).toInt hl T n fX) (hC : mCx (fX 2) hl T n fM) (hd : 0 ≤ d.toInt ∧ d.toInt ≤ 5) : (sX11_readWeek d fX LX = (-11, fX) ∧ sX12_bytesIs d fM LM = -11) ∨ (sX11_readWeek d fX LX = (-12, fX) ∧ sX12_bytesIs d fM LM = -12) ∨ (sX12_bytesIs d fM LM = 1 ∧ ∃ (W : Nat → Int32) (N : Nat) (f1 : sg_F), sX11_readWeek d fX LX = (0, f1) ∧ N ≤ 21 ∧ wS (fX 2) (fX 1 3).toInt hl T n W N d LM f1 fM ∧ (∀ q : Nat, q ≠ 10 → q ≠ 11 → q ≠ 12 → f1 q = fX q) ∧ xRd W N fX f1 ∧ (∀ i : Nat, W i = wh (fX 1 3).toInt (LX (41 + 2 * d.toNatClampNeg) i)) ∧ (fX (40 + 2 * d.toNatClampNeg) 1).toInt = 0 ∧ (fX (40 + 2 * d.toNatClampNeg) 2).toInt = (fM 23 d.toNatClampNeg).toInt ∧ N = nsh (fX (40 + 2 * d.toNatClampNeg) 2).toInt) := by
  obtain ⟨hn, hs, he, hy, hst, hid, hI⟩ := h
  rcases rweek (LM := LM) hn hs he hy hid hI hd (hI 36 2).2 with ⟨-, a, b⟩ | ⟨-, -, a, b⟩ | ⟨z, b, W, N, f1, a1, a2, a3, a4, a5, a6, a7, a8, a9⟩
  · exact Or.inl ⟨a, b⟩
  · exact Or.inr (Or.inl ⟨a, b⟩)
  · obtain ⟨x1, x2, x3, x4, x5, x6⟩ := a3
    have e : ∀ q : Nat, q ≠ 10 → q ≠ 11 → q ≠ 12 → f1 q = fX q := x5
    have hid1 : rIdle f1 fM := hid.fr (by rw [e 13 (by decide) (by decide) (by decide)]) (by rw [e 13 (by decide) (by decide) (by decide)]) rfl rfl rfl rfl (fun _ => rfl)
    refine Or.inr (Or.inr ⟨b, W, N, f1, a1, a2, ⟨hc.fr (e 1 (by decide) (by decide) (by decide)) (e 2 (by decide) (by decide) (by decide)) (e 4 (by decide) (by decide) (by decide)) (e 7 (by decide) (by decide) (by decide)) (e 9 (by decide) (by decide) (by decide)), hC, fun p hp => ?_, fun p hp => ?_, hid1.hF, a4, a5, x3, x1⟩, e, ⟨x1, x2, x3, x4, x5, x6⟩, a8, z, a7, a9⟩)
    · rw [e 3 (by decide) (by decide) (by decide)]; exact hst p hp
    · rw [e 3 (by decide) (by decide) (by decide)]; exact hI 3 p
theorem rLs.two {fX fM : sg_F} {P : Prop} (h : rLs fX fM) (hn : rNum fX fM) (k : ∀ (hl : Bool) (T : Nat → Int32) (n : Nat), mOk (fX 2) → pOk (fX 2) → xCx (fX 2) (fX 1 3).toInt hl T n fX → mCx (fX 2) hl T n fM → P) : P := by
  obtain ⟨hl, T, n, h, k1⟩ := h
  obtain ⟨x1, x2⟩ := h.cx k1 hn
  obtain ⟨o1, o2⟩ := k1.1.ok
  exact k hl T n o1 o2 x1 x2
theorem t_all (f : sg_F) (L : sg_L) : sX4_allTurns f L = 0 + f 15 0 + f 15 1 + f 15 2 := rfl
/-- week -/
theorem t_week {fX fX1 fM fM1 : sg_F} {LX LM : sg_L} {hl : Bool} {T : Nat → Int32} {n : Nat} {d k r1 r2 : Int32} (h : rAll fX fM LX LM) (hm : mOk (fX 2)) (hq : pOk (fX 2)) (hc : xCx (fX 2) (fX 1 3).toInt hl T n fX) (hC : mCx (fX 2) hl T n fM) (e1 : (r1, fX1) = sX11_week d k fX LX) (e2 : (r2, fM1) = sX12_week d k fM LM) : r1 = r2 ∧ xLo (fX 2) (fX 1 3).toInt hl T n (fX1 9) := by
  have hb : 0 ≤ (fX 1 3).toInt ∧ (fX 1 3).toInt ≤ 8 := h.2.2.2.2.2.2 1 3
  have hid := h.2.2.2.2.2.1
  have k0 : (0 : Int32).toInt = 0 := by decide
  have j0 : (0 : Int64).toInt = 0 := by decide
  have j2 : (2 : Int64).toInt = 2 := by decide
  have ek := Int32.toInt_toInt64 k
  have nil : r1 = r2 → fX1 = fX → r1 = r2 ∧ xLo (fX 2) (fX 1 3).toInt hl T n (fX1 9) := fun a b => ⟨a, by rw [b]; exact hc.2.2.2⟩
  unfold sX11_week at e1; (repeat first | rw [spl_d] at e1 | rw [spl2_d] at e1)
  unfold sX12_week at e2; (repeat first | rw [spl_d] at e2 | rw [spl2_d] at e2)
  rw [pX_isShelf] at e1
  rw [pM_within, j0, j2, ek] at e2
  by_cases q1 : 0 ≤ d.toInt ∧ d.toInt ≤ 5
  case neg =>
    rw [if_neg q1, if_neg zk0] at e1
    rw [mbytes, if_neg q1, if_neg (by decide), if_pos rfl] at e2
    obtain ⟨a1, b1⟩ := Prod.mk.inj e1
    obtain ⟨a2, b2⟩ := Prod.mk.inj e2
    exact nil (by rw [a1, a2]) b1
  rw [if_pos q1, if_pos rfl] at e1
  by_cases q2 : 0 ≤ k.toInt ∧ k.toInt ≤ 2
  case neg =>
    have e1 : (r1, fX1) = (-1, fX) := by
      by_cases c1 : k.toInt < 0
      · rw [if_pos c1] at e1; exact e1
      · rw [if_neg c1, if_pos (by omega)] at e1; exact e1
    have e2 : (r2, fM1) = (-1, fM) := by
      rw [if_neg q2, if_neg zk0, if_neg zk0] at e2
      by_cases c1 : sX12_bytesIs d fM LM = 1
      · rw [if_pos c1] at e2; exact e2
      · rw [if_neg c1] at e2
        by_cases c2 : sX12_bytesIs d fM LM = -1
        · rw [if_pos c2] at e2; exact e2
        · rw [if_neg c2] at e2; exact e2
    obtain ⟨a1, b1⟩ := Prod.mk.inj e1
    obtain ⟨a2, b2⟩ := Prod.mk.inj e2
    exact nil (by rw [a1, a2]) b1
  rw [if_neg (show ¬ k.toInt < 0 from by omega), if_neg (show ¬ 2 < k.toInt from by omega)] at e1
  rw [if_pos q2, if_pos rfl, if_pos rfl] at e2
  rcases h.week hc hC q1 with ⟨a, b⟩ | ⟨a, b⟩ | ⟨b, W, N, f1, a, hN, hw, e, -⟩
  · rw [a] at e1; dsimp only at e1; rw [if_neg (by decide)] at e1
    rw [b, if_neg (by decide), if_neg (by decide)] at e2
    obtain ⟨a1, b1⟩ := Prod.mk.inj e1
    obtain ⟨a2, b2⟩ := Prod.mk.inj e2
    exact nil (by rw [a1, a2]) b1
  · rw [a] at e1; dsimp only at e1; rw [if_neg (by decide)] at e1
    rw [b, if_neg (by decide), if_neg (by decide)] at e2
    obtain ⟨a1, b1⟩ := Prod.mk.inj e1
    obtain ⟨a2, b2⟩ := Prod.mk.inj e2
    exact nil (by rw [a1, a2]) b1
  · obtain ⟨g1, p1, p2, p3, p4, p5, p6⟩ := hw.go hb.2 hm hq hN LX
    rw [a] at e1; dsimp only at e1; rw [if_pos (by decide)] at e1
    rw [p6 (f1 10 2) N hw.2.2.2.2.2.2.2.2 (Nat.le_refl N)] at e1
    rw [b, if_pos rfl, p1] at e2
    dsimp only at e2
    obtain ⟨F, eF⟩ : ∃ z : sg_F, z = xSq W (sX4_begin f1 LX) LX N := ⟨_, rfl⟩
    have hF9 := (p5 N (Nat.le_refl N)).1.2.2.2
    rw [← eF] at e1 p2 hF9
    have g22 : g1 0 22 = 0 := (p3 0 22 (by decide) (by decide) (by decide) (Or.inr (by decide))).trans hid.2.2.2.1
    have g23 : g1 0 23 = 0 := (p3 0 23 (by decide) (by decide) (by decide) (Or.inr (by decide))).trans hid.2.2.2.2.1
    obtain ⟨c1, c2, c3⟩ := p2.cost g22 g23
    rw [t_all] at e1
    by_cases z0 : k.toInt = 0
    · rw [if_pos z0] at e1 e2
      obtain ⟨a1, b1⟩ := Prod.mk.inj e1
      obtain ⟨a2, b2⟩ := Prod.mk.inj e2
      exact ⟨by rw [a1, a2, ← c3, Int32.zero_add], by rw [b1]; exact hF9⟩
    rw [if_neg z0] at e1 e2
    by_cases z1 : k.toInt = 1
    · rw [if_pos z1] at e1 e2
      obtain ⟨a1, b1⟩ := Prod.mk.inj e1
      obtain ⟨a2, b2⟩ := Prod.mk.inj e2
      exact ⟨by rw [a1, a2, c2], by rw [b1]; exact hF9⟩
    rw [if_neg z1] at e1 e2
    obtain ⟨a1, b1⟩ := Prod.mk.inj e1
    obtain ⟨a2, b2⟩ := Prod.mk.inj e2
    exact ⟨by rw [a1, a2, c1], by rw [b1]; exact hF9⟩
/-- stands -/
theorem t_stands {fX fX1 fM fM1 : sg_F} {LX LM : sg_L} {hl : Bool} {T : Nat → Int32} {n : Nat} {d p k r1 r2 : Int32} (h : rAll fX fM LX LM) (hm : mOk (fX 2)) (hq : pOk (fX 2)) (hc : xCx (fX 2) (fX 1 3).toInt hl T n fX) (hC : mCx (fX 2) hl T n fM) (e1 : (r1, fX1) = sX11_stands d p k fX LX) (e2 : (r2, fM1) = sX12_stands d p k fM LM) : r1 = r2 ∧ xLo (fX 2) (fX 1 3).toInt hl T n (fX1 9) := by
  have hb : 0 ≤ (fX 1 3).toInt ∧ (fX 1 3).toInt ≤ 8 := h.2.2.2.2.2.2 1 3
  have k0 : (0 : Int32).toInt = 0 := by decide
  have nil : r1 = r2 → fX1 = fX → r1 = r2 ∧ xLo (fX 2) (fX 1 3).toInt hl T n (fX1 9) := fun a b => ⟨a, by rw [b]; exact hc.2.2.2⟩
  unfold sX11_stands at e1; (repeat first | rw [spl_d] at e1 | rw [spl2_d] at e1)
  unfold sX12_stands at e2; (repeat first | rw [spl_d] at e2 | rw [spl2_d] at e2)
  rw [pX_isShelf, pX_isPart] at e1
  rw [pM_isPart] at e2
  by_cases q1 : 0 ≤ d.toInt ∧ d.toInt ≤ 5
  case neg =>
    rw [if_neg q1, if_neg zk0] at e1
    rw [mbytes, if_neg q1, if_neg (by decide), if_pos rfl] at e2
    obtain ⟨a1, b1⟩ := Prod.mk.inj e1
    obtain ⟨a2, b2⟩ := Prod.mk.inj e2
    exact nil (by rw [a1, a2]) b1
  rw [if_pos q1, if_pos rfl] at e1
  by_cases q2 : 0 ≤ p.toInt ∧ p.toInt ≤ 2
  case neg =>
    rw [if_neg q2, if_neg zk0] at e1
    have e2 : (r2, fM1) = (-1, fM) := by
      rw [if_neg q2, if_neg zk0, if_neg zk0] at e2
      by_cases c1 : sX12_bytesIs d fM LM = 1
      · rw [if_pos c1] at e2; exact e2
      · rw [if_neg c1] at e2
        by_cases c2 : sX12_bytesIs d fM LM = -1
        · rw [if_pos c2] at e2; exact e2
        · rw [if_neg c2] at e2; exact e2
    obtain ⟨a1, b1⟩ := Prod.mk.inj e1
    obtain ⟨a2, b2⟩ := Prod.mk.inj e2
    exact nil (by rw [a1, a2]) b1
  rw [if_pos q2, if_pos rfl] at e1
  rw [if_pos q2, if_pos rfl, if_pos rfl] at e2
  by_cases q3 : k.toInt < 0
  · rw [if_pos q3] at e1
    have e2 : (r2, fM1) = (-1, fM) := by
      rw [if_pos q3, if_pos q3] at e2
      by_cases c1 : sX12_bytesIs d fM LM = 1
      · rw [if_pos c1] at e2; exact e2
      · rw [if_neg c1] at e2
        by_cases c2 : sX12_bytesIs d fM LM = -1
        · rw [if_pos c2] at e2; exact e2
        · rw [if_neg c2] at e2; exact e2
    obtain ⟨a1, b1⟩ := Prod.mk.inj e1
    obtain ⟨a2, b2⟩ := Prod.mk.inj e2
    exact nil (by rw [a1, a2]) b1
  rw [if_neg q3] at e1
  rw [if_neg q3, if_neg q3] at e2
  have ck := bn_clI (x := k) (by omega)
  have cp := bn_clI q2.1
  rcases h.week hc hC q1 with ⟨a, b⟩ | ⟨a, b⟩ | ⟨b, W, N, f1, a, hN, hw, e, -⟩
  · rw [a] at e1; dsimp only at e1; rw [if_neg (by decide)] at e1
    rw [b, if_neg (by decide), if_neg (by decide)] at e2
    obtain ⟨a1, b1⟩ := Prod.mk.inj e1
    obtain ⟨a2, b2⟩ := Prod.mk.inj e2
    exact nil (by rw [a1, a2]) b1
  · rw [a] at e1; dsimp only at e1; rw [if_neg (by decide)] at e1
    rw [b, if_neg (by decide), if_neg (by decide)] at e2
    obtain ⟨a1, b1⟩ := Prod.mk.inj e1
    obtain ⟨a2, b2⟩ := Prod.mk.inj e2
    exact nil (by rw [a1, a2]) b1
  · obtain ⟨g1, p1, p2, p3, p4, p5, p6⟩ := hw.go hb.2 hm hq hN LX
    have hv : (f1 10 2).toInt = N := hw.2.2.2.2.2.2.2.2
    have hsh := hw.2.2.2.2.2.2.1
    rw [a] at e1; dsimp only at e1; rw [if_pos (by decide)] at e1
    rw [b, if_pos rfl, p1] at e2
    dsimp only at e2
    by_cases c : N < k.toNatClampNeg
    · rw [if_pos (by omega)] at e1
      rw [if_pos (by omega)] at e2
      obtain ⟨a1, b1⟩ := Prod.mk.inj e1
      obtain ⟨a2, b2⟩ := Prod.mk.inj e2
      exact ⟨by rw [a1, a2], by rw [b1, e 9 (by decide) (by decide) (by decide)]; exact hc.2.2.2⟩
    rw [if_neg (by omega), p6 k k.toNatClampNeg (by omega) (by omega)] at e1
    rw [if_neg (by omega)] at e2
    have hF9 := (p5 k.toNatClampNeg (by omega)).1.2.2.2
    obtain ⟨a1, b1⟩ := Prod.mk.inj e1
    by_cases z : k.toInt = 0
    · rw [if_pos z] at e2
      obtain ⟨a2, b2⟩ := Prod.mk.inj e2
      refine ⟨?_, by rw [b1]; exact hF9⟩
      have z0 : k.toNatClampNeg = 0 := by omega
      rw [a1, a2, z0, p3 5 _ (by decide) (by decide) (by decide) (Or.inl (by decide))]
      show sX4_begin f1 LX 14 p.toNatClampNeg = fM 5 p.toNatClampNeg
      rw [((xbg f1 LX).1 _ (by omega)).1]
      exact hw.2.2.1 _ (by omega)
    · rw [if_neg z] at e2
      obtain ⟨a2, b2⟩ := Prod.mk.inj e2
      refine ⟨?_, by rw [b1]; exact hF9⟩
      rw [a1, a2, idx3 (i := k.toNatClampNeg) (p := p.toNatClampNeg) (by omega) (by omega) (by omega) (by omega)]
      exact (p4 _ (by omega) (by omega) _ (by omega)).symm
