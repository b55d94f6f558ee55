/-! QUESTIONS about a week -/
/-- a week on both sides: what a question finds -/
def wS (m : Nat → Int32) (S : Int) (hl : Bool) (T : Nat → Int32) (n : Nat) (W : Nat → Int32) (N : Nat) (d : Int32) (LM : sg_L) (f g : sg_F) : Prop := xCx m S hl T n f ∧ mCx m hl T n g ∧ (∀ p : Nat, p < 3 → f 3 p = g 5 p) ∧ (∀ p : Nat, p < 3 → 0 ≤ (f 3 p).toInt ∧ (f 3 p).toInt ≤ 60) ∧ hF f g ∧ hWho W S N d g LM ∧ (sX12_shiftsOf d g LM).toInt = N ∧ (∀ i : Nat, i < N → f 11 i = W i) ∧ (f 10 2).toInt = N
theorem wS.go {m : Nat → Int32} {S : Int} {hl : Bool} {T : Nat → Int32} {n : Nat} {W : Nat → Int32} {N : Nat} {d : Int32} {LM : sg_L} {f g : sg_F} (h : wS m S hl T n W N d LM f g) (hS : S ≤ 8) (hm : mOk m) (hq : pOk m) (hN : N ≤ 21) (L : sg_L) : ∃ g1 : sg_F, sX12_weekOf d g LM = (g1 0 31 + g1 0 30, g1) ∧ wR m 0 0 0 (xSq W (sX4_begin f L) L N) g1 ∧ mH g g1 ∧ hHs W (sX4_begin f L) L N g1 ∧ (∀ j : Nat, j ≤ N → xCx m S hl T n (xSq W (sX4_begin f L) L j) ∧ xP f (xSq W (sX4_begin f L) L j) ∧ ∀ p : Nat, p < 3 → 0 ≤ (xSq W (sX4_begin f L) L j 14 p).toInt ∧ (xSq W (sX4_begin f L) L j 14 p).toInt ≤ 60) ∧ ∀ (x0 : Int32) (k : Nat), x0.toInt = k → k ≤ N → sX4_live x0 f L = xSq W (sX4_begin f L) L k := by
  obtain ⟨h1, h2, h3, h4, h5, h6, h7, h8, h9⟩ := h
  obtain ⟨g1, a1, a2, a3, a4, a5⟩ := wtwo (x0 := d) (W := W) (N := N) L LM hS hm hq hN h1 h2 h3 h4 h5 h6 h7
  refine ⟨g1, a1, a2, a3, a4, a5, fun x0 k e hk => xlive e (by omega) (fun j hj i hi => ?_)⟩
  rw [(a5 j (by omega)).2.1.1 11 (by decide) (by decide) (by decide) (by decide) (by decide) (by decide)]
  exact h8 i (by omega)
theorem wS.chg {m : Nat → Int32} {S : Int} {hl : Bool} {T : Nat → Int32} {n : Nat} {W : Nat → Int32} {N : Nat} {d : Int32} {LM : sg_L} {f g f1 g1 : sg_F} (h : wS m S hl T n W N d LM f g) (c : xCx m S hl T n f1) (a : ∀ q : Nat, q ≠ 8 → q ≠ 9 → q ≠ 13 → q ≠ 14 → q ≠ 15 → q ≠ 16 → f1 q = f q) (b : ∀ k j : Nat, k ≠ 8 → k ≠ 12 → k ≠ 13 → k ≠ 0 → g1 k j = g k j) (b6 : g1 0 6 = g 0 6) (b11 : g1 0 11 = g 0 11) (hf : hF f1 g1) : wS m S hl T n W N d LM f1 g1 := by
  obtain ⟨h1, h2, h3, h4, h5, h6, h7, h8, h9⟩ := h
  have a3 : f1 3 = f 3 := a 3 (by decide) (by decide) (by decide) (by decide) (by decide) (by decide)
  have a10 : f1 10 = f 10 := a 10 (by decide) (by decide) (by decide) (by decide) (by decide) (by decide)
  have a11 : f1 11 = f 11 := a 11 (by decide) (by decide) (by decide) (by decide) (by decide) (by decide)
  refine ⟨c, h2.fr (fun j => b 1 j (by decide) (by decide) (by decide) (by decide)) (fun j => b 7 j (by decide) (by decide) (by decide) (by decide)) b11, fun p hp => ?_, fun p hp => ?_, hf, h6.H b6 (fun j => b 11 j (by decide) (by decide) (by decide) (by decide)), ?_, fun i hi => ?_, ?_⟩
  · rw [a3, b 5 p (by decide) (by decide) (by decide) (by decide)]; exact h3 p hp
  · rw [a3]; exact h4 p hp
  · rw [shfM_fr (show g1 23 = g 23 from funext fun j => b 23 j (by decide) (by decide) (by decide) (by decide))]; exact h7
  · rw [a11]; exact h8 i hi
  · rw [a10]; exact h9
theorem wS.K {m : Nat → Int32} {S : Int} {hl : Bool} {T : Nat → Int32} {n : Nat} {W : Nat → Int32} {N : Nat} {d : Int32} {LM : sg_L} {f g f1 g1 : sg_F} (h : wS m S hl T n W N d LM f g) (c : xCx m S hl T n f1) (a : xP f f1) (b : mH g g1) : wS m S hl T n W N d LM f1 g1 := h.chg c a.1 (fun k j h8 h12 h13 h0 => b k j h8 h12 h13 (Or.inl h0)) (b 0 6 (by decide) (by decide) (by decide) (Or.inr (by decide))) (b 0 11 (by decide) (by decide) (by decide) (Or.inr (by decide))) (h.2.2.2.2.1.K a b)
/-- both worlds, as the questions find them -/
def rAll (fX fM : sg_F) (LX LM : sg_L) : Prop := rNum fX fM ∧ rShelf fX fM ∧ rEl fX LX LM ∧ rByte fX LX ∧ rSt fX fM ∧ rIdle fX fM ∧ sgI loX hiX fX
/-- a question about a row's week -/
theorem rAll.week {fX fM : sg_F} {LX LM : sg_L} {d : Int32} {hl : Bool} {T : Nat → Int32} {n : Nat} (h : rAll fX fM LX LM) (hc : xCx (fX 2) (fX 1 3).toInt hl T n fX) (hC : mCx (fX 2) hl T n fM) (hd : 0 ≤ d.toInt ∧ d.toInt ≤ 5) : (sX11_readWeek d fX LX = (-11, fX) ∧ sX12_bytesIs d fM LM = -11) ∨ (sX11_readWeek d fX LX = (-12, fX) ∧ sX12_bytesIs d fM LM = -12) ∨ (sX12_bytesIs d fM LM = 1 ∧ ∃ (W : Nat → Int32) (N : Nat) (f1 : sg_F), sX11_readWeek d fX LX = (0, f1) ∧ N ≤ 21 ∧ wS (fX 2) (fX 1 3).toInt hl T n W N d LM f1 fM ∧ (∀ q : Nat, q ≠ 10 → q ≠ 11 → q ≠ 12 → f1 q = fX q) ∧ xRd W N fX f1 ∧ (∀ i : Nat, W i = wh (fX 1 3).toInt (LX (41 + 2 * d.toNatClampNeg) i)) ∧ (fX (40 + 2 * d.toNatClampNeg) 1).toInt = 0 ∧ (fX (40 + 2 * d.toNatClampNeg) 2).toInt = (fM 23 d.toNatClampNeg).toInt ∧ N = nsh (fX (40 + 2 * d.toNatClampNeg) 2).toInt) := by
  obtain ⟨hn, hs, he, hy, hst, hid, hI⟩ := h
  rcases rweek (LM := LM) hn hs he hy hid hI hd (hI 36 2).2 with ⟨-, a, b⟩ | ⟨-, -, a, b⟩ | ⟨z, b, W, N, f1, a1, a2, a3, a4, a5, a6, a7, a8, a9⟩
  · exact Or.inl ⟨a, b⟩
  · exact Or.inr (Or.inl ⟨a, b⟩)
  · obtain ⟨x1, x2, x3, x4, x5, x6⟩ := a3
    have e : ∀ q : Nat, q ≠ 10 → q ≠ 11 → q ≠ 12 → f1 q = fX q := x5
    have hid1 : rIdle f1 fM := hid.fr (by rw [e 13 (by decide) (by decide) (by decide)]) (by rw [e 13 (by decide) (by decide) (by decide)]) rfl rfl rfl rfl (fun _ => rfl)
    refine Or.inr (Or.inr ⟨b, W, N, f1, a1, a2, ⟨hc.fr (e 1 (by decide) (by decide) (by decide)) (e 2 (by decide) (by decide) (by decide)) (e 4 (by decide) (by decide) (by decide)) (e 7 (by decide) (by decide) (by decide)) (e 9 (by decide) (by decide) (by decide)), hC, fun p hp => ?_, fun p hp => ?_, hid1.hF, a4, a5, x3, x1⟩, e, ⟨x1, x2, x3, x4, x5, x6⟩, a8, z, a7, a9⟩)
    · rw [e 3 (by decide) (by decide) (by decide)]; exact hst p hp
    · rw [e 3 (by decide) (by decide) (by decide)]; exact hI 3 p
theorem rLs.two {fX fM : sg_F} {P : Prop} (h : rLs fX fM) (hn : rNum fX fM) (k : ∀ (hl : Bool) (T : Nat → Int32) (n : Nat), mOk (fX 2) → pOk (fX 2) → xCx (fX 2) (fX 1 3).toInt hl T n fX → mCx (fX 2) hl T n fM → P) : P := by
  obtain ⟨hl, T, n, h, k1⟩ := h
  obtain ⟨x1, x2⟩ := h.cx k1 hn
  obtain ⟨o1, o2⟩ := k1.1.ok
  exact k hl T n o1 o2 x1 x2
theorem t_all (f : sg_F) (L : sg_L) : sX4_allTurns f L = 0 + f 15 0 + f 15 1 + f 15 2 := rfl
/-- week -/
theorem t_week {fX fX1 fM fM1 : sg_F} {LX LM : sg_L} {hl : Bool} {T : Nat → Int32} {n : Nat} {d k r1 r2 : Int32} (h : rAll fX fM LX LM) (hm : mOk (fX 2)) (hq : pOk (fX 2)) (hc : xCx (fX 2) (fX 1 3).toInt hl T n fX) (hC : mCx (fX 2) hl T n fM) (e1 : (r1, fX1) = sX11_week d k fX LX) (e2 : (r2, fM1) = sX12_week d k fM LM) : r1 = r2 ∧ xLo (fX 2) (fX 1 3).toInt hl T n (fX1 9) := by
  have hb : 0 ≤ (fX 1 3).toInt ∧ (fX 1 3).toInt ≤ 8 := h.2.2.2.2.2.2 1 3
  have hid := h.2.2.2.2.2.1
  have k0 : (0 : Int32).toInt = 0 := by decide
  have j0 : (0 : Int64).toInt = 0 := by decide
  have j2 : (2 : Int64).toInt = 2 := by decide
  have ek := Int32.toInt_toInt64 k
  have nil : r1 = r2 → fX1 = fX → r1 = r2 ∧ xLo (fX 2) (fX 1 3).toInt hl T n (fX1 9) := fun a b => ⟨a, by rw [b]; exact hc.2.2.2⟩
  unfold sX11_week at e1; (repeat first | rw [spl_d] at e1 | rw [spl2_d] at e1)
  unfold sX12_week at e2; (repeat first | rw [spl_d] at e2 | rw [spl2_d] at e2)
  rw [pX_isShelf] at e1
  rw [pM_within, j0, j2, ek] at e2
  by_cases q1 : 0 ≤ d.toInt ∧ d.toInt ≤ 5
  case neg =>
    rw [if_neg q1, if_neg zk0] at e1
    rw [mbytes, if_neg q1, if_neg (by decide), if_pos rfl] at e2
    obtain ⟨a1, b1⟩ := Prod.mk.inj e1
    obtain ⟨a2, b2⟩ := Prod.mk.inj e2
    exact nil (by rw [a1, a2]) b1
  rw [if_pos q1, if_pos rfl] at e1
  by_cases q2 : 0 ≤ k.toInt ∧ k.toInt ≤ 2
  case neg =>
    have e1 : (r1, fX1) = (-1, fX) := by
      by_cases c1 : k.toInt < 0
      · rw [if_pos c1] at e1; exact e1
      · rw [if_neg c1, if_pos (by omega)] at e1; exact e1
    have e2 : (r2, fM1) = (-1, fM) := by
      rw [if_neg q2, if_neg zk0, if_neg zk0] at e2
      by_cases c1 : sX12_bytesIs d fM LM = 1
      · rw [if_pos c1] at e2; exact e2
      · rw [if_neg c1] at e2
        by_cases c2 : sX12_bytesIs d fM LM = -1
        · rw [if_pos c2] at e2; exact e2
        · rw [if_neg c2] at e2; exact e2
    obtain ⟨a1, b1⟩ := Prod.mk.inj e1
    obtain ⟨a2, b2⟩ := Prod.mk.inj e2
    exact nil (by rw [a1, a2]) b1
  rw [if_neg (show ¬ k.toInt < 0 from by omega), if_neg (show ¬ 2 < k.toInt from by omega)] at e1
  rw [if_pos q2, if_pos rfl, if_pos rfl] at e2
  rcases h.week hc hC q1 with ⟨a, b⟩ | ⟨a, b⟩ | ⟨b, W, N, f1, a, hN, hw, e, -⟩
  · rw [a] at e1; dsimp only at e1; rw [if_neg (by decide)] at e1
    rw [b, if_neg (by decide), if_neg (by decide)] at e2
    obtain ⟨a1, b1⟩ := Prod.mk.inj e1
    obtain ⟨a2, b2⟩ := Prod.mk.inj e2
    exact nil (by rw [a1, a2]) b1
  · rw [a] at e1; dsimp only at e1; rw [if_neg (by decide)] at e1
    rw [b, if_neg (by decide), if_neg (by decide)] at e2
    obtain ⟨a1, b1⟩ := Prod.mk.inj e1
    obtain ⟨a2, b2⟩ := Prod.mk.inj e2
    exact nil (by rw [a1, a2]) b1
  · obtain ⟨g1, p1, p2, p3, p4, p5, p6⟩ := hw.go hb.2 hm hq hN LX
    rw [a] at e1; dsimp only at e1; rw [if_pos (by decide)] at e1
    rw [p6 (f1 10 2) N hw.2.2.2.2.2.2.2.2 (Nat.le_refl N)] at e1
    rw [b, if_pos rfl, p1] at e2
    dsimp only at e2
    obtain ⟨F, eF⟩ : ∃ z : sg_F, z = xSq W (sX4_begin f1 LX) LX N := ⟨_, rfl⟩
    have hF9 := (p5 N (Nat.le_refl N)).1.2.2.2
    rw [← eF] at e1 p2 hF9
    have g22 : g1 0 22 = 0 := (p3 0 22 (by decide) (by decide) (by decide) (Or.inr (by decide))).trans hid.2.2.2.1
    have g23 : g1 0 23 = 0 := (p3 0 23 (by decide) (by decide) (by decide) (Or.inr (by decide))).trans hid.2.2.2.2.1
    obtain ⟨c1, c2, c3⟩ := p2.cost g22 g23
    rw [t_all] at e1
    by_cases z0 : k.toInt = 0
    · rw [if_pos z0] at e1 e2
      obtain ⟨a1, b1⟩ := Prod.mk.inj e1
      obtain ⟨a2, b2⟩ := Prod.mk.inj e2
      exact ⟨by rw [a1, a2, ← c3, Int32.zero_add], by rw [b1]; exact hF9⟩
    rw [if_neg z0] at e1 e2
    by_cases z1 : k.toInt = 1
    · rw [if_pos z1] at e1 e2
      obtain ⟨a1, b1⟩ := Prod.mk.inj e1
      obtain ⟨a2, b2⟩ := Prod.mk.inj e2
      exact ⟨by rw [a1, a2, c2], by rw [b1]; exact hF9⟩
    rw [if_neg z1] at e1 e2
    obtain ⟨a1, b1⟩ := Prod.mk.inj e1
    obtain ⟨a2, b2⟩ := Prod.mk.inj e2
    exact ⟨by rw [a1, a2, c1], by rw [b1]; exact hF9⟩
/-- stands -/
theorem t_stands {fX fX1 fM fM1 : sg_F} {LX LM : sg_L} {hl : Bool} {T : Nat → Int32} {n : Nat} {d p k r1 r2 : Int32} (h : rAll fX fM LX LM) (hm : mOk (fX 2)) (hq : pOk (fX 2)) (hc : xCx (fX 2) (fX 1 3).toInt hl T n fX) (hC : mCx (fX 2) hl T n fM) (e1 : (r1, fX1) = sX11_stands d p k fX LX) (e2 : (r2, fM1) = sX12_stands d p k fM LM) : r1 = r2 ∧ xLo (fX 2) (fX 1 3).toInt hl T n (fX1 9) := by
  have hb : 0 ≤ (fX 1 3).toInt ∧ (fX 1 3).toInt ≤ 8 := h.2.2.2.2.2.2 1 3
  have k0 : (0 : Int32).toInt = 0 := by decide
  have nil : r1 = r2 → fX1 = fX → r1 = r2 ∧ xLo (fX 2) (fX 1 3).toInt hl T n (fX1 9) := fun a b => ⟨a, by rw [b]; exact hc.2.2.2⟩
  unfold sX11_stands at e1; (repeat first | rw [spl_d] at e1 | rw [spl2_d] at e1)
  unfold sX12_stands at e2; (repeat first | rw [spl_d] at e2 | rw [spl2_d] at e2)
  rw [pX_isShelf, pX_isPart] at e1
  rw [pM_isPart] at e2
  by_cases q1 : 0 ≤ d.toInt ∧ d.toInt ≤ 5
  case neg =>
    rw [if_neg q1, if_neg zk0] at e1
    rw [mbytes, if_neg q1, if_neg (by decide), if_pos rfl] at e2
    obtain ⟨a1, b1⟩ := Prod.mk.inj e1
    obtain ⟨a2, b2⟩ := Prod.mk.inj e2
    exact nil (by rw [a1, a2]) b1
  rw [if_pos q1, if_pos rfl] at e1
  by_cases q2 : 0 ≤ p.toInt ∧ p.toInt ≤ 2
  case neg =>
    rw [if_neg q2, if_neg zk0] at e1
    have e2 : (r2, fM1) = (-1, fM) := by
      rw [if_neg q2, if_neg zk0, if_neg zk0] at e2
      by_cases c1 : sX12_bytesIs d fM LM = 1
      · rw [if_pos c1] at e2; exact e2
      · rw [if_neg c1] at e2
        by_cases c2 : sX12_bytesIs d fM LM = -1
        · rw [if_pos c2] at e2; exact e2
        · rw [if_neg c2] at e2; exact e2
    obtain ⟨a1, b1⟩ := Prod.mk.inj e1
    obtain ⟨a2, b2⟩ := Prod.mk.inj e2
    exact nil (by rw [a1, a2]) b1
  rw [if_pos q2, if_pos rfl] at e1
  rw [if_pos q2, if_pos rfl, if_pos rfl] at e2
  by_cases q3 : k.toInt < 0
  · rw [if_pos q3] at e1
    have e2 : (r2, fM1) = (-1, fM) := by
      rw [if_pos q3, if_pos q3] at e2
      by_cases c1 : sX12_bytesIs d fM LM = 1
      · rw [if_pos c1] at e2; exact e2
      · rw [if_neg c1] at e2
        by_cases c2 : sX12_bytesIs d fM LM = -1
        · rw [if_pos c2] at e2; exact e2
        · rw [if_neg c2] at e2; exact e2
    obtain ⟨a1, b1⟩ := Prod.mk.inj e1
    obtain ⟨a2, b2⟩ := Prod.mk.inj e2
    exact nil (by rw [a1, a2]) b1
  rw [if_neg q3] at e1
  rw [if_neg q3, if_neg q3] at e2
  have ck := bn_clI (x := k) (by omega)
  have cp := bn_clI q2.1
  rcases h.week hc hC q1 with ⟨a, b⟩ | ⟨a, b⟩ | ⟨b, W, N, f1, a, hN, hw, e, -⟩
  · rw [a] at e1; dsimp only at e1; rw [if_neg (by decide)] at e1
    rw [b, if_neg (by decide), if_neg (by decide)] at e2
    obtain ⟨a1, b1⟩ := Prod.mk.inj e1
    obtain ⟨a2, b2⟩ := Prod.mk.inj e2
    exact nil (by rw [a1, a2]) b1
  · rw [a] at e1; dsimp only at e1; rw [if_neg (by decide)] at e1
    rw [b, if_neg (by decide), if_neg (by decide)] at e2
    obtain ⟨a1, b1⟩ := Prod.mk.inj e1
    obtain ⟨a2, b2⟩ := Prod.mk.inj e2
    exact nil (by rw [a1, a2]) b1
  · obtain ⟨g1, p1, p2, p3, p4, p5, p6⟩ := hw.go hb.2 hm hq hN LX
    have hv : (f1 10 2).toInt = N := hw.2.2.2.2.2.2.2.2
    have hsh := hw.2.2.2.2.2.2.1
    rw [a] at e1; dsimp only at e1; rw [if_pos (by decide)] at e1
    rw [b, if_pos rfl, p1] at e2
    dsimp only at e2
    by_cases c : N < k.toNatClampNeg
    · rw [if_pos (by omega)] at e1
      rw [if_pos (by omega)] at e2
      obtain ⟨a1, b1⟩ := Prod.mk.inj e1
      obtain ⟨a2, b2⟩ := Prod.mk.inj e2
      exact ⟨by rw [a1, a2], by rw [b1, e 9 (by decide) (by decide) (by decide)]; exact hc.2.2.2⟩
    rw [if_neg (by omega), p6 k k.toNatClampNeg (by omega) (by omega)] at e1
    rw [if_neg (by omega)] at e2
    have hF9 := (p5 k.toNatClampNeg (by omega)).1.2.2.2
    obtain ⟨a1, b1⟩ := Prod.mk.inj e1
    by_cases z : k.toInt = 0
    · rw [if_pos z] at e2
      obtain ⟨a2, b2⟩ := Prod.mk.inj e2
      refine ⟨?_, by rw [b1]; exact hF9⟩
      have z0 : k.toNatClampNeg = 0 := by omega
      rw [a1, a2, z0, p3 5 _ (by decide) (by decide) (by decide) (Or.inl (by decide))]
      show sX4_begin f1 LX 14 p.toNatClampNeg = fM 5 p.toNatClampNeg
      rw [((xbg f1 LX).1 _ (by omega)).1]
      exact hw.2.2.1 _ (by omega)
    · rw [if_neg z] at e2
      obtain ⟨a2, b2⟩ := Prod.mk.inj e2
      refine ⟨?_, by rw [b1]; exact hF9⟩
      rw [a1, a2, idx3 (i := k.toNatClampNeg) (p := p.toNatClampNeg) (by omega) (by omega) (by omega) (by omega)]
      exact (p4 _ (by omega) (by omega) _ (by omega)).symm
/-! MORE QUESTIONS about a week -/
theorem ad_le {x y : Int32} {K b : Int} (hx : 0 ≤ x.toInt ∧ x.toInt ≤ K) (hy : 0 ≤ y.toInt ∧ y.toInt ≤ b) (h : K + b ≤ 2147483647) : 0 ≤ (x + y).toInt ∧ (x + y).toInt ≤ K + b := by
  have e : (x + y).toInt = x.toInt + y.toInt := bn_addI (by omega) (by omega)
  omega
theorem lsv_b {m : Nat → Int32} {hl : Bool} {T : Nat → Int32} {n : Nat} {s p v : Int32} : 0 ≤ (lsv m hl T n s p v).toInt ∧ (lsv m hl T n s p v).toInt ≤ 9999 := by
  unfold lsv
  obtain ⟨x, ex⟩ : ∃ z : Int32, z = lsr m hl T n s.toNatClampNeg p.toNatClampNeg p v := ⟨_, rfl⟩
  rw [← ex]
  unfold lcl
  by_cases c : x.toInt < 0
  · rw [if_pos c]; decide
  rw [if_neg c]
  by_cases d : 9999 < x.toInt
  · rw [if_pos d]; decide
  · rw [if_neg d]; omega
/-- a shift costs so much at most -/
theorem xpassB {m : Nat → Int32} {S : Int} {hl : Bool} {T : Nat → Int32} {n : Nat} {w : Int32} {f : sg_F} {K : Int} (hc : xCx m S hl T n f) (hS : S ≤ 8) (hm : mOk m) (hq : pOk m) (hv : ∀ p : Nat, p < 3 → 0 ≤ (f 14 p).toInt ∧ (f 14 p).toInt ≤ 60) (hw : w.toInt = -1 ∨ (0 ≤ w.toInt ∧ w.toInt < S)) (h10 : 0 ≤ (f 13 9).toInt → 0 ≤ (f 13 10).toInt ∧ (f 13 10).toInt ≤ 60) (B : 0 ≤ (f 13 6).toInt ∧ (f 13 6).toInt ≤ K) (hK : K ≤ 2000000000) (L : sg_L) : 0 ≤ (sX4_pass w f L 13 6).toInt ∧ (sX4_pass w f L 13 6).toInt ≤ K + 70000 := by
  have pr : ∀ (a : Int32) (p : Nat), p < 3 → (0 ≤ a.toInt ∧ a.toInt ≤ 60) → 0 ≤ (a * m (67 + p)).toInt ∧ (a * m (67 + p)).toInt ≤ 5940 := fun a p hp ha => by
    obtain ⟨-, z1, z2⟩ := mul_le (x := 60) (y := 99) ha (hq (67 + p) (by omega) (by omega)) (by decide)
    exact ⟨z1, by omega⟩
  have slip : ∀ (g : sg_F), g 2 = m → sX4_slip g L 13 = g 13 := fun g e => (xsl e L).1 13 (by decide)
  rcases hw with hw | hw
  · have ep : sX4_pass w f L = sX4_slip f L := by
      unfold sX4_pass sX4_pass_b22; (repeat first | rw [spl_d] | rw [spl2_d])
      rw [if_pos hw]
    rw [ep, slip f hc.1]; omega
  obtain ⟨c1, c2⟩ := xcm (s := w) hc hS hm hw hv L
  obtain ⟨f1, ef⟩ : ∃ z : sg_F, z = sX4_comes w f L := ⟨_, rfl⟩
  rw [← ef] at c1 c2
  obtain ⟨nr, en⟩ : ∃ z : Int32, z = (if w.toInt = (f 13 7).toInt then f 13 8 else m (8 * w.toNatClampNeg + 6)) := ⟨_, rfl⟩
  rw [← en] at c2
  obtain ⟨y1, y2, y3, y4, y5, y6⟩ := c2
  have cs := bn_clI hw.1
  have bw := (hm w.toNatClampNeg (by omega)).1
  have tb : ∀ p : Nat, p < 3 → 0 ≤ (tvn nr (m (8 * w.toNatClampNeg + p)) (f 14 p)).toInt ∧ (tvn nr (m (8 * w.toNatClampNeg + p)) (f 14 p)).toInt ≤ 60 := fun p hp => tvn_b (bw p hp) (hv p hp)
  have ab1 : ∀ p : Nat, p < 3 → 0 ≤ (ab (tvn nr (m (8 * w.toNatClampNeg + p)) (f 14 p) - f 14 p)).toInt ∧ (ab (tvn nr (m (8 * w.toNatClampNeg + p)) (f 14 p) - f 14 p)).toInt ≤ 60 := fun p hp => by
    have := ab_le (tb p hp) (hv p hp)
    exact ⟨this.2.1, this.2.2.1⟩
  have r1 := ad_le (b := 5940) B (pr _ 0 (by decide) (ab1 0 (by decide))) (by omega)
  have r2 := ad_le r1 (lsv_b (m := m) (hl := hl) (T := T) (n := n) (s := w) (p := 0) (v := tvn nr (m (8 * w.toNatClampNeg + 0)) (f 14 0))) (by omega)
  have r3 := ad_le r2 (pr _ 1 (by decide) (ab1 1 (by decide))) (by omega)
  have r4 := ad_le r3 (lsv_b (m := m) (hl := hl) (T := T) (n := n) (s := w) (p := 1) (v := tvn nr (m (8 * w.toNatClampNeg + 1)) (f 14 1))) (by omega)
  have r5 := ad_le r4 (pr _ 2 (by decide) (ab1 2 (by decide))) (by omega)
  have r6 := ad_le r5 (lsv_b (m := m) (hl := hl) (T := T) (n := n) (s := w) (p := 2) (v := tvn nr (m (8 * w.toNatClampNeg + 2)) (f 14 2))) (by omega)
  rw [← y6] at r6
  have ep : sX4_pass w f L = sX4_slip (if w.toInt = (f1 13 9).toInt then sX4_leaves f1 L else f1) L := by
    unfold sX4_pass sX4_pass_b22; (repeat first | rw [spl_d] | rw [spl2_d])
    rw [if_neg (show ¬ w.toInt = -1 from by omega), ← ef]
    by_cases z : w.toInt = (f1 13 9).toInt
    · rw [if_pos z, if_pos z]
    · rw [if_neg z, if_neg z]
  rw [ep]
  by_cases z : w.toInt = (f1 13 9).toInt
  case neg => rw [if_neg z, slip f1 c1.1]; omega
  rw [if_pos z]
  obtain ⟨x1, x2, x3, x4⟩ := xle (m := m) (f := f1) c1.1 L
  rw [slip _ (by rw [x1 2 (by decide) (by decide) (by decide)]; exact c1.1)]
  have e10 : f1 13 10 = f 13 10 := y2 10 (by decide) (by decide)
  have e9 : f1 13 9 = f 13 9 := y2 9 (by decide) (by decide)
  have b10 := h10 (by rw [← e9]; omega)
  rw [← e10] at b10
  have b14 : ∀ p : Nat, p < 3 → 0 ≤ (f1 14 p).toInt ∧ (f1 14 p).toInt ≤ 60 := fun p hp => by rw [(y3 p hp).1]; exact tb p hp
  have ab2 : ∀ p : Nat, p < 3 → 0 ≤ (ab (f1 13 10 - f1 14 p)).toInt ∧ (ab (f1 13 10 - f1 14 p)).toInt ≤ 60 := fun p hp => by
    have := ab_le b10 (b14 p hp)
    exact ⟨this.2.1, this.2.2.1⟩
  have s1 := ad_le r6 (pr _ 0 (by decide) (ab2 0 (by decide))) (by omega)
  have s2 := ad_le s1 (pr _ 1 (by decide) (ab2 1 (by decide))) (by omega)
  have s3 := ad_le s2 (pr _ 2 (by decide) (ab2 2 (by decide))) (by omega)
  rw [← x4] at s3
  omega
/-- what a week costs is never below 0 -/
theorem xSqB {m : Nat → Int32} {S : Int} {hl : Bool} {T : Nat → Int32} {n : Nat} {W : Nat → Int32} {N : Nat} {f0 f : sg_F} {L : sg_L} (hS : S ≤ 8) (hm : mOk m) (hq : pOk m) (hN : N ≤ 21) (hW : ∀ i : Nat, i < N → (W i).toInt = -1 ∨ (0 ≤ (W i).toInt ∧ (W i).toInt < S)) (h10 : 0 ≤ (f0 13 9).toInt → 0 ≤ (f0 13 10).toInt ∧ (f0 13 10).toInt ≤ 60) (z : f 13 6 = 0) (h : ∀ j : Nat, j ≤ N → xCx m S hl T n (xSq W f L j) ∧ xP f0 (xSq W f L j) ∧ ∀ p : Nat, p < 3 → 0 ≤ (xSq W f L j 14 p).toInt ∧ (xSq W f L j 14 p).toInt ≤ 60) : ∀ j : Nat, j ≤ N → 0 ≤ (xSq W f L j 13 6).toInt ∧ (xSq W f L j 13 6).toInt ≤ 70000 * (j : Int) := by
  intro j
  induction j with
  | zero =>
    intro _
    show 0 ≤ (f 13 6).toInt ∧ (f 13 6).toInt ≤ 70000 * ((0 : Nat) : Int)
    rw [z]; decide
  | succ j ih =>
    intro hj
    obtain ⟨u1, u2, u3⟩ := h j (by omega)
    have := xpassB (w := W j) u1 hS hm hq u3 (hW j (by omega)) (by rw [u2.2 9 (by decide) (by decide), u2.2 10 (by decide) (by decide)]; exact h10) (ih (by omega)) (by omega) L
    show 0 ≤ (sX4_pass (W j) (xSq W f L j) L 13 6).toInt ∧ (sX4_pass (W j) (xSq W f L j) L 13 6).toInt ≤ 70000 * ((j + 1 : Nat) : Int)
    omega
theorem hWho.W {W : Nat → Int32} {S : Int} {N : Nat} {x0 : Int32} {g : sg_F} {LM : sg_L} (h : hWho W S N x0 g LM) (hN : N ≤ 21) : ∀ i : Nat, i < N → (W i).toInt = -1 ∨ (0 ≤ (W i).toInt ∧ (W i).toInt < S) := by
  intro i hi
  have e : (Int32.ofNat i).toInt = i := nI_toInt (n := i) (by omega)
  rcases h (Int32.ofNat i) i e hi with ⟨a, -⟩ | ⟨a, b, -⟩
  · exact Or.inl a
  · exact Or.inr ⟨a, b⟩
/-- marked -/
theorem svl {m : Nat → Int32} {F : sg_F} {L : sg_L} (h2 : F 2 = m) : sX4_savedByMarks_l15 4 0 0 F L = (0 + F 15 0 * (m (67 + 0) - m (67 + 0) / 2) + F 15 1 * (m (67 + 1) - m (67 + 1) / 2) + F 15 2 * (m (67 + 2) - m (67 + 2) / 2), F) := by
  have a1 : (0 : Int32) + 1 = 1 := by decide
  have a2 : (1 : Int32) + 1 = 2 := by decide
  have a3 : (2 : Int32) + 1 = 3 := by decide
  have st : ∀ (k p : Nat) (y z : Int32), z.toInt = p → p < 3 → sX4_savedByMarks_l15 (k + 1) y z F L = sX4_savedByMarks_l15 k (y + F 15 p * (m (67 + p) - m (67 + p) / 2)) (z + 1) F L := by
    intro k p y z ez hp
    have ep := msl1 ez hp
    have e9 : sX4_savedByMarks_l15 (k + 1) y z F L = sX4_savedByMarks_h15 (sX4_savedByMarks_l15 k) y z F L := rfl
    rw [e9]
    unfold sX4_savedByMarks_h15 sX0_priceOf; (repeat first | rw [spl_d] | rw [spl2_d])
    rw [if_pos (show z.toInt < 3 from by omega), adI (k := 67) (by decide) (by omega) ez (by omega), ep, h2]
  have e4 : ∀ y : Int32, sX4_savedByMarks_l15 1 y 3 F L = (y, F) := fun y => by
    show sX4_savedByMarks_h15 (sX4_savedByMarks_l15 0) y 3 F L = (y, F)
    unfold sX4_savedByMarks_h15; (repeat first | rw [spl_d] | rw [spl2_d])
    rw [if_neg (by decide)]
  rw [st 3 0 0 0 (by decide) (by decide), a1, st 2 1 _ 1 (by decide) (by decide), a2, st 1 2 _ 2 (by decide) (by decide), a3, e4]
theorem rgm (a0 a1 a2 q0 q1 q2 h0 h1 h2 z : Int32) : (a0 * q0 + a1 * q1 + a2 * q2 + z) - (a0 * h0 + a1 * h1 + a2 * h2 + z) = 0 + a0 * (q0 - h0) + a1 * (q1 - h1) + a2 * (q2 - h2) := by grind
theorem t_marked {fX fX1 fM fM1 : sg_F} {LX LM : sg_L} {hl : Bool} {T : Nat → Int32} {n : Nat} {d r1 r2 : Int32} (h : rAll fX fM LX LM) (hm : mOk (fX 2)) (hq : pOk (fX 2)) (hc : xCx (fX 2) (fX 1 3).toInt hl T n fX) (hC : mCx (fX 2) hl T n fM) (e1 : (r1, fX1) = sX11_marked d fX LX) (e2 : (r2, fM1) = sX12_marked d fM LM) : r1 = r2 ∧ xLo (fX 2) (fX 1 3).toInt hl T n (fX1 9) ∧ rIdle fX1 fM1 := by
  have hb : 0 ≤ (fX 1 3).toInt ∧ (fX 1 3).toInt ≤ 8 := h.2.2.2.2.2.2 1 3
  have hid := h.2.2.2.2.2.1
  have nil : r1 = r2 → fX1 = fX → fM1 = fM → r1 = r2 ∧ xLo (fX 2) (fX 1 3).toInt hl T n (fX1 9) ∧ rIdle fX1 fM1 := fun a b c => ⟨a, by rw [b]; exact hc.2.2.2, by rw [b, c]; exact hid⟩
  unfold sX11_marked at e1; (repeat first | rw [spl_d] at e1 | rw [spl2_d] at e1)
  unfold sX12_marked at e2; (repeat first | rw [spl_d] at e2 | rw [spl2_d] at e2)
  rw [pX_isShelf] at e1
  by_cases q1 : 0 ≤ d.toInt ∧ d.toInt ≤ 5
  case neg =>
    rw [if_neg q1, if_neg zk0] at e1
    rw [mbytes, if_neg q1, if_neg (by decide), if_pos rfl] at e2
    obtain ⟨a1, b1⟩ := Prod.mk.inj e1
    obtain ⟨a2, b2⟩ := Prod.mk.inj e2
    exact nil (by rw [a1, a2]) b1 b2
  rw [if_pos q1, if_pos rfl] at e1
  rcases h.week hc hC q1 with ⟨a, b⟩ | ⟨a, b⟩ | ⟨b, W, N, f1, a, hN, hw, e, -⟩
  · rw [a] at e1; dsimp only at e1; rw [if_neg (by decide)] at e1
    rw [b, if_neg (by decide), if_neg (by decide)] at e2
    obtain ⟨a1, b1⟩ := Prod.mk.inj e1
    obtain ⟨a2, b2⟩ := Prod.mk.inj e2
    exact nil (by rw [a1, a2]) b1 b2
  · rw [a] at e1; dsimp only at e1; rw [if_neg (by decide)] at e1
    rw [b, if_neg (by decide), if_neg (by decide)] at e2
    obtain ⟨a1, b1⟩ := Prod.mk.inj e1
    obtain ⟨a2, b2⟩ := Prod.mk.inj e2
    exact nil (by rw [a1, a2]) b1 b2
  · obtain ⟨g1, p1, p2, p3, p4, p5, p6⟩ := hw.go hb.2 hm hq hN LX
    obtain ⟨i1, i2, i3, i4, i5, i6, i7⟩ := hid
    have e13 : f1 13 = fX 13 := e 13 (by decide) (by decide) (by decide)
    rw [a] at e1; dsimp only at e1; rw [if_pos (by decide)] at e1
    unfold sX4_savedByMarks at e1; (repeat first | rw [spl_d] at e1 | rw [spl2_d] at e1)
    rw [p6 (f1 10 2) N hw.2.2.2.2.2.2.2.2 (Nat.le_refl N)] at e1
    rw [b, if_pos rfl, p1] at e2
    dsimp only at e2
    obtain ⟨ga, ega⟩ : ∃ z : sg_F, z = sg_up g1 0 (sgu (g1 0) 23 1) := ⟨_, rfl⟩
    rw [← ega] at e2
    have ha : ∀ k j : Nat, k ≠ 8 → k ≠ 12 → k ≠ 13 → k ≠ 0 → ga k j = fM k j := fun k j k8 k12 k13 k0 => by rw [ega, sg_up_n k0]; exact p3 k j k8 k12 k13 (Or.inl k0)
    have ha0 : ∀ j : Nat, j ≠ 23 → (j ≠ 12 ∧ j ≠ 13 ∧ j ≠ 14 ∧ j ≠ 15 ∧ j ≠ 16 ∧ j ≠ 29 ∧ j ≠ 30 ∧ j ≠ 31) → ga 0 j = fM 0 j := fun j h23 hj => by rw [ega, sg_up_s, sgu_n h23]; exact p3 0 j (by decide) (by decide) (by decide) (Or.inr hj)
    have a23 : ga 0 23 = 1 := by rw [ega, sg_up_s, sgu_s]
    have hwa : wS (fX 2) (fX 1 3).toInt hl T n W N d LM f1 ga := by
      refine hw.chg hw.1 (fun _ _ _ _ _ _ _ => rfl) ha (ha0 6 (by decide) (by decide)) (ha0 11 (by decide) (by decide)) ⟨?_, fun z => ?_, ?_, fun z => ?_, fun s z => ?_⟩
      · rw [e13, i1, ha0 20 (by decide) (by decide), i3]
      · rw [e13, i1] at z; exact absurd z (by decide)
      · rw [e13, i2, ha0 24 (by decide) (by decide), i6]
      · rw [e13, i2] at z; exact absurd z (by decide)
      · rw [ha0 22 (by decide) (by decide), i4, bt_0] at z; exact absurd z Bool.false_ne_true
    obtain ⟨g2, s1, s2, s3, s4, s5, s6⟩ := hwa.go hb.2 hm hq hN LX
    rw [s1] at e2
    dsimp only at e2
    obtain ⟨F, eF⟩ : ∃ z : sg_F, z = xSq W (sX4_begin f1 LX) LX N := ⟨_, rfl⟩
    have hF := p5 N (Nat.le_refl N)
    rw [← eF] at e1 p2 s2 hF
    rw [svl hF.1.1] at e1
    dsimp only at e1
    obtain ⟨a1, b1⟩ := Prod.mk.inj e1
    obtain ⟨a2, b2⟩ := Prod.mk.inj e2
    have g22 : g1 0 22 = 0 := (p3 0 22 (by decide) (by decide) (by decide) (Or.inr (by decide))).trans i4
    have g23 : g1 0 23 = 0 := (p3 0 23 (by decide) (by decide) (by decide) (Or.inr (by decide))).trans i5
    have k22 : g2 0 22 = 0 := (s3 0 22 (by decide) (by decide) (by decide) (Or.inr (by decide))).trans ((ha0 22 (by decide) (by decide)).trans i4)
    have k23 : g2 0 23 = 1 := (s3 0 23 (by decide) (by decide) (by decide) (Or.inr (by decide))).trans a23
    obtain ⟨c1, c2, c3, c4, c5, c6⟩ := p2
    obtain ⟨d1, d2, d3, d4, d5, d6⟩ := s2
    rw [g22, spN_k0, Int32.add_zero, Int32.add_zero] at c5
    rw [k22, spN_k0, Int32.add_zero, Int32.add_zero] at d5
    rw [Int32.add_zero] at c4 d4
    have q0 : ∀ p : Nat, mpr (fX 2) g1 p = fX 2 (67 + p) := fun p => by unfold mpr; rw [g23, if_pos (by decide)]
    have q9 : ∀ p : Nat, mpr (fX 2) g2 p = fX 2 (67 + p) / 2 := fun p => by unfold mpr; rw [k23, if_neg (by decide)]
    rw [q0, q0, q0] at c5
    rw [q9, q9, q9] at d5
    refine ⟨?_, by rw [b1]; exact hF.1.2.2.2, ?_⟩
    · rw [a1, a2, c5, d5, c4, d4, rgm]
    · have x7 : F 13 7 = -1 := by rw [hF.2.1.2 7 (by decide) (by decide), e13]; exact i1
      have x9 : F 13 9 = -1 := by rw [hF.2.1.2 9 (by decide) (by decide), e13]; exact i2
      have y0 : ∀ j : Nat, j ≠ 23 → (j ≠ 12 ∧ j ≠ 13 ∧ j ≠ 14 ∧ j ≠ 15 ∧ j ≠ 16 ∧ j ≠ 29 ∧ j ≠ 30 ∧ j ≠ 31) → fM1 0 j = fM 0 j := fun j h23 hj => by
        rw [b2, sg_up_s, sgu_n h23, s3 0 j (by decide) (by decide) (by decide) (Or.inr hj)]; exact ha0 j h23 hj
      refine ⟨by rw [b1]; exact x7, by rw [b1]; exact x9, by rw [y0 20 (by decide) (by decide)]; exact i3, by rw [y0 22 (by decide) (by decide)]; exact i4, by rw [b2, sg_up_s, sgu_s], by rw [y0 24 (by decide) (by decide)]; exact i6, fun j => ?_⟩
      rw [b2, sg_up_n (by decide), s3 11 j (by decide) (by decide) (by decide) (Or.inl (by decide)), ha 11 j (by decide) (by decide) (by decide) (by decide)]
      exact i7 j
theorem has_X (x : Int32) (f : sg_F) (L : sg_L) : sX0_has x f L = if 0 ≤ x.toInt ∧ x.toInt < (f 1 3).toInt then 1 else 0 := by
  unfold sX0_has; (repeat first | rw [spl_d] | rw [spl2_d])
  by_cases c : x.toInt < 0
  · rw [if_pos c, if_neg (show ¬ (0 ≤ x.toInt ∧ x.toInt < (f 1 3).toInt) from by omega)]
  rw [if_neg c]
  by_cases e : x.toInt < (f 1 3).toInt
  · rw [if_pos e, if_pos (show 0 ≤ x.toInt ∧ x.toInt < (f 1 3).toInt from by omega)]
  · rw [if_neg e, if_neg (show ¬ (0 ≤ x.toInt ∧ x.toInt < (f 1 3).toInt) from by omega)]
/-- wilful -/
theorem t_wilful {fX fX1 fM fM1 : sg_F} {LX LM : sg_L} {hl : Bool} {T : Nat → Int32} {n : Nat} {d s v r1 r2 : Int32} (h : rAll fX fM LX LM) (hm : mOk (fX 2)) (hq : pOk (fX 2)) (hc : xCx (fX 2) (fX 1 3).toInt hl T n fX) (hC : mCx (fX 2) hl T n fM) (e1 : (r1, fX1) = sX11_wilful d s v fX LX) (e2 : (r2, fM1) = sX12_wilful d s v fM LM) : r1 = r2 ∧ xLo (fX 2) (fX 1 3).toInt hl T n (fX1 9) ∧ rIdle fX1 fM1 := by
  have hb : 0 ≤ (fX 1 3).toInt ∧ (fX 1 3).toInt ≤ 8 := h.2.2.2.2.2.2 1 3
  have hid := h.2.2.2.2.2.1
  have e13 : (fX 1 3).toInt = (fM 0 6).toInt := h.1.1
  have es := Int32.toInt_toInt64 s
  have ev := Int32.toInt_toInt64 v
  have nil : r1 = r2 → fX1 = fX → fM1 = fM → r1 = r2 ∧ xLo (fX 2) (fX 1 3).toInt hl T n (fX1 9) ∧ rIdle fX1 fM1 := fun a b c => ⟨a, by rw [b]; exact hc.2.2.2, by rw [b, c]; exact hid⟩
  unfold sX11_wilful at e1; (repeat first | rw [spl_d] at e1 | rw [spl2_d] at e1)
  unfold sX12_wilful at e2; (repeat first | rw [spl_d] at e2 | rw [spl2_d] at e2)
  rw [pX_isShelf, has_X, pX_isSetting] at e1
  rw [pM_isSitter _ _ _ (by omega), pM_isSetting, es, ev, ← e13] at e2
  have e2n : sX12_bytesIs d fM LM ≠ 1 → (r2, fM1) = (-2000000000, fM) := fun z => by
    rw [if_neg z] at e2
    by_cases y : sX12_bytesIs d fM LM = -1
    · rw [if_pos y] at e2; exact e2
    · rw [if_neg y] at e2; exact e2
  have no : (r1, fX1) = (-2000000000, fX) → (r2, fM1) = (-2000000000, fM) → r1 = r2 ∧ xLo (fX 2) (fX 1 3).toInt hl T n (fX1 9) ∧ rIdle fX1 fM1 := fun e1 e2 => by
    obtain ⟨a1, b1⟩ := Prod.mk.inj e1
    obtain ⟨a2, b2⟩ := Prod.mk.inj e2
    exact nil (by rw [a1, a2]) b1 b2
  by_cases q1 : 0 ≤ d.toInt ∧ d.toInt ≤ 5
  case neg =>
    rw [if_neg q1, if_neg zk0] at e1
    exact no e1 (e2n (by rw [mbytes, if_neg q1]; decide))
  rw [if_pos q1, if_pos rfl] at e1
  by_cases q2 : 0 ≤ s.toInt ∧ s.toInt < (fX 1 3).toInt
  case neg =>
    rw [if_neg q2, if_neg zk0] at e1
    refine no e1 ?_
    by_cases y : sX12_bytesIs d fM LM = 1
    · rw [if_pos y, if_neg q2, if_neg zk0] at e2; exact e2
    · exact e2n y
  rw [if_pos q2, if_pos rfl] at e1
  rw [if_pos q2, if_pos rfl] at e2
  by_cases q3 : 0 ≤ v.toInt ∧ v.toInt ≤ 60
  case neg =>
    rw [if_neg q3, if_neg zk0] at e1
    refine no e1 ?_
    by_cases y : sX12_bytesIs d fM LM = 1
    · rw [if_pos y, if_neg q3, if_neg zk0] at e2; exact e2
    · exact e2n y
  rw [if_pos q3, if_pos rfl] at e1
  rw [if_pos q3, if_pos rfl] at e2
  rcases h.week hc hC q1 with ⟨a, b⟩ | ⟨a, b⟩ | ⟨b, W, N, f1, a, hN, hw, e, -⟩
  · rw [a] at e1; dsimp only at e1; rw [if_neg (by decide)] at e1
    exact no e1 (e2n (by rw [b]; decide))
  · rw [a] at e1; dsimp only at e1; rw [if_neg (by decide)] at e1
    exact no e1 (e2n (by rw [b]; decide))
  · obtain ⟨g1, p1, p2, p3, p4, p5, p6⟩ := hw.go hb.2 hm hq hN LX
    obtain ⟨i1, i2, i3, i4, i5, i6, i7⟩ := hid
    have hv : (f1 10 2).toInt = N := hw.2.2.2.2.2.2.2.2
    have e13' : f1 13 = fX 13 := e 13 (by decide) (by decide) (by decide)
    rw [a] at e1; dsimp only at e1; rw [if_pos (by decide)] at e1
    unfold sX4_moreByWilful at e1; (repeat first | rw [spl_d] at e1 | rw [spl2_d] at e1)
    rw [p6 (f1 10 2) N hv (Nat.le_refl N)] at e1
    rw [b, if_pos rfl, p1] at e2
    dsimp only at e2
    obtain ⟨F, eF⟩ : ∃ z : sg_F, z = xSq W (sX4_begin f1 LX) LX N := ⟨_, rfl⟩
    have hF := p5 N (Nat.le_refl N)
    rw [← eF] at e1 p2 hF
    obtain ⟨ga, ega⟩ : ∃ z : sg_F, z = sg_up (sg_up g1 0 (sgu (g1 0) 24 s)) 0 (sgu (sg_up g1 0 (sgu (g1 0) 24 s) 0) 25 v) := ⟨_, rfl⟩
    obtain ⟨fa, efa⟩ : ∃ z : sg_F, z = sg_up (sg_up F 13 (sgu (F 13) 9 s)) 13 (sgu (sg_up F 13 (sgu (F 13) 9 s) 13) 10 v) := ⟨_, rfl⟩
    rw [← ega] at e2
    rw [← efa] at e1
    have ha : ∀ k j : Nat, k ≠ 8 → k ≠ 12 → k ≠ 13 → k ≠ 0 → ga k j = fM k j := fun k j k8 k12 k13 k0 => by rw [ega, sg_up_n k0, sg_up_n k0]; exact p3 k j k8 k12 k13 (Or.inl k0)
    have ha0 : ∀ j : Nat, j ≠ 24 → j ≠ 25 → (j ≠ 12 ∧ j ≠ 13 ∧ j ≠ 14 ∧ j ≠ 15 ∧ j ≠ 16 ∧ j ≠ 29 ∧ j ≠ 30 ∧ j ≠ 31) → ga 0 j = fM 0 j := fun j h24 h25 hj => by rw [ega, sg_up_s, sgu_n h25, sg_up_s, sgu_n h24]; exact p3 0 j (by decide) (by decide) (by decide) (Or.inr hj)
    have a24 : ga 0 24 = s := by rw [ega, sg_up_s, sgu_n (by decide), sg_up_s, sgu_s]
    have a25 : ga 0 25 = v := by rw [ega, sg_up_s, sgu_s]
    have x9 : fa 13 9 = s := by rw [efa, sg_up_s, sgu_n (by decide), sg_up_s, sgu_s]
    have x10 : fa 13 10 = v := by rw [efa, sg_up_s, sgu_s]
    have xq : ∀ q : Nat, q ≠ 13 → fa q = F q := fun q hq => by rw [efa, sg_up_n hq, sg_up_n hq]
    have x7 : fa 13 7 = -1 := by rw [efa, sg_up_s, sgu_n (by decide), sg_up_s, sgu_n (by decide), hF.2.1.2 7 (by decide) (by decide), e13']; exact i1
    have hwa : wS (fX 2) (fX 1 3).toInt hl T n W N d LM fa ga := by
      refine hw.chg (hF.1.fr (xq 1 (by decide)) (xq 2 (by decide)) (xq 4 (by decide)) (xq 7 (by decide)) (xq 9 (by decide))) (fun q b8 b9 b13 b14 b15 b16 => by rw [xq q b13]; exact hF.2.1.1 q b8 b9 b13 b14 b15 b16) ha (ha0 6 (by decide) (by decide) (by decide)) (ha0 11 (by decide) (by decide) (by decide)) ⟨?_, fun z => ?_, by rw [x9, a24], fun z => ⟨by rw [x10, a25], by rw [a25]; exact q3.1, by rw [a25]; exact q3.2⟩, fun t z => ?_⟩
      · rw [x7, ha0 20 (by decide) (by decide) (by decide), i3]
      · rw [x7] at z; exact absurd z (by decide)
      · rw [ha0 22 (by decide) (by decide) (by decide), i4, bt_0] at z; exact absurd z Bool.false_ne_true
    obtain ⟨g2, s1, s2, s3, s4, s5, s6⟩ := hwa.go hb.2 hm hq hN LX
    rw [s6 (f1 10 2) N hv (Nat.le_refl N)] at e1
    rw [s1] at e2
    dsimp only at e2
    obtain ⟨G, eG⟩ : ∃ z : sg_F, z = xSq W (sX4_begin fa LX) LX N := ⟨_, rfl⟩
    have hG := s5 N (Nat.le_refl N)
    rw [← eG] at e1 s2 hG
    dsimp only at e1
    obtain ⟨a1, b1⟩ := Prod.mk.inj e1
    obtain ⟨a2, b2⟩ := Prod.mk.inj e2
    have g22 : g1 0 22 = 0 := (p3 0 22 (by decide) (by decide) (by decide) (Or.inr (by decide))).trans i4
    have g23 : g1 0 23 = 0 := (p3 0 23 (by decide) (by decide) (by decide) (Or.inr (by decide))).trans i5
    have k22 : g2 0 22 = 0 := (s3 0 22 (by decide) (by decide) (by decide) (Or.inr (by decide))).trans ((ha0 22 (by decide) (by decide) (by decide)).trans i4)
    have k23 : g2 0 23 = 0 := (s3 0 23 (by decide) (by decide) (by decide) (Or.inr (by decide))).trans ((ha0 23 (by decide) (by decide) (by decide)).trans i5)
    obtain ⟨c1, -, -⟩ := p2.cost g22 g23
    obtain ⟨d1, -, -⟩ := s2.cost k22 k23
    refine ⟨?_, ?_, ?_⟩
    · rw [a1, a2, ← c1, ← d1, sg_up_s, sgu_n (by decide)]
    · rw [b1, sg_up_n (show (9 : Nat) ≠ 13 by decide)]; exact hG.1.2.2.2
    · have y0 : ∀ j : Nat, j ≠ 24 → j ≠ 25 → (j ≠ 12 ∧ j ≠ 13 ∧ j ≠ 14 ∧ j ≠ 15 ∧ j ≠ 16 ∧ j ≠ 29 ∧ j ≠ 30 ∧ j ≠ 31) → fM1 0 j = fM 0 j := fun j h24 h25 hj => by
        rw [b2, sg_up_s, sgu_n h24, s3 0 j (by decide) (by decide) (by decide) (Or.inr hj)]; exact ha0 j h24 h25 hj
      refine ⟨by rw [b1, sg_up_s, sgu_n (by decide), hG.2.1.2 7 (by decide) (by decide)]; exact x7, by rw [b1, sg_up_s, sgu_s], by rw [y0 20 (by decide) (by decide) (by decide)]; exact i3, by rw [y0 22 (by decide) (by decide) (by decide)]; exact i4, by rw [y0 23 (by decide) (by decide) (by decide)]; exact i5, by rw [b2, sg_up_s, sgu_s], fun j => ?_⟩
      rw [b2, sg_up_n (by decide), s3 11 j (by decide) (by decide) (by decide) (Or.inl (by decide)), ha 11 j (by decide) (by decide) (by decide) (by decide)]
      exact i7 j
/-! PAYS: the best near -/
/-- what else stands still while questions are changed -/
def qS (f g : sg_F) : Prop := f 13 9 = -1 ∧ g 0 22 = 0 ∧ g 0 23 = 0 ∧ g 0 24 = -1 ∧ ∀ j : Nat, g 11 j = 0
theorem pays_l {m : Nat → Int32} {S : Int} {hl : Bool} {T : Nat → Int32} {n : Nat} {W : Nat → Int32} {N : Nat} {d s k : Int32} {LX LM : sg_L} (hS : S ≤ 8) (hm : mOk m) (hq : pOk m) (hN : N ≤ 21) : ∀ (q i : Nat) (y y3 y4 z4 z5 : Int32) (f g : sg_F), y.toInt = i → i + q = 61 → wS m S hl T n W N d LM (sg_up f 13 (sgu (f 13) 8 y)) g → g 0 21 = y → qS f g → ((i = 0 ∧ z5 = -1) ∨ (0 < i ∧ y3 = z4 ∧ y4 = z5 ∧ 0 ≤ z5.toInt)) → ∃ (r : Int32) (F G : sg_F), sX4_bestNear_l13 s k (q + 1) y3 y4 y f LX = (r, F) ∧ sX12_pays_l60 d s k (q + 9) z4 z5 g LM = (r, G) ∧ xLo m S hl T n (F 9) ∧ rIdle F G := by
  intro q
  induction q with
  | zero =>
    intro i y y3 y4 z4 z5 f g ey hi hw h21 hQ hb
    have e9 : sX4_bestNear_l13 s k (0 + 1) y3 y4 y f LX = sX4_bestNear_h13 s k (sX4_bestNear_l13 s k 0) y3 y4 y f LX := rfl
    have e8 : sX12_pays_l60 d s k (0 + 9) z4 z5 g LM = sX12_pays_h60 d s k (sX12_pays_l60 d s k 8) z4 z5 g LM := rfl
    rw [e9, e8]
    unfold sX4_bestNear_h13 sX12_pays_h60; (repeat first | rw [spl_d] | rw [spl2_d])
    rw [if_pos (show 60 < y.toInt from by omega), h21, if_neg (show ¬ y.toInt < 61 from by omega)]
    obtain ⟨q1, q2, q3, q4, q5⟩ := hQ
    have id1 : rIdle (sg_up f 13 (sgu (f 13) 7 (-1))) (sg_up g 0 (sgu (g 0) 20 (-1))) := by
      refine ⟨by rw [sg_up_s, sgu_s], by rw [sg_up_s, sgu_n (by decide)]; exact q1, by rw [sg_up_s, sgu_s], by rw [sg_up_s, sgu_n (by decide)]; exact q2, by rw [sg_up_s, sgu_n (by decide)]; exact q3, by rw [sg_up_s, sgu_n (by decide)]; exact q4, fun j => by rw [sg_up_n (by decide)]; exact q5 j⟩
    have lo : xLo m S hl T n (sg_up f 13 (sgu (f 13) 7 (-1)) 9) := by
      have := hw.1.2.2.2
      rw [sg_up_n (by decide)] at this
      rw [sg_up_n (by decide)]; exact this
    rcases hb with ⟨a, -⟩ | ⟨a, b, c, -⟩
    · exfalso; omega
    · rw [b, c]
      by_cases z : k.toInt = 0
      · rw [if_pos z, if_pos z]; exact ⟨_, _, _, rfl, rfl, lo, id1⟩
      · rw [if_neg z, if_neg z]; exact ⟨_, _, _, rfl, rfl, lo, id1⟩
  | succ q ih =>
    intro i y y3 y4 z4 z5 f g ey hi hw h21 hQ hb
    have e9 : sX4_bestNear_l13 s k (q + 1 + 1) y3 y4 y f LX = sX4_bestNear_h13 s k (sX4_bestNear_l13 s k (q + 1)) y3 y4 y f LX := rfl
    have e8 : sX12_pays_l60 d s k (q + 1 + 9) z4 z5 g LM = sX12_pays_h60 d s k (sX12_pays_l60 d s k (q + 9)) z4 z5 g LM := rfl
    rw [e9, e8]
    unfold sX4_bestNear_h13 sX12_pays_h60; (repeat first | rw [spl_d] | rw [spl2_d])
    rw [if_neg (show ¬ 60 < y.toInt from by omega), h21, if_pos (show y.toInt < 61 from by omega)]
    obtain ⟨q1, q2, q3, q4, q5⟩ := hQ
    obtain ⟨f8, ef8⟩ : ∃ z : sg_F, z = sg_up f 13 (sgu (f 13) 8 y) := ⟨_, rfl⟩
    rw [← ef8] at hw ⊢
    have f89 : f8 13 9 = -1 := by rw [ef8, sg_up_s, sgu_n (by decide)]; exact q1
    obtain ⟨g1, p1, p2, p3, p4, p5, p6⟩ := hw.go hS hm hq hN LX
    rw [p6 (f8 10 2) N hw.2.2.2.2.2.2.2.2 (Nat.le_refl N), p1]
    dsimp only
    have hB := xSqB (f0 := f8) (L := LX) hS hm hq hN (hw.2.2.2.2.2.1.W hN) (fun z => absurd z (by rw [f89]; decide)) (xbg f8 LX).2.2.2.1 p5 N (Nat.le_refl N)
    obtain ⟨F, eF⟩ : ∃ z : sg_F, z = xSq W (sX4_begin f8 LX) LX N := ⟨_, rfl⟩
    have hF := p5 N (Nat.le_refl N)
    rw [← eF] at p2 hF hB ⊢
    have g22 : g1 0 22 = 0 := (p3 0 22 (by decide) (by decide) (by decide) (Or.inr (by decide))).trans q2
    have g23 : g1 0 23 = 0 := (p3 0 23 (by decide) (by decide) (by decide) (Or.inr (by decide))).trans q3
    have g21 : g1 0 21 = y := (p3 0 21 (by decide) (by decide) (by decide) (Or.inr (by decide))).trans h21
    obtain ⟨c1, -, -⟩ := p2.cost g22 g23
    rw [← c1]
    have ey1 := inc1 ey (by omega)
    -- the next one
    have nx : ∀ (a b c e : Int32), a = c → b = e → 0 ≤ e.toInt → ∃ (r : Int32) (F1 G : sg_F), sX4_bestNear_l13 s k (q + 1) a b (y + 1) F LX = (r, F1) ∧ sX12_pays_l60 d s k (q + 9) c e (sg_up g1 0 (sgu (g1 0) 21 (y + 1))) LM = (r, G) ∧ xLo m S hl T n (F1 9) ∧ rIdle F1 G := by
      intro a b c e h1 h2 h3
      refine ih (i + 1) (y + 1) a b c e F _ ey1 (by omega) ?_ (by rw [sg_up_s, sgu_s]) ⟨?_, ?_, ?_, ?_, fun j => ?_⟩ (Or.inr ⟨by omega, h1, h2, h3⟩)
      · refine hw.chg (hF.1.fr (by rw [sg_up_n (by decide)]) (by rw [sg_up_n (by decide)]) (by rw [sg_up_n (by decide)]) (by rw [sg_up_n (by decide)]) (by rw [sg_up_n (by decide)])) (fun q b8 b9 b13 b14 b15 b16 => by rw [sg_up_n b13]; exact hF.2.1.1 q b8 b9 b13 b14 b15 b16) (fun k j h8 h12 h13 h0 => by rw [sg_up_n h0]; exact p3 k j h8 h12 h13 (Or.inl h0)) ?_ ?_ ⟨?_, fun _ => ?_, ?_, fun z => ?_, fun t z => ?_⟩
        · rw [sg_up_s, sgu_n (by decide)]; exact p3 0 6 (by decide) (by decide) (by decide) (Or.inr (by decide))
        · rw [sg_up_s, sgu_n (by decide)]; exact p3 0 11 (by decide) (by decide) (by decide) (Or.inr (by decide))
        · rw [sg_up_s, sgu_n (by decide), hF.2.1.2 7 (by decide) (by decide), sg_up_s, sgu_n (by decide), p3 0 20 (by decide) (by decide) (by decide) (Or.inr (by decide))]
          exact hw.2.2.2.2.1.1
        · rw [sg_up_s, sgu_s, sg_up_s, sgu_s]
        · rw [sg_up_s, sgu_n (by decide), hF.2.1.2 9 (by decide) (by decide), f89, sg_up_s, sgu_n (by decide), p3 0 24 (by decide) (by decide) (by decide) (Or.inr (by decide))]
          exact q4.symm
        · rw [sg_up_s, sgu_n (by decide), hF.2.1.2 9 (by decide) (by decide), f89] at z
          exact absurd z (by decide)
        · rw [sg_up_s, sgu_n (by decide), g22, bt_0] at z; exact absurd z Bool.false_ne_true
      · rw [hF.2.1.2 9 (by decide) (by decide)]; exact f89
      · rw [sg_up_s, sgu_n (by decide)]; exact g22
      · rw [sg_up_s, sgu_n (by decide)]; exact g23
      · rw [sg_up_s, sgu_n (by decide), p3 0 24 (by decide) (by decide) (by decide) (Or.inr (by decide))]; exact q4
      · rw [sg_up_n (by decide), p3 11 j (by decide) (by decide) (by decide) (Or.inl (by decide))]; exact q5 j
    have b51 : sX4_bestNear_b51 (sX4_bestNear_l13 s k (q + 1)) s k y F LX = sX4_bestNear_l13 s k (q + 1) y (F 13 6) (y + 1) F LX := rfl
    have b60 : sX4_bestNear_b60 (sX4_bestNear_l13 s k (q + 1)) s k y3 y4 y F LX = sX4_bestNear_l13 s k (q + 1) y3 y4 (y + 1) F LX := rfl
    have m88 : ∀ z : Int32, z.toInt < 0 ∨ (F 13 6).toInt < z.toInt → sX12_pays_b88 (sX12_pays_l60 d s k (q + 9)) d s k z (F 13 6) g1 LM = sX12_pays_l60 d s k (q + 9) y (F 13 6) (sg_up g1 0 (sgu (g1 0) 21 (y + 1))) LM := by
      intro z hz
      unfold sX12_pays_b88 sX12_pays_b111; (repeat first | rw [spl_d] | rw [spl2_d])
      rw [g21]
      by_cases z0 : z.toInt < 0
      · rw [if_pos z0]
      · rw [if_neg z0, if_pos (hz.resolve_left z0)]
    rw [b51, b60]
    rcases hb with ⟨a, b⟩ | ⟨a, b, c, e⟩
    · rw [if_pos (show y.toInt = 0 from by omega), b, if_pos (show (-1 : Int32).toInt < 0 from by decide), m88 _ (Or.inl (by decide))]
      exact nx _ _ _ _ rfl rfl hB.1
    · rw [if_neg (show ¬ y.toInt = 0 from by omega), if_neg (show ¬ z5.toInt < 0 from by omega), c]
      by_cases z : (F 13 6).toInt < z5.toInt
      · rw [if_pos z, if_pos z, m88 _ (Or.inr z)]
        exact nx _ _ _ _ rfl rfl hB.1
      · rw [if_neg z, if_neg z, if_neg z]
        exact nx _ _ _ _ b rfl e
theorem t_pays {fX fX1 fM fM1 : sg_F} {LX LM : sg_L} {hl : Bool} {T : Nat → Int32} {n : Nat} {d s k r1 r2 : Int32} (h : rAll fX fM LX LM) (hm : mOk (fX 2)) (hq : pOk (fX 2)) (hc : xCx (fX 2) (fX 1 3).toInt hl T n fX) (hC : mCx (fX 2) hl T n fM) (e1 : (r1, fX1) = sX11_pays d s k fX LX) (e2 : (r2, fM1) = sX12_pays d s k fM LM) : r1 = r2 ∧ xLo (fX 2) (fX 1 3).toInt hl T n (fX1 9) ∧ rIdle fX1 fM1 := by
  have hb : 0 ≤ (fX 1 3).toInt ∧ (fX 1 3).toInt ≤ 8 := h.2.2.2.2.2.2 1 3
  have hid := h.2.2.2.2.2.1
  have e13 : (fX 1 3).toInt = (fM 0 6).toInt := h.1.1
  have j0 : (0 : Int64).toInt = 0 := by decide
  have j1 : (1 : Int64).toInt = 1 := by decide
  have es := Int32.toInt_toInt64 s
  have ek := Int32.toInt_toInt64 k
  have no : ∀ x : Int32, (r1, fX1) = (x, fX) → (r2, fM1) = (x, fM) → r1 = r2 ∧ xLo (fX 2) (fX 1 3).toInt hl T n (fX1 9) ∧ rIdle fX1 fM1 := fun x e1 e2 => by
    obtain ⟨a1, b1⟩ := Prod.mk.inj e1
    obtain ⟨a2, b2⟩ := Prod.mk.inj e2
    exact ⟨by rw [a1, a2], by rw [b1]; exact hc.2.2.2, by rw [b1, b2]; exact hid⟩
  unfold sX11_pays at e1; (repeat first | rw [spl_d] at e1 | rw [spl2_d] at e1)
  unfold sX12_pays at e2; (repeat first | rw [spl_d] at e2 | rw [spl2_d] at e2)
  rw [pX_isShelf, has_X] at e1
  rw [pM_isSitter _ _ _ (by omega), pM_within, es, ek, j0, j1, ← e13] at e2
  by_cases q1 : 0 ≤ d.toInt ∧ d.toInt ≤ 5
  case neg =>
    rw [if_neg q1, if_neg zk0] at e1
    rw [mbytes, if_neg q1, if_neg (by decide), if_pos rfl] at e2
    exact no _ e1 e2
  rw [if_pos q1, if_pos rfl] at e1
  have e2n : (¬ (0 ≤ s.toInt ∧ s.toInt < (fX 1 3).toInt) ∨ ¬ (0 ≤ k.toInt ∧ k.toInt ≤ 1)) → (r2, fM1) = (-1, fM) := fun z => by
    have inner : ∀ x : Int32 × sg_F, (if (if 0 ≤ s.toInt ∧ s.toInt < (fX 1 3).toInt then (1 : Int32) else 0) = 1 then (if (if 0 ≤ k.toInt ∧ k.toInt ≤ 1 then (1 : Int32) else 0) = 1 then x else (-1, fM)) else (-1, fM)) = (-1, fM) := fun x => by
      by_cases z1 : 0 ≤ s.toInt ∧ s.toInt < (fX 1 3).toInt
      · have z2 : ¬ (0 ≤ k.toInt ∧ k.toInt ≤ 1) := z.resolve_left (fun w => w z1)
        rw [if_pos z1, if_pos rfl, if_neg z2, if_neg zk0]
      · rw [if_neg z1, if_neg zk0]
    by_cases y : sX12_bytesIs d fM LM = 1
    · rw [if_pos y, inner] at e2; exact e2
    · rw [if_neg y] at e2
      by_cases y2 : sX12_bytesIs d fM LM = -1
      · rw [if_pos y2] at e2; exact e2
      · rw [if_neg y2, inner] at e2; exact e2
  by_cases q2 : 0 ≤ s.toInt ∧ s.toInt < (fX 1 3).toInt
  case neg =>
    rw [if_neg q2, if_neg zk0] at e1
    exact no _ e1 (e2n (Or.inl q2))
  rw [if_pos q2, if_pos rfl] at e1
  by_cases q3 : 0 ≤ k.toInt ∧ k.toInt ≤ 1
  case neg =>
    refine no (-1) ?_ (e2n (Or.inr q3))
    by_cases c1 : k.toInt < 0
    · rw [if_pos c1] at e1; exact e1
    · rw [if_neg c1, if_pos (by omega)] at e1; exact e1
  rw [if_neg (show ¬ k.toInt < 0 from by omega), if_neg (show ¬ 1 < k.toInt from by omega)] at e1
  rw [if_pos q2, if_pos q3, if_pos rfl, if_pos rfl, if_pos rfl, if_pos rfl] at e2
  rcases h.week hc hC q1 with ⟨a, b⟩ | ⟨a, b⟩ | ⟨b, W, N, f1, a, hN, hw, e, -⟩
  · rw [a] at e1; dsimp only at e1; rw [if_neg (by decide)] at e1
    rw [b, if_neg (by decide), if_neg (by decide)] at e2
    exact no _ e1 e2
  · rw [a] at e1; dsimp only at e1; rw [if_neg (by decide)] at e1
    rw [b, if_neg (by decide), if_neg (by decide)] at e2
    exact no _ e1 e2
  · obtain ⟨i1, i2, i3, i4, i5, i6, i7⟩ := hid
    have e13' : f1 13 = fX 13 := e 13 (by decide) (by decide) (by decide)
    rw [a] at e1; dsimp only at e1; rw [if_pos (by decide)] at e1
    unfold sX4_bestNear at e1; (repeat first | rw [spl_d] at e1 | rw [spl2_d] at e1)
    rw [b, if_pos rfl] at e2
    obtain ⟨ga, ega⟩ : ∃ z : sg_F, z = sg_up (sg_up fM 0 (sgu (fM 0) 20 s)) 0 (sgu (sg_up fM 0 (sgu (fM 0) 20 s) 0) 21 0) := ⟨_, rfl⟩
    obtain ⟨fa, efa⟩ : ∃ z : sg_F, z = sg_up f1 13 (sgu (f1 13) 7 s) := ⟨_, rfl⟩
    rw [← ega] at e2
    rw [← efa] at e1
    have ha0 : ∀ j : Nat, j ≠ 20 → j ≠ 21 → ga 0 j = fM 0 j := fun j h20 h21 => by rw [ega, sg_up_s, sgu_n h21, sg_up_s, sgu_n h20]
    have ha : ∀ k : Nat, k ≠ 0 → ga k = fM k := fun k hk => by rw [ega, sg_up_n hk, sg_up_n hk]
    have a20 : ga 0 20 = s := by rw [ega, sg_up_s, sgu_n (by decide), sg_up_s, sgu_s]
    have a21 : ga 0 21 = 0 := by rw [ega, sg_up_s, sgu_s]
    have x7 : fa 13 7 = s := by rw [efa, sg_up_s, sgu_s]
    have x9 : fa 13 9 = -1 := by rw [efa, sg_up_s, sgu_n (by decide), e13']; exact i2
    have xq : ∀ q : Nat, q ≠ 13 → fa q = f1 q := fun q hq => by rw [efa, sg_up_n hq]
    obtain ⟨r, F, G, u1, u2, u3, u4⟩ := pays_l (m := fX 2) (S := (fX 1 3).toInt) (hl := hl) (T := T) (n := n) (W := W) (N := N) (d := d) (s := s) (k := k) (LX := LX) (LM := LM) hb.2 hm hq hN 61 0 0 0 0 0 (-1) fa ga (by decide) (by decide) (by
      refine hw.chg (hw.1.fr (by rw [sg_up_n (by decide), xq 1 (by decide)]) (by rw [sg_up_n (by decide), xq 2 (by decide)]) (by rw [sg_up_n (by decide), xq 4 (by decide)]) (by rw [sg_up_n (by decide), xq 7 (by decide)]) (by rw [sg_up_n (by decide), xq 9 (by decide)])) (fun q _ _ b13 _ _ _ => by rw [sg_up_n b13, xq q b13]) (fun k j _ _ _ h0 => by rw [ha k h0]) (ha0 6 (by decide) (by decide)) (ha0 11 (by decide) (by decide)) ⟨?_, fun _ => ?_, ?_, fun z => ?_, fun t z => ?_⟩
      · rw [sg_up_s, sgu_n (by decide), x7, a20]
      · rw [sg_up_s, sgu_s, a21]
      · rw [sg_up_s, sgu_n (by decide), x9, ha0 24 (by decide) (by decide), i6]
      · rw [sg_up_s, sgu_n (by decide), x9] at z; exact absurd z (by decide)
      · rw [ha0 22 (by decide) (by decide), i4, bt_0] at z; exact absurd z Bool.false_ne_true) a21 ⟨x9, by rw [ha0 22 (by decide) (by decide)]; exact i4, by rw [ha0 23 (by decide) (by decide)]; exact i5, by rw [ha0 24 (by decide) (by decide)]; exact i6, fun j => by rw [ha 11 (by decide)]; exact i7 j⟩ (Or.inl ⟨rfl, rfl⟩)
    rw [u1] at e1
    rw [show (70 : Nat) = 61 + 9 from rfl, u2] at e2
    obtain ⟨a1, b1⟩ := Prod.mk.inj e1
    obtain ⟨a2, b2⟩ := Prod.mk.inj e2
    exact ⟨by rw [a1, a2], by rw [b1]; exact u3, by rw [b1, b2]; exact u4⟩
/-! JUDGE: the first shift that is unlike -/
theorem judge_l {W : Nat → Int32} {B g : sg_F} {LX LM : sg_L} {N len t : Nat} {x0 x1 y3 : Int32} {p : Nat} (hN : N ≤ 21) (hp : x1.toInt = p) (hp3 : p < 3) (h11 : ∀ j : Nat, j ≤ N → ∀ i : Nat, i < N → xSq W B LX j 11 i = W i) (hh : hHs W B LX N g) (hsh : (sX12_shiftsOf (x0 / 10) g LM).toInt = N) (h23 : (g 23 (x0 - x0 / 10 * 10).toNatClampNeg).toInt = len) (ht : (x0 - x0 / 10 * 10).toInt = t) (ht6 : t < 6) (hlen : len ≤ 60) (h3 : y3.toInt = if len < N then len else N) (hel : ∀ i : Nat, i < len → LX (41 + 2 * t) i = LM 24 (60 * t + i)) : ∀ (q i : Nat) (y : Int32), y.toInt = i → i ≤ N → i ≤ len → N - i < q → ∃ (r : Int32) (j : Nat), j ≤ N ∧ sX11_firstUnlike_l25 t x1 q y3 y (xSq W B LX i) LX = (r, xSq W B LX j) ∧ sX12_judge_l98 x0 x1 q y g LM = (r, g) := by
  have cp : x1.toNatClampNeg = p := by
    have := bn_clI (x := x1) (by omega)
    omega
  have k60 : (60 : Int32).toInt = 60 := by decide
  intro q
  induction q with
  | zero => intro i y _ _ _ h; exact absurd h (by omega)
  | succ q ih =>
    intro i y ey hi hil hq
    have e9 : sX11_firstUnlike_l25 t x1 (q + 1) y3 y (xSq W B LX i) LX = sX11_firstUnlike_h25 t x1 (sX11_firstUnlike_l25 t x1 q) y3 y (xSq W B LX i) LX := rfl
    have e8 : sX12_judge_l98 x0 x1 (q + 1) y g LM = sX12_judge_h98 x0 x1 (sX12_judge_l98 x0 x1 q) y g LM := rfl
    have cy := bn_clI (x := y) (by omega)
    have eyn : y.toNatClampNeg = i := by omega
    rw [e9, e8]
    unfold sX11_firstUnlike_h25 sX11_firstUnlike_b86 sX12_judge_h98; (repeat first | rw [spl_d] | rw [spl2_d])
    by_cases c1 : i < N
    case neg =>
      rw [if_neg (show ¬ y.toInt < y3.toInt from by by_cases z : len < N <;> simp only [z, if_true, if_false] at h3 <;> omega), if_neg (show ¬ y.toInt < (sX12_shiftsOf (x0 / 10) g LM).toInt from by omega)]
      exact ⟨-2, i, hi, rfl, rfl⟩
    by_cases c2 : i < len
    case neg =>
      rw [if_neg (show ¬ y.toInt < y3.toInt from by by_cases z : len < N <;> simp only [z, if_true, if_false] at h3 <;> omega), if_pos (show y.toInt < (sX12_shiftsOf (x0 / 10) g LM).toInt from by omega), if_neg (show ¬ y.toInt < (g 23 (x0 - x0 / 10 * 10).toNatClampNeg).toInt from by omega)]
      exact ⟨-2, i, hi, rfl, rfl⟩
    rw [if_pos (show y.toInt < y3.toInt from by by_cases z : len < N <;> simp only [z, if_true, if_false] at h3 <;> omega), if_pos (show y.toInt < (sX12_shiftsOf (x0 / 10) g LM).toInt from by omega), if_pos (show y.toInt < (g 23 (x0 - x0 / 10 * 10).toNatClampNeg).toInt from by omega)]
    have ey1 := inc1 ey (by omega)
    have en : sX4_pass (xSq W B LX i 11 i) (xSq W B LX i) LX = xSq W B LX (i + 1) := by
      rw [h11 i hi i c1]; rfl
    have e60 : (60 * (x0 - x0 / 10 * 10)).toInt = 60 * (x0 - x0 / 10 * 10).toInt := bn_mulJ k60 (by omega) (by omega)
    have e61 : (60 * (x0 - x0 / 10 * 10) + y).toInt = (60 * (x0 - x0 / 10 * 10)).toInt + y.toInt := bn_addI (by omega) (by omega)
    have c60 := bn_clI (x := 60 * (x0 - x0 / 10 * 10) + y) (by omega)
    have eh : g 13 (3 * (y + 1) + x1).toNatClampNeg = xSq W B LX (i + 1) 14 p := by
      rw [idx3 ey1 (by omega) hp hp3]
      exact hh (i + 1) (by omega) (by omega) p hp3
    have ew : LM 24 (60 * (x0 - x0 / 10 * 10) + y).toNatClampNeg = LX (41 + 2 * t) i := by
      rw [hel i c2]
      exact congrArg _ (by omega)
    unfold sX12_isSeen; (repeat first | rw [spl_d] | rw [spl2_d])
    rw [eyn, en, eh, ew, cp]
    obtain ⟨w, hw⟩ : ∃ z : Int64, z = LX (41 + 2 * t) i := ⟨_, rfl⟩
    obtain ⟨v, hv⟩ : ∃ z : Int32, z = xSq W B LX (i + 1) 14 p := ⟨_, rfl⟩
    rw [← hw, ← hv]
    have k1 : ¬ (1 : Int32).toInt = 0 := by decide
    have k0 : (0 : Int32).toInt = 0 := by decide
    by_cases d1 : (lg_cmp w (-1)).toInt = 0
    · rw [if_pos d1, if_pos d1, if_neg k1]
      exact ih (i + 1) (y + 1) ey1 (by omega) (by omega) (by omega)
    rw [if_neg d1, if_neg d1]
    by_cases d2 : (lg_cmp w (Int32.toInt64 v)).toInt = 0
    · rw [if_pos d2, if_pos d2, if_neg k1]
      exact ih (i + 1) (y + 1) ey1 (by omega) (by omega) (by omega)
    · rw [if_neg d2, if_neg d2, if_pos k0]
      exact ⟨y, i + 1, by omega, rfl, rfl⟩
theorem t_judge {fX fX1 fM fM1 : sg_F} {LX LM : sg_L} {hl : Bool} {T : Nat → Int32} {n : Nat} {x p r1 r2 : Int32} (h : rAll fX fM LX LM) (hm : mOk (fX 2)) (hq : pOk (fX 2)) (hc : xCx (fX 2) (fX 1 3).toInt hl T n fX) (hC : mCx (fX 2) hl T n fM) (e1 : (r1, fX1) = sX11_judge x p fX LX) (e2 : (r2, fM1) = sX12_judge x p fM LM) : r1 = r2 ∧ xLo (fX 2) (fX 1 3).toInt hl T n (fX1 9) := by
  have hI := h.2.2.2.2.2.2
  have hb : 0 ≤ (fX 1 3).toInt ∧ (fX 1 3).toInt ≤ 8 := hI 1 3
  have hs := h.2.1
  have h36 : (fX 36 2).toInt ≤ 50 := (hI 36 2).2
  have he := h.2.2.1
  obtain ⟨hs1, hs2⟩ := shB hI
  have k10 : (10 : Int32).toInt = 10 := by decide
  have k0 : (0 : Int32).toInt = 0 := by decide
  have k11 : (-11 : Int32).toInt = -11 := by decide
  have k12 : (-12 : Int32).toInt = -12 := by decide
  have no : ∀ x : Int32, (r1, fX1) = (x, fX) → (r2, fM1) = (x, fM) → r1 = r2 ∧ xLo (fX 2) (fX 1 3).toInt hl T n (fX1 9) := fun x e1 e2 => by
    obtain ⟨a1, b1⟩ := Prod.mk.inj e1
    obtain ⟨a2, b2⟩ := Prod.mk.inj e2
    exact ⟨by rw [a1, a2], by rw [b1]; exact hc.2.2.2⟩
  unfold sX11_judge at e1; (repeat first | rw [spl_d] at e1 | rw [spl2_d] at e1)
  unfold sX12_judge at e2; (repeat first | rw [spl_d] at e2 | rw [spl2_d] at e2)
  rw [pX_isShelf, pX_isShelf, pX_isPart] at e1
  rw [pM_isShelf, pM_isShelf, pM_isPart] at e2
  by_cases c0 : x.toInt < 0
  · rw [if_pos c0] at e1 e2; exact no _ e1 e2
  rw [if_neg c0] at e1 e2
  obtain ⟨v1, ev1⟩ : ∃ z : Int32, z = x / 10 := ⟨_, rfl⟩
  obtain ⟨v3, ev3⟩ : ∃ z : Int32, z = x - x / 10 * 10 := ⟨_, rfl⟩
  rw [← ev3] at e1 e2
  rw [← ev1] at e1 e2
  by_cases q1 : 0 ≤ v1.toInt ∧ v1.toInt ≤ 5
  case neg => rw [if_neg q1, if_neg zk0] at e1 e2; exact no _ e1 e2
  rw [if_pos q1, if_pos rfl] at e1 e2
  by_cases q3 : 0 ≤ v3.toInt ∧ v3.toInt ≤ 5
  case neg => rw [if_neg q3, if_neg zk0] at e1 e2; exact no _ e1 e2
  rw [if_pos q3, if_pos rfl] at e1 e2
  by_cases qp : 0 ≤ p.toInt ∧ p.toInt ≤ 2
  case neg => rw [if_neg qp, if_neg zk0] at e1 e2; exact no _ e1 e2
  rw [if_pos qp, if_pos rfl] at e1 e2
  rw [xref, xref] at e1
  rw [mbytes, mbytes, if_pos q1, if_pos q3] at e2
  have cd1 := bn_clI q1.1
  have cd3 := bn_clI q3.1
  have A1 := hs.at q1.1 q1.2
  have A3 := hs.at q3.1 q3.2
  by_cases z1 : (fX (40 + 2 * v1.toNatClampNeg) 1).toInt = -1
  · rw [if_pos z1, if_pos k11] at e1
    rw [if_pos (show (fM 22 v1.toNatClampNeg).toInt < 0 from by omega)] at e2
    exact no _ e1 e2
  rw [if_neg (show ¬ (fM 22 v1.toNatClampNeg).toInt < 0 from by omega)] at e2
  have n1 : ¬ (if (fX (40 + 2 * v1.toNatClampNeg) 1).toInt = -1 then (-11 : Int32) else if (fX (40 + 2 * v1.toNatClampNeg) 1).toInt = 0 then 0 else -12).toInt = -11 := by
    rw [if_neg z1]
    by_cases w : (fX (40 + 2 * v1.toNatClampNeg) 1).toInt = 0
    · rw [if_pos w]; decide
    · rw [if_neg w]; decide
  rw [if_neg n1] at e1
  by_cases z3 : (fX (40 + 2 * v3.toNatClampNeg) 1).toInt = -1
  · rw [if_pos z3, if_pos k11] at e1
    rw [if_pos (show (fM 22 v3.toNatClampNeg).toInt < 0 from by omega)] at e2
    exact no _ e1 e2
  rw [if_neg (show ¬ (fM 22 v3.toNatClampNeg).toInt < 0 from by omega)] at e2
  have n3 : ¬ (if (fX (40 + 2 * v3.toNatClampNeg) 1).toInt = -1 then (-11 : Int32) else if (fX (40 + 2 * v3.toNatClampNeg) 1).toInt = 0 then 0 else -12).toInt = -11 := by
    rw [if_neg z3]
    by_cases w : (fX (40 + 2 * v3.toNatClampNeg) 1).toInt = 0
    · rw [if_pos w]; decide
    · rw [if_neg w]; decide
  rw [if_neg n3, if_neg z1, if_neg z3] at e1
  rw [if_neg (show ¬ (fM 22 v1.toNatClampNeg).toInt < 0 from by omega), if_neg (show ¬ (fM 22 v3.toNatClampNeg).toInt < 0 from by omega)] at e2
  by_cases y1 : (fX (40 + 2 * v1.toNatClampNeg) 1).toInt = 0
  case neg =>
    rw [if_neg y1, if_neg (by decide)] at e1
    rw [if_neg (show ¬ (fM 22 v1.toNatClampNeg).toInt = 50 from by omega), if_neg (by decide), if_neg (by decide)] at e2
    exact no _ e1 e2
  rw [if_pos y1, if_pos k0] at e1
  rw [if_pos (show (fM 22 v1.toNatClampNeg).toInt = 50 from by omega), if_pos rfl] at e2
  by_cases y3 : (fX (40 + 2 * v3.toNatClampNeg) 1).toInt = 0
  case neg =>
    rw [if_neg y3, if_neg (by decide)] at e1
    rw [if_neg (show ¬ (fM 22 v3.toNatClampNeg).toInt = 50 from by omega), if_neg (by decide), if_neg (by decide)] at e2
    exact no _ e1 e2
  rw [if_pos y3, if_pos k0] at e1
  rw [if_pos (show (fM 22 v3.toNatClampNeg).toInt = 50 from by omega), if_pos rfl] at e2
  have kb3 := hs2 v3.toNatClampNeg (by omega)
  have l3 : (fX (40 + 2 * v3.toNatClampNeg) 2).toInt = (fM 23 v3.toNatClampNeg).toInt := by omega
  rcases h.week (LM := LM) hc hC q1 with ⟨a, b⟩ | ⟨a, b⟩ | ⟨b, W, N, f1, a, hN, hw, e, -⟩
  · exfalso
    rw [mbytes, if_pos q1, if_neg (show ¬ (fM 22 v1.toNatClampNeg).toInt < 0 from by omega), if_pos (show (fM 22 v1.toNatClampNeg).toInt = 50 from by omega)] at b
    exact absurd b (by decide)
  · exfalso
    rw [mbytes, if_pos q1, if_neg (show ¬ (fM 22 v1.toNatClampNeg).toInt < 0 from by omega), if_pos (show (fM 22 v1.toNatClampNeg).toInt = 50 from by omega)] at b
    exact absurd b (by decide)
  · obtain ⟨g1, p1, p2, p3, p4, p5, p6⟩ := hw.go hb.2 hm hq hN LX
    have hv : (f1 10 2).toInt = N := hw.2.2.2.2.2.2.2.2
    rw [a] at e1
    dsimp only at e1
    unfold sX11_firstUnlike at e1; (repeat first | rw [spl_d] at e1 | rw [spl2_d] at e1)
    rw [p1] at e2
    dsimp only at e2
    have ef3 : f1 (40 + 2 * v3.toNatClampNeg) = fX (40 + 2 * v3.toNatClampNeg) := e _ (by omega) (by omega) (by omega)
    rw [ef3] at e1
    have mn := bn_minI (fX (40 + 2 * v3.toNatClampNeg) 2) (f1 10 2)
    obtain ⟨w, ew⟩ : ∃ z : Int32, z = (if fX (40 + 2 * v3.toNatClampNeg) 2 < f1 10 2 then fX (40 + 2 * v3.toNatClampNeg) 2 else f1 10 2) := ⟨_, rfl⟩
    rw [← ew] at mn e1
    have cl := bn_clI kb3.1
    have hwv : w.toInt = if (fX (40 + 2 * v3.toNatClampNeg) 2).toNatClampNeg < N then (((fX (40 + 2 * v3.toNatClampNeg) 2).toNatClampNeg : Nat) : Int) else (N : Int) := by
      by_cases z : (fX (40 + 2 * v3.toNatClampNeg) 2).toNatClampNeg < N
      · rw [if_pos z]; omega
      · rw [if_neg z]; omega
    obtain ⟨r, j, u1, u2, u3⟩ := judge_l (W := W) (B := sX4_begin f1 LX) (g := g1) (LX := LX) (LM := LM) (N := N) (len := (fX (40 + 2 * v3.toNatClampNeg) 2).toNatClampNeg) (t := v3.toNatClampNeg) (x0 := x) (x1 := p) (y3 := w) (p := p.toNatClampNeg) hN (bn_clI qp.1).symm (by have := bn_clI qp.1; omega) (fun j hj i hi => by
      rw [(p5 j hj).2.1.1 11 (by decide) (by decide) (by decide) (by decide) (by decide) (by decide)]
      exact hw.2.2.2.2.2.2.2.1 i hi) p4 (by
      rw [← ev1, shfM_fr (show g1 23 = fM 23 from funext fun j => p3 23 j (by decide) (by decide) (by decide) (Or.inl (by decide)))]
      exact hw.2.2.2.2.2.2.1) (by rw [← ev3, p3 23 _ (by decide) (by decide) (by decide) (Or.inl (by decide))]; omega) (by rw [← ev3]; omega) (by omega) (by omega) (by rw [hwv]; split <;> rfl) (fun i hi => he _ (by omega) (by omega) i (by omega)) 22 0 0 (by decide) (Nat.zero_le _) (Nat.zero_le _) (by omega)
    have e1 : (r1, fX1) = sX11_firstUnlike_l25 v3.toNatClampNeg p 22 w 0 (xSq W (sX4_begin f1 LX) LX 0) LX := e1
    rw [u2] at e1
    rw [u3] at e2
    obtain ⟨a1, b1⟩ := Prod.mk.inj e1
    obtain ⟨a2, b2⟩ := Prod.mk.inj e2
    exact ⟨by rw [a1, a2], by rw [b1]; exact (p5 j u1).1.2.2.2⟩
/-! MEMORIES: the best of them -/
/-- how many bits -/
noncomputable def pcI (k : Int32) : Int32 := sX12_bitsOf k f0M L0
theorem bits_l (k : Int32) (f : sg_F) (L : sg_L) : ∀ (n : Nat) (a y : Int32), sX12_bitsOf_l4 k n a y f L = sX12_bitsOf_l4 k n a y f0M L0 := by
  intro n
  induction n with
  | zero => intro a y; rfl
  | succ n ih =>
    intro a y
    show sX12_bitsOf_h4 k (sX12_bitsOf_l4 k n) a y f L = sX12_bitsOf_h4 k (sX12_bitsOf_l4 k n) a y f0M L0
    unfold sX12_bitsOf_h4; (repeat first | rw [spl_d] | rw [spl2_d])
    by_cases c : y.toInt = 0
    · rw [if_pos c, if_pos c]
    · rw [if_neg c, if_neg c, ih]
theorem bits_M (k : Int32) (f : sg_F) (L : sg_L) : sX12_bitsOf k f L = pcI k := bits_l k f L 300 0 k
theorem bits_fin : ∀ k : Fin 256, sJ6_bitCount_0f7a4 (Int32.ofNat k.1) f0M L0 = pcI (Int32.ofNat k.1) ∧ 0 ≤ (pcI (Int32.ofNat k.1)).toInt := by decide +kernel
theorem ofN {k : Int32} (h0 : 0 ≤ k.toInt) (h1 : k.toInt < 1000000) : Int32.ofNat k.toNatClampNeg = k := by
  have c := bn_clI h0
  exact Int32.toInt_inj.mp ((nI_toInt (n := k.toNatClampNeg) (by omega)).trans (by omega))
theorem bits_X {k : Int32} (h0 : 0 ≤ k.toInt) (h1 : k.toInt < 256) (f : sg_F) (L : sg_L) : sJ6_bitCount_0f7a4 k f L = pcI k := by
  have c := bn_clI h0
  have e := (bits_fin ⟨k.toNatClampNeg, by omega⟩).1
  rw [ofN h0 (by omega)] at e
  exact e
theorem bits_0 : (pcI (Int32.ofNat 0)).toInt = 0 := by decide +kernel
/-- what a mask spares, to the class -/
theorem sparedX (k : Int32) (F : sg_F) (L : sg_L) : sX4_sparedBy k F L = spN k (F 16) 8 := by
  have go : ∀ (q i : Nat) (y : Int32), y.toInt = i → i ≤ 8 → 8 - i < q → sX4_sparedBy_l4 k q (spN k (F 16) i) y F L = spN k (F 16) 8 := by
    intro q
    induction q with
    | zero => intro i y _ _ h; exact absurd h (by omega)
    | succ q ih =>
      intro i y ey hi hq
      have cy := bn_clI (x := y) (by omega)
      have eyn : y.toNatClampNeg = i := by omega
      have e9 : sX4_sparedBy_l4 k (q + 1) (spN k (F 16) i) y F L = sX4_sparedBy_h4 k (sX4_sparedBy_l4 k q) (spN k (F 16) i) y F L := rfl
      rw [e9]
      unfold sX4_sparedBy_h4 sX4_sparedBy_b27; (repeat first | rw [spl_d] | rw [spl2_d])
      by_cases c : i < 8
      case neg =>
        rw [if_neg (by omega)]
        exact congrArg _ (show i = 8 by omega)
      rw [if_pos (by omega), eyn]
      have ey1 := inc1 ey (by omega)
      have e8 : Int32.ofNat i = y := by rw [← eyn]; exact ofN (by omega) (by omega)
      have sp1 : spN k (F 16) (i + 1) = spN k (F 16) i + (if bt k (Int32.ofNat i) = true then F 16 i else 0) := rfl
      rw [e8] at sp1
      have hb := bn_and1c (k >>> (y &&& 31))
      by_cases d : ((k >>> (y &&& 31)) &&& 1).toInt = 0
      · rw [if_pos d]
        have nb : ¬ bt k y = true := fun z => by
          have := of_decide_eq_true z
          omega
        rw [if_neg nb, Int32.add_zero] at sp1
        rw [← sp1]
        exact ih (i + 1) (y + 1) ey1 (by omega) (by omega)
      · rw [if_neg d]
        have nb : bt k y = true := decide_eq_true (by omega)
        rw [if_pos nb] at sp1
        rw [← sp1]
        exact ih (i + 1) (y + 1) ey1 (by omega) (by omega)
  exact go 9 0 0 (by decide) (by omega) (by omega)
/-- sums as whole numbers -/
def sI (h : Nat → Int32) : Nat → Int
  | 0 => 0
  | n + 1 => sI h n + (h n).toInt
theorem sI_ge {h : Nat → Int32} {s : Nat} {x : Int32} : ∀ n : Nat, n ≤ s → sI (sgu h s x) n = sI h n := by
  intro n
  induction n with
  | zero => intro _; rfl
  | succ n ih =>
    intro hn
    show sI (sgu h s x) n + (sgu h s x n).toInt = sI h n + (h n).toInt
    rw [ih (by omega), sgu_n (by omega)]
theorem sI_up {h : Nat → Int32} {s : Nat} {x : Int32} : ∀ n : Nat, s < n → sI (sgu h s x) n = sI h n + x.toInt - (h s).toInt := by
  intro n
  induction n with
  | zero => intro hn; exact absurd hn (by omega)
  | succ n ih =>
    intro hn
    show sI (sgu h s x) n + (sgu h s x n).toInt = sI h n + (h n).toInt + x.toInt - (h s).toInt
    by_cases c : n = s
    · subst c
      rw [sI_ge n (Nat.le_refl n), sgu_s]; omega
    · rw [ih (by omega), sgu_n c]; omega
theorem sI_le {h : Nat → Int32} (z : ∀ j : Nat, j < 8 → 0 ≤ (h j).toInt) : ∀ n : Nat, n ≤ 8 → 0 ≤ sI h n ∧ ∀ s : Nat, s < n → (h s).toInt ≤ sI h n := by
  intro n
  induction n with
  | zero => intro _; exact ⟨Int.le_refl _, fun s hs => absurd hs (by omega)⟩
  | succ n ih =>
    intro hn
    obtain ⟨a, b⟩ := ih (by omega)
    have zn := z n (by omega)
    have e : sI h (n + 1) = sI h n + (h n).toInt := rfl
    refine ⟨by omega, fun s hs => ?_⟩
    by_cases c : s = n
    · subst c; omega
    · have := b s (by omega); omega
theorem spN_I {k : Int32} {h : Nat → Int32} {K : Int} (z : ∀ j : Nat, j < 8 → 0 ≤ (h j).toInt) (hK : K ≤ 2000000000) : ∀ n : Nat, n ≤ 8 → sI h n ≤ K → 0 ≤ (spN k h n).toInt ∧ (spN k h n).toInt ≤ sI h n := by
  intro n
  induction n with
  | zero => intro _ _; exact ⟨show 0 ≤ (0 : Int32).toInt by decide, show (0 : Int32).toInt ≤ 0 by decide⟩
  | succ n ih =>
    intro hn hs
    have e : sI h (n + 1) = sI h n + (h n).toInt := rfl
    have zn := z n (by omega)
    obtain ⟨a, b⟩ := ih (by omega) (by omega)
    show 0 ≤ (spN k h n + (if bt k (Int32.ofNat n) = true then h n else 0)).toInt ∧ (spN k h n + (if bt k (Int32.ofNat n) = true then h n else 0)).toInt ≤ sI h (n + 1)
    by_cases c : bt k (Int32.ofNat n) = true
    · rw [if_pos c]
      have e2 : (spN k h n + h n).toInt = (spN k h n).toInt + (h n).toInt := bn_addI (by omega) (by omega)
      omega
    · rw [if_neg c, Int32.add_zero]; omega
theorem mxc_b {c fe : Int32} (hc : 0 ≤ c.toInt ∧ c.toInt ≤ 5940) (hf : 0 ≤ fe.toInt ∧ fe.toInt ≤ 99) : 0 ≤ (mxc c fe).toInt ∧ (mxc c fe).toInt ≤ c.toInt := by
  have k0 : (0 : Int32).toInt = 0 := by decide
  have e : (c - fe).toInt = c.toInt - fe.toInt := bn_subI (by omega) (by omega)
  unfold mxc
  by_cases z : (0 : Int32) < c - fe
  · have := bn_lt z
    rw [if_pos z]; omega
  · rw [if_neg z]; omega
/-- what is spared is no more than what is paid -/
def jS (f : sg_F) : Prop := (∀ s : Nat, s < 8 → 0 ≤ (f 16 s).toInt) ∧ sI (f 16) 8 ≤ (f 13 6).toInt
theorem jS.pass {m : Nat → Int32} {S : Int} {hl : Bool} {T : Nat → Int32} {n : Nat} {w : Int32} {f : sg_F} {K : Int} (hj : jS f) (hc : xCx m S hl T n f) (hS : S ≤ 8) (hm : mOk m) (hq : pOk m) (hv : ∀ p : Nat, p < 3 → 0 ≤ (f 14 p).toInt ∧ (f 14 p).toInt ≤ 60) (hw : w.toInt = -1 ∨ (0 ≤ w.toInt ∧ w.toInt < S)) (h9 : (f 13 9).toInt = -1) (B : 0 ≤ (f 13 6).toInt ∧ (f 13 6).toInt ≤ K) (hK : K ≤ 2000000000) (L : sg_L) : jS (sX4_pass w f L) := by
  obtain ⟨hj1, hj2⟩ := hj
  have slip : ∀ (g : sg_F), g 2 = m → jS g → jS (sX4_slip g L) := fun g e hg => by
    unfold jS
    rw [(xsl e L).1 13 (by decide), (xsl e L).1 16 (by decide)]
    exact hg
  rcases hw with hw | hw
  · have ep : sX4_pass w f L = sX4_slip f L := by
      unfold sX4_pass sX4_pass_b22; (repeat first | rw [spl_d] | rw [spl2_d])
      rw [if_pos hw]
    rw [ep]; exact slip f hc.1 ⟨hj1, hj2⟩
  obtain ⟨c1, c2⟩ := xcm (s := w) hc hS hm hw hv L
  obtain ⟨f1, ef⟩ : ∃ z : sg_F, z = sX4_comes w f L := ⟨_, rfl⟩
  rw [← ef] at c1 c2
  obtain ⟨nr, en⟩ : ∃ z : Int32, z = (if w.toInt = (f 13 7).toInt then f 13 8 else m (8 * w.toNatClampNeg + 6)) := ⟨_, rfl⟩
  rw [← en] at c2
  obtain ⟨y1, y2, y3, y4, y5, y6⟩ := c2
  have ep : sX4_pass w f L = sX4_slip f1 L := by
    have e9 : f1 13 9 = f 13 9 := y2 9 (by decide) (by decide)
    unfold sX4_pass sX4_pass_b22; (repeat first | rw [spl_d] | rw [spl2_d])
    rw [if_neg (show ¬ w.toInt = -1 from by omega), ← ef, if_neg (show ¬ w.toInt = (f1 13 9).toInt from by rw [e9]; omega)]
  rw [ep]
  refine slip f1 c1.1 ?_
  have cs := bn_clI hw.1
  have bw := (hm w.toNatClampNeg (by omega)).1
  have pf := hq 70 (by decide) (by decide)
  have pr : ∀ p : Nat, p < 3 → 0 ≤ (ab (tvn nr (m (8 * w.toNatClampNeg + p)) (f 14 p) - f 14 p) * m (67 + p)).toInt ∧ (ab (tvn nr (m (8 * w.toNatClampNeg + p)) (f 14 p) - f 14 p) * m (67 + p)).toInt ≤ 5940 := fun p hp => by
    have := ab_le (tvn_b (nr := nr) (bw p hp) (hv p hp)) (hv p hp)
    obtain ⟨-, z1, z2⟩ := mul_le (x := 60) (y := 99) ⟨this.2.1, this.2.2.1⟩ (hq (67 + p) (by omega) (by omega)) (by decide)
    exact ⟨z1, by omega⟩
  have p0 := pr 0 (by decide)
  have p1 := pr 1 (by decide)
  have p2 := pr 2 (by decide)
  have x0 := mxc_b p0 pf
  have x1 := mxc_b p1 pf
  have x2 := mxc_b p2 pf
  have l0 := lsv_b (m := m) (hl := hl) (T := T) (n := n) (s := w) (p := 0) (v := tvn nr (m (8 * w.toNatClampNeg + 0)) (f 14 0))
  have l1 := lsv_b (m := m) (hl := hl) (T := T) (n := n) (s := w) (p := 1) (v := tvn nr (m (8 * w.toNatClampNeg + 1)) (f 14 1))
  have l2 := lsv_b (m := m) (hl := hl) (T := T) (n := n) (s := w) (p := 2) (v := tvn nr (m (8 * w.toNatClampNeg + 2)) (f 14 2))
  obtain ⟨A0, eA0⟩ : ∃ z : Int32, z = ab (tvn nr (m (8 * w.toNatClampNeg + 0)) (f 14 0) - f 14 0) * m (67 + 0) := ⟨_, rfl⟩
  obtain ⟨A1, eA1⟩ : ∃ z : Int32, z = ab (tvn nr (m (8 * w.toNatClampNeg + 1)) (f 14 1) - f 14 1) * m (67 + 1) := ⟨_, rfl⟩
  obtain ⟨A2, eA2⟩ : ∃ z : Int32, z = ab (tvn nr (m (8 * w.toNatClampNeg + 2)) (f 14 2) - f 14 2) * m (67 + 2) := ⟨_, rfl⟩
  obtain ⟨B0, eB0⟩ : ∃ z : Int32, z = lsv m hl T n w 0 (tvn nr (m (8 * w.toNatClampNeg + 0)) (f 14 0)) := ⟨_, rfl⟩
  obtain ⟨B1, eB1⟩ : ∃ z : Int32, z = lsv m hl T n w 1 (tvn nr (m (8 * w.toNatClampNeg + 1)) (f 14 1)) := ⟨_, rfl⟩
  obtain ⟨B2, eB2⟩ : ∃ z : Int32, z = lsv m hl T n w 2 (tvn nr (m (8 * w.toNatClampNeg + 2)) (f 14 2)) := ⟨_, rfl⟩
  rw [← eA0] at p0 x0 y4 y6
  rw [← eA1] at p1 x1 y4 y6
  rw [← eA2] at p2 x2 y4 y6
  rw [← eB0] at l0 y6
  rw [← eB1] at l1 y6
  rw [← eB2] at l2 y6
  have s8 := (sI_le hj1 8 (Nat.le_refl 8)).2 w.toNatClampNeg (by omega)
  have s0 := hj1 w.toNatClampNeg (by omega)
  have a1 : (f 13 6 + A0).toInt = (f 13 6).toInt + A0.toInt := bn_addI (by omega) (by omega)
  have a2 : (f 13 6 + A0 + B0).toInt = (f 13 6 + A0).toInt + B0.toInt := bn_addI (by omega) (by omega)
  have a3 : (f 13 6 + A0 + B0 + A1).toInt = (f 13 6 + A0 + B0).toInt + A1.toInt := bn_addI (by omega) (by omega)
  have a4 : (f 13 6 + A0 + B0 + A1 + B1).toInt = (f 13 6 + A0 + B0 + A1).toInt + B1.toInt := bn_addI (by omega) (by omega)
  have a5 : (f 13 6 + A0 + B0 + A1 + B1 + A2).toInt = (f 13 6 + A0 + B0 + A1 + B1).toInt + A2.toInt := bn_addI (by omega) (by omega)
  have a6 : (f 13 6 + A0 + B0 + A1 + B1 + A2 + B2).toInt = (f 13 6 + A0 + B0 + A1 + B1 + A2).toInt + B2.toInt := bn_addI (by omega) (by omega)
  have b1 : (f 16 w.toNatClampNeg + mxc A0 (m 70)).toInt = (f 16 w.toNatClampNeg).toInt + (mxc A0 (m 70)).toInt := bn_addI (by omega) (by omega)
  have b2 : (f 16 w.toNatClampNeg + mxc A0 (m 70) + mxc A1 (m 70)).toInt = (f 16 w.toNatClampNeg + mxc A0 (m 70)).toInt + (mxc A1 (m 70)).toInt := bn_addI (by omega) (by omega)
  have b3 : (f 16 w.toNatClampNeg + mxc A0 (m 70) + mxc A1 (m 70) + mxc A2 (m 70)).toInt = (f 16 w.toNatClampNeg + mxc A0 (m 70) + mxc A1 (m 70)).toInt + (mxc A2 (m 70)).toInt := bn_addI (by omega) (by omega)
  refine ⟨fun t ht => ?_, ?_⟩
  · rw [y4]
    by_cases z : t = w.toNatClampNeg
    · rw [z, sgu_s]; omega
    · rw [sgu_n z]; exact hj1 t ht
  · rw [y4, y6, sI_up 8 (by omega)]; omega
/-! MEMORIES: both sides -/
/-- a is at least as good as b -/
def kle (SP PC : Nat → Int) (a b : Nat) : Prop := SP b < SP a ∨ (SP b = SP a ∧ (PC a < PC b ∨ (PC a = PC b ∧ a ≤ b)))
theorem kle_uniq {SP PC : Nat → Int} {a b : Nat} (h : kle SP PC a b) (h1 : kle SP PC b a) : a = b := by
  unfold kle at h h1
  omega
theorem memX_l {SP PC : Nat → Int} {F : sg_F} {L : sg_L} {x0 x1 : Int32} {M : Nat} (hM : ((1 : Int32) <<< ((F 1 3 : Int32) &&& 31)).toInt = M) (hM2 : M ≤ 256) (hSP : ∀ v : Nat, v < 256 → SP v = (spN (Int32.ofNat v) (F 16) 8).toInt) (hPC : ∀ v : Nat, PC v = (pcI (Int32.ofNat v)).toInt) : ∀ (q i : Nat) (y y3 y4 : Int32), y.toInt = i → 1 ≤ i → i ≤ M → M - i < q → (∃ b : Nat, b < i ∧ y3 = Int32.ofNat b ∧ y4.toInt = SP b ∧ PC b ≤ x0.toInt ∧ ∀ v : Nat, v < i → PC v ≤ x0.toInt → kle SP PC b v) → ∃ (b : Nat) (z : Int32), b < M ∧ PC b ≤ x0.toInt ∧ (∀ v : Nat, v < M → PC v ≤ x0.toInt → kle SP PC b v) ∧ z.toInt = SP b ∧ sX4_bestMemories_l19 x0 x1 q y3 y4 y F L = (if x1.toInt = 0 then Int32.ofNat b else F 13 6 - z, F) := by
  intro q
  induction q with
  | zero => intro i y y3 y4 _ _ _ h; exact absurd h (by omega)
  | succ q ih =>
    intro i y y3 y4 ey h1 hi hq hb
    obtain ⟨b, b1, b2, b3, b4, b5⟩ := hb
    have e9 : sX4_bestMemories_l19 x0 x1 (q + 1) y3 y4 y F L = sX4_bestMemories_h19 x0 x1 (sX4_bestMemories_l19 x0 x1 q) y3 y4 y F L := rfl
    rw [e9]
    unfold sX4_bestMemories_h19; (repeat first | rw [spl_d] | rw [spl2_d])
    by_cases c : i < M
    case neg =>
      rw [if_neg (by omega)]
      have : i = M := by omega
      subst this
      refine ⟨b, y4, b1, b4, b5, b3, ?_⟩
      by_cases z : x1.toInt = 0
      · rw [if_pos z, if_pos z, b2]
      · rw [if_neg z, if_neg z]
    rw [if_pos (by omega)]
    have cy := bn_clI (x := y) (by omega)
    have e8 : Int32.ofNat i = y := by
      have : y.toNatClampNeg = i := by omega
      rw [← this]; exact ofN (by omega) (by omega)
    have e3 : (Int32.ofNat b).toInt = b := nI_toInt (n := b) (by omega)
    have r20 : sJ6_bitCount_0f7a4 y F L = pcI y := bits_X (by omega) (by omega) F L
    have r32 : sJ6_bitCount_0f7a4 y3 F L = pcI y3 := by rw [b2]; exact bits_X (by omega) (by omega) F L
    rw [r20, r32, sparedX]
    have p1 : (pcI y).toInt = PC i := by rw [hPC, e8]
    have p2 : (pcI y3).toInt = PC b := by rw [hPC, b2]
    have s1 : (spN y (F 16) 8).toInt = SP i := by rw [hSP i (by omega), e8]
    have ey1 := inc1 ey (by omega)
    have b96 : sX4_bestMemories_b96 (sX4_bestMemories_l19 x0 x1 q) x0 x1 y3 y4 y F L = sX4_bestMemories_l19 x0 x1 q y3 y4 (y + 1) F L := rfl
    have b89 : sX4_bestMemories_b89 (sX4_bestMemories_l19 x0 x1 q) x0 x1 y (spN y (F 16) 8) F L = sX4_bestMemories_l19 x0 x1 q y (spN y (F 16) 8) (y + 1) F L := rfl
    -- it is taken
    have yes : PC i ≤ x0.toInt → (SP b < SP i ∨ (SP b = SP i ∧ PC i < PC b)) → ∃ (b : Nat) (z : Int32), b < M ∧ PC b ≤ x0.toInt ∧ (∀ v : Nat, v < M → PC v ≤ x0.toInt → kle SP PC b v) ∧ z.toInt = SP b ∧ sX4_bestMemories_l19 x0 x1 q y (spN y (F 16) 8) (y + 1) F L = (if x1.toInt = 0 then Int32.ofNat b else F 13 6 - z, F) := by
      intro u1 u2
      have hq9 : M - (i + 1) < q := by omega
      refine ih (i + 1) (y + 1) y (spN y (F 16) 8) ey1 (by omega) (by omega) hq9 ⟨i, by omega, e8.symm, s1, u1, fun v hv hp => ?_⟩
      by_cases z : v = i
      · subst z; exact Or.inr ⟨rfl, Or.inr ⟨rfl, Nat.le_refl _⟩⟩
      · have := b5 v (by omega) hp
        unfold kle at this ⊢
        omega
    -- it is left
    have no : ¬ (PC i ≤ x0.toInt ∧ (SP b < SP i ∨ (SP b = SP i ∧ PC i < PC b))) → ∃ (b : Nat) (z : Int32), b < M ∧ PC b ≤ x0.toInt ∧ (∀ v : Nat, v < M → PC v ≤ x0.toInt → kle SP PC b v) ∧ z.toInt = SP b ∧ sX4_bestMemories_l19 x0 x1 q y3 y4 (y + 1) F L = (if x1.toInt = 0 then Int32.ofNat b else F 13 6 - z, F) := by
      clear yes
      intro u
      have hq9 : M - (i + 1) < q := by omega
      refine ih (i + 1) (y + 1) y3 y4 ey1 (by omega) (by omega) hq9 ⟨b, by omega, b2, b3, b4, fun v hv hp => ?_⟩
      by_cases z : v = i
      · subst z
        unfold kle
        omega
      · exact b5 v (by omega) hp
    have b68 : ¬ (SP b = SP i ∧ PC i < PC b) → ∃ (b : Nat) (z : Int32), b < M ∧ PC b ≤ x0.toInt ∧ (∀ v : Nat, v < M → PC v ≤ x0.toInt → kle SP PC b v) ∧ z.toInt = SP b ∧ sX4_bestMemories_b68 (sX4_bestMemories_l19 x0 x1 q) x0 x1 y3 y4 y (pcI y) (spN y (F 16) 8) F L = (if x1.toInt = 0 then Int32.ofNat b else F 13 6 - z, F) := by
      intro u
      unfold sX4_bestMemories_b68
      rw [b96, b89]
      by_cases d1 : x0.toInt < (pcI y).toInt
      · rw [if_pos d1]; exact no (by omega)
      rw [if_neg d1]
      by_cases d2 : y4.toInt < (spN y (F 16) 8).toInt
      · rw [if_pos d2]; exact yes (by omega) (by omega)
      · rw [if_neg d2]; exact no (by omega)
    by_cases d1 : (spN y (F 16) 8).toInt = y4.toInt
    · rw [if_pos d1]
      by_cases d2 : (pcI y).toInt < (pcI y3).toInt
      · rw [if_pos d2, b96, b89]
        by_cases d3 : x0.toInt < (pcI y).toInt
        · rw [if_pos d3]; exact no (by omega)
        rw [if_neg d3, if_neg (show ¬ y4.toInt < (spN y (F 16) 8).toInt from by omega)]
        exact yes (by omega) (by omega)
      · rw [if_neg d2]; exact b68 (by omega)
    · rw [if_neg d1]; exact b68 (by omega)
/-- what a week costs with a mask -/
theorem wR.mask {m : Nat → Int32} {f g : sg_F} (h : wR m 0 0 0 f g) (h3 : g 0 23 = 0) : g 0 31 + g 0 30 + spN (g 0 22) (f 16) 8 = f 13 6 := by
  obtain ⟨e1, e2, e3, e4, e5, e6⟩ := h
  rw [Int32.add_zero] at e4 e5
  have q : ∀ p : Nat, mpr m g p = m (67 + p) := fun p => by
    unfold mpr
    rw [h3, if_pos (by decide)]
  rw [q, q, q] at e5
  rw [e6, ← e5, ← e4]
  ac_rfl
/-- what the reference's questions about masks leave alone -/
def gS (m : Nat → Int32) (S : Int) (hl : Bool) (T : Nat → Int32) (n : Nat) (W : Nat → Int32) (N : Nat) (d : Int32) (LM : sg_L) (f g : sg_F) : Prop := wS m S hl T n W N d LM f g ∧ g 0 20 = -1 ∧ g 0 23 = 0 ∧ g 0 24 = -1 ∧ (∀ j : Nat, g 11 j = 0) ∧ f 13 7 = -1 ∧ f 13 9 = -1
theorem gS.put {m : Nat → Int32} {S : Int} {hl : Bool} {T : Nat → Int32} {n : Nat} {W : Nat → Int32} {N : Nat} {d : Int32} {LM : sg_L} {f g g1 : sg_F} (h : gS m S hl T n W N d LM f g) (k : mH g g1) (x : Int32) : gS m S hl T n W N d LM f (sg_up g1 0 (sgu (g1 0) 22 x)) := by
  obtain ⟨h1, h2, h3, h4, h5, h6, h7⟩ := h
  have k0 : ∀ j : Nat, j ≠ 22 → (j ≠ 12 ∧ j ≠ 13 ∧ j ≠ 14 ∧ j ≠ 15 ∧ j ≠ 16 ∧ j ≠ 29 ∧ j ≠ 30 ∧ j ≠ 31) → sg_up g1 0 (sgu (g1 0) 22 x) 0 j = g 0 j := fun j hj hk => by rw [sg_up_s, sgu_n hj]; exact k 0 j (by decide) (by decide) (by decide) (Or.inr hk)
  have kk : ∀ k1 j : Nat, k1 ≠ 8 → k1 ≠ 12 → k1 ≠ 13 → k1 ≠ 0 → sg_up g1 0 (sgu (g1 0) 22 x) k1 j = g k1 j := fun k1 j a b c e => by rw [sg_up_n e]; exact k k1 j a b c (Or.inl e)
  refine ⟨h1.chg h1.1 (fun _ _ _ _ _ _ _ => rfl) kk (k0 6 (by decide) (by decide)) (k0 11 (by decide) (by decide)) ⟨?_, fun z => ?_, ?_, fun z => ?_, fun s _ => ?_⟩, ?_, ?_, ?_, fun j => ?_, h6, h7⟩
  · rw [h6, k0 20 (by decide) (by decide), h2]
  · rw [h6] at z; exact absurd z (by decide)
  · rw [h7, k0 24 (by decide) (by decide), h4]
  · rw [h7] at z; exact absurd z (by decide)
  · rw [k0 23 (by decide) (by decide), h3]; decide
  · rw [k0 20 (by decide) (by decide)]; exact h2
  · rw [k0 23 (by decide) (by decide)]; exact h3
  · rw [k0 24 (by decide) (by decide)]; exact h4
  · rw [kk 11 j (by decide) (by decide) (by decide) (by decide)]; exact h5 j
/-- masks that were asked about -/
def inP (PC : Nat → Int) (M : Nat) (c : Int) (v u : Nat) : Prop := u < M ∧ (PC u < c ∨ (PC u = c ∧ u < v))
/-- the best so far -/
def bst (SP PC : Nat → Int) (M : Nat) (tot : Int) (c : Int) (v : Nat) (y4 y5 : Int32) : Prop := (y5 = -1 ∧ ∀ u : Nat, ¬ inP PC M c v u) ∨ ∃ b : Nat, y4 = Int32.ofNat b ∧ y5.toInt = tot - SP b ∧ 0 ≤ tot - SP b ∧ inP PC M c v b ∧ ∀ u : Nat, inP PC M c v u → kle SP PC b u
theorem memM_l {m : Nat → Int32} {S : Int} {hl : Bool} {T : Nat → Int32} {n : Nat} {W : Nat → Int32} {N : Nat} {d x1 x2 y6 : Int32} {LX LM : sg_L} {f F : sg_F} {SP PC : Nat → Int} {M : Nat} (rec : Int32 → Int32 → Int32 → sg_F → sg_L → Int32 × sg_F) (hS : S ≤ 8) (hm : mOk m) (hq : pOk m) (hN : N ≤ 21) (hF : F = xSq W (sX4_begin f LX) LX N) (hM : ((1 : Int32) <<< ((f 1 3 : Int32) &&& 31)).toInt = M) (hM2 : M ≤ 256) (hSP : ∀ v : Nat, v < 256 → SP v = (spN (Int32.ofNat v) (F 16) 8).toInt ∧ 0 ≤ SP v ∧ SP v ≤ (F 13 6).toInt) (hPC : ∀ v : Nat, PC v = (pcI (Int32.ofNat v)).toInt) (htot : (F 13 6).toInt ≤ 2000000000) : ∀ (q v : Nat) (y4 y5 : Int32) (g : sg_F), g 0 22 = Int32.ofNat v → g 0 6 = f 1 3 → v ≤ M → M - v < q → gS m S hl T n W N d LM f g → bst SP PC M (F 13 6).toInt y6.toInt v y4 y5 → ∃ (z4 z5 : Int32) (g1 : sg_F), sX12_memories_l67 rec d x1 x2 q y4 y5 y6 g LM = rec z4 z5 (y6 + 1) g1 LM ∧ gS m S hl T n W N d LM f g1 ∧ g1 0 6 = f 1 3 ∧ bst SP PC M (F 13 6).toInt y6.toInt M z4 z5 := by
  intro q
  induction q with
  | zero => intro v y4 y5 g _ _ _ h; exact absurd h (by omega)
  | succ q ih =>
    intro v y4 y5 g h22 h6 hv hq' hg hb
    have e9 : sX12_memories_l67 rec d x1 x2 (q + 1) y4 y5 y6 g LM = sX12_memories_h67 rec d x1 x2 (sX12_memories_l67 rec d x1 x2 q) y4 y5 y6 g LM := rfl
    rw [e9]
    unfold sX12_memories_h67; (repeat first | rw [spl_d] | rw [spl2_d])
    have ev : (Int32.ofNat v).toInt = v := nI_toInt (n := v) (by omega)
    rw [h22, h6]
    by_cases c : v < M
    case neg =>
      rw [if_neg (by omega)]
      have : v = M := by omega
      subst this
      exact ⟨y4, y5, g, rfl, hg, h6, hb⟩
    rw [if_pos (by omega), bits_M]
    have pv : (pcI (Int32.ofNat v)).toInt = PC v := (hPC v).symm
    have eo : Int32.ofNat v + 1 = Int32.ofNat (v + 1) := by
      refine Int32.toInt_inj.mp ?_
      have ev1 : (Int32.ofNat (v + 1)).toInt = ((v + 1 : Nat) : Int) := nI_toInt (n := v + 1) (by omega)
      rw [inc1 ev (by omega), ev1]
    have step : ∀ (g1 : sg_F) (a b : Int32), mH g g1 → bst SP PC M (F 13 6).toInt y6.toInt (v + 1) a b → ∃ (z4 z5 : Int32) (g2 : sg_F), sX12_memories_b143 rec (sX12_memories_l67 rec d x1 x2 q) d x1 x2 a b y6 g1 LM = rec z4 z5 (y6 + 1) g2 LM ∧ gS m S hl T n W N d LM f g2 ∧ g2 0 6 = f 1 3 ∧ bst SP PC M (F 13 6).toInt y6.toInt M z4 z5 := by
      intro g1 a b k hb1
      unfold sX12_memories_b143; (repeat first | rw [spl_d] | rw [spl2_d])
      have k22 : g1 0 22 = Int32.ofNat v := (k 0 22 (by decide) (by decide) (by decide) (Or.inr (by decide))).trans h22
      rw [k22, eo]
      exact ih (v + 1) a b _ (by rw [sg_up_s, sgu_s]) (by rw [sg_up_s, sgu_n (by decide), k 0 6 (by decide) (by decide) (by decide) (Or.inr (by decide))]; exact h6) (by omega) (by omega) (hg.put k _) hb1
    by_cases d1 : PC v = y6.toInt
    case neg =>
      rw [if_neg (by omega)]
      refine step g y4 y5 mH.rf ?_
      have same : ∀ u : Nat, inP PC M y6.toInt (v + 1) u ↔ inP PC M y6.toInt v u := by
        intro u
        unfold inP
        by_cases z : u = v
        · subst z; omega
        · omega
      rcases hb with ⟨b1, b2⟩ | ⟨b, b1, b2, b3, b4, b5⟩
      · exact Or.inl ⟨b1, fun u hu => b2 u ((same u).mp hu)⟩
      · exact Or.inr ⟨b, b1, b2, b3, (same b).mpr b4, fun u hu => b5 u ((same u).mp hu)⟩
    rw [if_pos (by omega)]
    obtain ⟨g1, p1, p2, p3, p4, p5, p6⟩ := hg.1.go hS hm hq hN LX
    rw [p1]
    dsimp only
    rw [← hF] at p2
    have g23 : g1 0 23 = 0 := (p3 0 23 (by decide) (by decide) (by decide) (Or.inr (by decide))).trans hg.2.2.1
    have g22 : g1 0 22 = Int32.ofNat v := (p3 0 22 (by decide) (by decide) (by decide) (Or.inr (by decide))).trans h22
    have mk := p2.mask g23
    rw [g22] at mk
    obtain ⟨s1, s2, s3⟩ := hSP v (by omega)
    obtain ⟨r, er⟩ : ∃ z : Int32, z = g1 0 31 + g1 0 30 := ⟨_, rfl⟩
    rw [← er] at mk ⊢
    have rI : r.toInt = (F 13 6).toInt - SP v := by
      have e : r = F 13 6 - spN (Int32.ofNat v) (F 16) 8 := by
        rw [← mk, Int32.add_sub_cancel]
      rw [e, s1]
      exact bn_subI (by omega) (by omega)
    -- it is taken
    have yes : (∀ b : Nat, y4 = Int32.ofNat b → y5.toInt = (F 13 6).toInt - SP b → SP b < SP v ∨ y5 = -1) → bst SP PC M (F 13 6).toInt y6.toInt (v + 1) (Int32.ofNat v) r := by
      intro u
      refine Or.inr ⟨v, rfl, rI, by omega, ⟨c, Or.inr ⟨d1, by omega⟩⟩, fun w hw => ?_⟩
      by_cases z : w = v
      · subst z; exact Or.inr ⟨rfl, Or.inr ⟨rfl, Nat.le_refl _⟩⟩
      · have hw1 : inP PC M y6.toInt v w := by
          unfold inP at hw ⊢
          omega
        rcases hb with ⟨b1, b2⟩ | ⟨b, b1, b2, b3, b4, b5⟩
        · exact absurd hw1 (b2 w)
        · have k := b5 w hw1
          have hu := u b b1 b2
          have km : (-1 : Int32).toInt = -1 := by decide
          have hs : SP b < SP v := by
            rcases hu with hu | hu
            · exact hu
            · exfalso; rw [hu] at b2; omega
          unfold kle at k ⊢
          omega
    have m134 : sX12_memories_b134 rec (sX12_memories_l67 rec d x1 x2 q) d x1 x2 (Int32.ofNat v) y6 r g1 LM = sX12_memories_b143 rec (sX12_memories_l67 rec d x1 x2 q) d x1 x2 (Int32.ofNat v) r y6 g1 LM := rfl
    by_cases d2 : y5.toInt < 0
    · rw [if_pos d2]
      unfold sX12_memories_b111; (repeat first | rw [spl_d] | rw [spl2_d])
      rw [if_pos d2, g22, m134]
      refine step g1 _ _ p3 (yes (fun b hb1 hb2 => ?_))
      rcases hb with ⟨b1, -⟩ | ⟨b', b1, b2, b3, -⟩
      · exact Or.inr b1
      · exfalso; omega
    rw [if_neg d2]
    by_cases d3 : r.toInt < y5.toInt
    · rw [if_pos d3]
      unfold sX12_memories_b111; (repeat first | rw [spl_d] | rw [spl2_d])
      rw [if_neg d2, if_pos d3, g22, m134]
      exact step g1 _ _ p3 (yes (fun b _ hb2 => Or.inl (by omega)))
    · rw [if_neg d3, if_neg d3]
      refine step g1 y4 y5 p3 ?_
      rcases hb with ⟨b1, b2⟩ | ⟨b, b1, b2, b3, b4, b5⟩
      · exfalso
        rw [b1] at d2
        exact d2 (by decide)
      · refine Or.inr ⟨b, b1, b2, b3, ?_, fun u hu => ?_⟩
        · unfold inP at b4 ⊢; omega
        · by_cases z : u = v
          · subst z
            unfold inP at b4
            unfold kle
            omega
          · refine b5 u ?_
            unfold inP at hu ⊢
            omega
/-! MEMORIES: the call -/
theorem memO_l {m : Nat → Int32} {S : Int} {hl : Bool} {T : Nat → Int32} {n : Nat} {W : Nat → Int32} {N : Nat} {d x1 x2 : Int32} {LX LM : sg_L} {f F : sg_F} {SP PC : Nat → Int} {M : Nat} (hS : S ≤ 8) (hm : mOk m) (hq : pOk m) (hN : N ≤ 21) (hF : F = xSq W (sX4_begin f LX) LX N) (hM : ((1 : Int32) <<< ((f 1 3 : Int32) &&& 31)).toInt = M) (hM1 : 1 ≤ M) (hM2 : M ≤ 256) (hSP : ∀ v : Nat, v < 256 → SP v = (spN (Int32.ofNat v) (F 16) 8).toInt ∧ 0 ≤ SP v ∧ SP v ≤ (F 13 6).toInt) (hPC : ∀ v : Nat, PC v = (pcI (Int32.ofNat v)).toInt) (hP0 : ∀ v : Nat, v < 256 → 0 ≤ PC v) (htot : (F 13 6).toInt ≤ 2000000000) (hx1 : 0 ≤ x1.toInt ∧ x1.toInt ≤ 3) : ∀ (q : Nat) (y4 y5 y6 : Int32) (g : sg_F), 0 ≤ y6.toInt → y6.toInt ≤ x1.toInt + 1 → x1.toInt + 1 - y6.toInt < (q : Int) → g 0 6 = f 1 3 → gS m S hl T n W N d LM f g → bst SP PC M (F 13 6).toInt y6.toInt 0 y4 y5 → ∃ (b : Nat) (z : Int32) (g1 : sg_F), b < M ∧ PC b ≤ x1.toInt ∧ (∀ v : Nat, v < M → PC v ≤ x1.toInt → kle SP PC b v) ∧ z.toInt = (F 13 6).toInt - SP b ∧ sX12_memories_l56 d x1 x2 q y4 y5 y6 g LM = (if x2.toInt = 0 then Int32.ofNat b else z, g1) ∧ gS m S hl T n W N d LM f g1 ∧ g1 0 22 = 0 := by
  have k1 : (1 : Int32).toInt = 1 := by decide
  intro q
  induction q with
  | zero => intro y4 y5 y6 g h0 h1 h; exact absurd h (by omega)
  | succ q ih =>
    intro y4 y5 y6 g h0 h1 hq' h6 hg hb
    have e9 : sX12_memories_l56 d x1 x2 (q + 1) y4 y5 y6 g LM = sX12_memories_h56 d x1 x2 (sX12_memories_l56 d x1 x2 q) y4 y5 y6 g LM := rfl
    rw [e9]
    unfold sX12_memories_h56; (repeat first | rw [spl_d] | rw [spl2_d])
    by_cases c : x1.toInt < y6.toInt
    · rw [if_pos c]
      have iP : ∀ u : Nat, inP PC M y6.toInt 0 u ↔ (u < M ∧ PC u ≤ x1.toInt) := by
        intro u
        unfold inP
        omega
      have P0 : PC 0 = 0 := by rw [hPC]; exact bits_0
      rcases hb with ⟨b1, b2⟩ | ⟨b, b1, b2, b3, b4, b5⟩
      · exact absurd ((iP 0).mpr ⟨by omega, by omega⟩) (b2 0)
      · obtain ⟨u1, u2⟩ := (iP b).mp b4
        refine ⟨b, y5, sg_up g 0 (sgu (g 0) 22 0), u1, u2, fun v hv hp => b5 v ((iP v).mpr ⟨hv, hp⟩), b2, ?_, hg.put mH.rf 0, by rw [sg_up_s, sgu_s]⟩
        by_cases z : x2.toInt = 0
        · rw [if_pos z, if_pos z, b1]
        · rw [if_neg z, if_neg z]
    · rw [if_neg c]
      obtain ⟨z4, z5, g1, p1, p2, p3, p4⟩ := memM_l (x1 := x1) (x2 := x2) (y6 := y6) (d := d) (LX := LX) (LM := LM) (W := W) (f := f) (F := F) (SP := SP) (PC := PC) (M := M) (m := m) (hl := hl) (T := T) (n := n) (sX12_memories_l56 d x1 x2 q) hS hm hq hN hF hM hM2 hSP hPC htot 488 0 y4 y5 (sg_up g 0 (sgu (g 0) 22 0)) (by rw [sg_up_s, sgu_s]; rfl) (by rw [sg_up_s, sgu_n (by decide)]; exact h6) (Nat.zero_le _) (by omega) (hg.put mH.rf 0) hb
      rw [p1]
      have e6 : (y6 + 1).toInt = y6.toInt + 1 := (bn_addI (by omega) (by omega)).trans (by omega)
      refine ih z4 z5 (y6 + 1) g1 (by omega) (by omega) (by omega) p3 p2 ?_
      have iP : ∀ u : Nat, inP PC M (y6 + 1).toInt 0 u ↔ inP PC M y6.toInt M u := by
        intro u
        unfold inP
        omega
      rcases p4 with ⟨b1, b2⟩ | ⟨b, b1, b2, b3, b4, b5⟩
      · exact Or.inl ⟨b1, fun u hu => b2 u ((iP u).mp hu)⟩
      · exact Or.inr ⟨b, b1, b2, b3, (iP b).mpr b4, fun u hu => b5 u ((iP u).mp hu)⟩
theorem t_memories {fX fX1 fM fM1 : sg_F} {LX LM : sg_L} {hl : Bool} {T : Nat → Int32} {n : Nat} {d s k r1 r2 : Int32} (h : rAll fX fM LX LM) (hm : mOk (fX 2)) (hq : pOk (fX 2)) (hc : xCx (fX 2) (fX 1 3).toInt hl T n fX) (hC : mCx (fX 2) hl T n fM) (e1 : (r1, fX1) = sX11_memories d s k fX LX) (e2 : (r2, fM1) = sX12_memories d s k fM LM) : r1 = r2 ∧ xLo (fX 2) (fX 1 3).toInt hl T n (fX1 9) ∧ rIdle fX1 fM1 := by
  have hb : 0 ≤ (fX 1 3).toInt ∧ (fX 1 3).toInt ≤ 8 := h.2.2.2.2.2.2 1 3
  have hid := h.2.2.2.2.2.1
  have e13 : fX 1 3 = fM 0 6 := Int32.toInt_inj.mp h.1.1
  have j0 : (0 : Int64).toInt = 0 := by decide
  have j1 : (1 : Int64).toInt = 1 := by decide
  have j3 : (3 : Int64).toInt = 3 := by decide
  have es := Int32.toInt_toInt64 s
  have ek := Int32.toInt_toInt64 k
  have no : ∀ x : Int32, (r1, fX1) = (x, fX) → (r2, fM1) = (x, fM) → r1 = r2 ∧ xLo (fX 2) (fX 1 3).toInt hl T n (fX1 9) ∧ rIdle fX1 fM1 := fun x e1 e2 => by
    obtain ⟨a1, b1⟩ := Prod.mk.inj e1
    obtain ⟨a2, b2⟩ := Prod.mk.inj e2
    exact ⟨by rw [a1, a2], by rw [b1]; exact hc.2.2.2, by rw [b1, b2]; exact hid⟩
  unfold sX11_memories at e1; (repeat first | rw [spl_d] at e1 | rw [spl2_d] at e1)
  unfold sX12_memories at e2; (repeat first | rw [spl_d] at e2 | rw [spl2_d] at e2)
  rw [pX_isShelf] at e1
  rw [pM_within, pM_within, es, ek, j0, j1, j3] at e2
  by_cases q1 : 0 ≤ d.toInt ∧ d.toInt ≤ 5
  case neg =>
    rw [if_neg q1, if_neg zk0] at e1
    rw [mbytes, if_neg q1, if_neg (by decide), if_pos rfl] at e2
    exact no _ e1 e2
  rw [if_pos q1, if_pos rfl] at e1
  have e2n : (¬ (0 ≤ s.toInt ∧ s.toInt ≤ 3) ∨ ¬ (0 ≤ k.toInt ∧ k.toInt ≤ 1)) → (r2, fM1) = (-1, fM) := fun z => by
    have inner : ∀ x : Int32 × sg_F, (if (if 0 ≤ s.toInt ∧ s.toInt ≤ 3 then (1 : Int32) else 0) = 1 then (if (if 0 ≤ k.toInt ∧ k.toInt ≤ 1 then (1 : Int32) else 0) = 1 then x else (-1, fM)) else (-1, fM)) = (-1, fM) := fun x => by
      by_cases z1 : 0 ≤ s.toInt ∧ s.toInt ≤ 3
      · have z2 : ¬ (0 ≤ k.toInt ∧ k.toInt ≤ 1) := z.resolve_left (fun w => w z1)
        rw [if_pos z1, if_pos rfl, if_neg z2, if_neg zk0]
      · rw [if_neg z1, if_neg zk0]
    by_cases y : sX12_bytesIs d fM LM = 1
    · rw [if_pos y, inner] at e2; exact e2
    · rw [if_neg y] at e2
      by_cases y2 : sX12_bytesIs d fM LM = -1
      · rw [if_pos y2] at e2; exact e2
      · rw [if_neg y2, inner] at e2; exact e2
  by_cases q2 : 0 ≤ s.toInt ∧ s.toInt ≤ 3
  case neg =>
    refine no (-1) ?_ (e2n (Or.inl q2))
    by_cases c1 : s.toInt < 0
    · rw [if_pos c1] at e1; exact e1
    · rw [if_neg c1, if_pos (by omega)] at e1; exact e1
  rw [if_neg (show ¬ s.toInt < 0 from by omega), if_neg (show ¬ 3 < s.toInt from by omega)] at e1
  by_cases q3 : 0 ≤ k.toInt ∧ k.toInt ≤ 1
  case neg =>
    refine no (-1) ?_ (e2n (Or.inr q3))
    by_cases c1 : k.toInt < 0
    · rw [if_pos c1] at e1; exact e1
    · rw [if_neg c1, if_pos (by omega)] at e1; exact e1
  rw [if_neg (show ¬ k.toInt < 0 from by omega), if_neg (show ¬ 1 < k.toInt from by omega)] at e1
  rw [if_pos q2, if_pos q3, if_pos rfl, if_pos rfl, if_pos rfl, if_pos rfl] at e2
  rcases h.week hc hC q1 with ⟨a, b⟩ | ⟨a, b⟩ | ⟨b, W, N, f1, a, hN, hw, e, -⟩
  · rw [a] at e1; dsimp only at e1; rw [if_neg (by decide)] at e1
    rw [b, if_neg (by decide), if_neg (by decide)] at e2
    exact no _ e1 e2
  · rw [a] at e1; dsimp only at e1; rw [if_neg (by decide)] at e1
    rw [b, if_neg (by decide), if_neg (by decide)] at e2
    exact no _ e1 e2
  · obtain ⟨i1, i2, i3, i4, i5, i6, i7⟩ := hid
    have e13' : f1 13 = fX 13 := e 13 (by decide) (by decide) (by decide)
    have e1' : f1 1 = fX 1 := e 1 (by decide) (by decide) (by decide)
    rw [a] at e1; dsimp only at e1; rw [if_pos (by decide)] at e1
    unfold sX4_bestMemories at e1; (repeat first | rw [spl_d] at e1 | rw [spl2_d] at e1)
    rw [b, if_pos rfl] at e2
    obtain ⟨g1, p1, p2, p3, p4, p5, p6⟩ := hw.go hb.2 hm hq hN LX
    rw [p6 (f1 10 2) N hw.2.2.2.2.2.2.2.2 (Nat.le_refl N)] at e1
    have x9 : f1 13 9 = -1 := by rw [e13']; exact i2
    have x7 : f1 13 7 = -1 := by rw [e13']; exact i1
    have hW := hw.2.2.2.2.2.1.W hN
    have hz := xbg f1 LX
    have hB := xSqB (f0 := f1) (L := LX) hb.2 hm hq hN hW (fun z => absurd z (by rw [x9]; decide)) hz.2.2.2.1 p5
    -- what is spared stays below what is paid
    have hJ : ∀ j : Nat, j ≤ N → jS (xSq W (sX4_begin f1 LX) LX j) := by
      intro j
      induction j with
      | zero =>
        intro _
        refine ⟨fun s hs => ?_, ?_⟩
        · show 0 ≤ (sX4_begin f1 LX 16 s).toInt
          rw [hz.2.1 s hs]; decide
        · show sI (sX4_begin f1 LX 16) 8 ≤ (sX4_begin f1 LX 13 6).toInt
          rw [hz.2.2.2.1]
          show 0 + (sX4_begin f1 LX 16 0).toInt + (sX4_begin f1 LX 16 1).toInt + (sX4_begin f1 LX 16 2).toInt + (sX4_begin f1 LX 16 3).toInt + (sX4_begin f1 LX 16 4).toInt + (sX4_begin f1 LX 16 5).toInt + (sX4_begin f1 LX 16 6).toInt + (sX4_begin f1 LX 16 7).toInt ≤ (0 : Int32).toInt
          rw [hz.2.1 0 (by decide), hz.2.1 1 (by decide), hz.2.1 2 (by decide), hz.2.1 3 (by decide), hz.2.1 4 (by decide), hz.2.1 5 (by decide), hz.2.1 6 (by decide), hz.2.1 7 (by decide)]
          decide
      | succ j ih =>
        intro hj
        obtain ⟨u1, u2, u3⟩ := p5 j (by omega)
        exact (ih (by omega)).pass (K := 70000 * (j : Int)) u1 hb.2 hm hq u3 (hW j (by omega)) (by rw [u2.2 9 (by decide) (by decide), x9]; decide) (hB j (by omega)) (by omega) LX
    have hJN := hJ N (Nat.le_refl N)
    have hBN := hB N (Nat.le_refl N)
    have hFN := p5 N (Nat.le_refl N)
    obtain ⟨F, eF⟩ : ∃ z : sg_F, z = xSq W (sX4_begin f1 LX) LX N := ⟨_, rfl⟩
    rw [← eF] at e1 hJN hBN hFN
    have F13 : F 1 3 = f1 1 3 := by rw [hFN.2.1.1 1 (by decide) (by decide) (by decide) (by decide) (by decide) (by decide)]
    -- how many masks
    have hMe : ∃ M : Nat, ((1 : Int32) <<< ((f1 1 3 : Int32) &&& 31)).toInt = M ∧ 1 ≤ M ∧ M ≤ 256 := by
      rcases bn_shl1 (y := f1 1 3) (by rw [e1']; exact hb.1) (by rw [e1']; exact hb.2) with ⟨-, z⟩ | ⟨-, z⟩ | ⟨-, z⟩ | ⟨-, z⟩ | ⟨-, z⟩ | ⟨-, z⟩ | ⟨-, z⟩ | ⟨-, z⟩ | ⟨-, z⟩
      · exact ⟨1, by rw [z]; rfl, by decide, by decide⟩
      · exact ⟨2, by rw [z]; rfl, by decide, by decide⟩
      · exact ⟨4, by rw [z]; rfl, by decide, by decide⟩
      · exact ⟨8, by rw [z]; rfl, by decide, by decide⟩
      · exact ⟨16, by rw [z]; rfl, by decide, by decide⟩
      · exact ⟨32, by rw [z]; rfl, by decide, by decide⟩
      · exact ⟨64, by rw [z]; rfl, by decide, by decide⟩
      · exact ⟨128, by rw [z]; rfl, by decide, by decide⟩
      · exact ⟨256, by rw [z]; rfl, by decide, by decide⟩
    obtain ⟨M, hM, hM1, hM2⟩ := hMe
    obtain ⟨SP, eSP⟩ : ∃ z : Nat → Int, z = fun v => (spN (Int32.ofNat v) (F 16) 8).toInt := ⟨_, rfl⟩
    obtain ⟨PC, ePC⟩ : ∃ z : Nat → Int, z = fun v => (pcI (Int32.ofNat v)).toInt := ⟨_, rfl⟩
    have hSP : ∀ v : Nat, SP v = (spN (Int32.ofNat v) (F 16) 8).toInt := fun v => by rw [eSP]
    have hPC : ∀ v : Nat, PC v = (pcI (Int32.ofNat v)).toInt := fun v => by rw [ePC]
    have hSPb : ∀ v : Nat, v < 256 → SP v = (spN (Int32.ofNat v) (F 16) 8).toInt ∧ 0 ≤ SP v ∧ SP v ≤ (F 13 6).toInt := fun v _ => by
      have := spN_I (k := Int32.ofNat v) (K := 70000 * (N : Int)) hJN.1 (by omega) 8 (Nat.le_refl 8) (by have := hJN.2; omega)
      have e := hSP v
      have := hJN.2
      exact ⟨e, by omega, by omega⟩
    have hP0 : ∀ v : Nat, v < 256 → 0 ≤ PC v := fun v hv => by rw [hPC]; exact (bits_fin ⟨v, hv⟩).2
    have P0 : PC 0 = 0 := by rw [hPC]; exact bits_0
    have S0 : SP 0 = 0 := by
      rw [hSP]
      show (spN 0 (F 16) 8).toInt = 0
      rw [spN_k0]; decide
    -- the class
    obtain ⟨bx, zx, u1, u2, u3, u4, u5⟩ := memX_l (SP := SP) (PC := PC) (F := F) (L := LX) (x0 := s) (x1 := k) (M := M) (by rw [F13]; exact hM) hM2 (fun v _ => hSP v) hPC 256 1 1 0 0 (by decide) (by decide) hM1 (by omega) ⟨0, by decide, rfl, by rw [S0]; decide, by omega, fun v hv _ => by
      have : v = 0 := by omega
      subst this
      exact Or.inr ⟨rfl, Or.inr ⟨rfl, Nat.le_refl _⟩⟩⟩
    rw [u5] at e1
    dsimp only at e1
    -- the reference
    have k0 : (0 : Int32).toInt = 0 := by decide
    obtain ⟨bm, zm, G, v1, v2, v3, v4, v5, v6, v7⟩ := memO_l (d := d) (x1 := s) (x2 := k) (LX := LX) (LM := LM) (W := W) (f := f1) (F := F) (SP := SP) (PC := PC) (M := M) (m := fX 2) (S := (fX 1 3).toInt) (hl := hl) (T := T) (n := n) (N := N) hb.2 hm hq hN eF hM hM1 hM2 hSPb hPC hP0 (by omega) q2 5 0 (-1) 0 fM (by decide) (by omega) (by omega) (by rw [← e13, e1']) ⟨hw, i3, i5, i6, i7, x7, x9⟩ (Or.inl ⟨rfl, fun u hu => by
      unfold inP at hu
      have := hP0 u (by omega)
      have z0 : (0 : Int32).toInt = 0 := by decide
      omega⟩)
    rw [v5] at e2
    have eb : bx = bm := kle_uniq (u3 bm v1 v2) (v3 bx u1 u2)
    subst eb
    obtain ⟨a1, b1⟩ := Prod.mk.inj e1
    obtain ⟨a2, b2⟩ := Prod.mk.inj e2
    refine ⟨?_, by rw [b1]; exact hFN.1.2.2.2, ?_⟩
    · rw [a1, a2]
      by_cases z : k.toInt = 0
      · rw [if_pos z, if_pos z]
      · rw [if_neg z, if_neg z]
        have hs := hSPb bx (by omega)
        have ez : (F 13 6 - zx).toInt = (F 13 6).toInt - zx.toInt := bn_subI (by omega) (by omega)
        exact Int32.toInt_inj.mp (by omega)
    · obtain ⟨w1, w2, w3, w4, w5, w6, w7⟩ := v6
      exact ⟨by rw [b1, hFN.2.1.2 7 (by decide) (by decide)]; exact x7, by rw [b1, hFN.2.1.2 9 (by decide) (by decide)]; exact x9, by rw [b2]; exact w2, by rw [b2]; exact v7, by rw [b2]; exact w3, by rw [b2]; exact w4, fun j => by rw [b2]; exact w5 j⟩
/-! WHERE THE SETTINGS STAND: sit, set, night, image, back, of -/
/-- shifts that were sat, the kept image -/
def rIm (fX fM : sg_F) : Prop := fX 29 0 = fM 0 38 ∧ (fX 28 5).toInt = (fM 0 43).toInt ∧ ((fM 0 43).toInt ≠ 0 → fX 30 0 = fM 19 3 ∧ ∀ p : Nat, p < 3 → fX 31 p = fM 19 p)
theorem rIm.zero : rIm f0X f0M := ⟨rfl, by decide, fun z => absurd z (by decide)⟩
theorem rIm.fr {fX fX1 fM fM1 : sg_F} (h : rIm fX fM) (a : fX1 29 0 = fX 29 0) (b : fX1 28 5 = fX 28 5) (c : fX1 30 0 = fX 30 0) (d : ∀ j : Nat, fX1 31 j = fX 31 j) (e : fM1 0 38 = fM 0 38) (i : fM1 0 43 = fM 0 43) (k : ∀ j : Nat, fM1 19 j = fM 19 j) : rIm fX1 fM1 := by
  unfold rIm
  rw [a, b, c, e, i, show fX1 31 = fX 31 from funext d, show fM1 19 = fM 19 from funext k]
  exact h
theorem cpy_lt {α : Type} {f g : Nat → α} {n p : Nat} (h : p < n) : va_cpy f g 0 0 n p = f p := by
  unfold va_cpy
  rw [if_pos ⟨Nat.zero_le _, by omega⟩]
  exact congrArg f (by omega)
/-- of -/
theorem t_of {fX fM : sg_F} {LX LM : sg_L} {a w r1 r2 : Int32} (hn : rNum fX fM) (hs : rSt fX fM) (hI : sgI loX hiX fX) (e1 : r1 = sX11_of a w fX LX) (e2 : r2 = sX12_of a w fM LM) : r1 = r2 := by
  have hb : 0 ≤ (fX 1 3).toInt ∧ (fX 1 3).toInt ≤ 8 := hI 1 3
  unfold sX11_of at e1; (repeat first | rw [spl_d] at e1 | rw [spl2_d] at e1)
  unfold sX12_of at e2; (repeat first | rw [spl_d] at e2 | rw [spl2_d] at e2)
  rw [pX_isPart] at e1
  rw [pM_isPart] at e2
  by_cases c : w.toInt = 11
  · rw [if_pos c] at e1 e2
    by_cases q : 0 ≤ a.toInt ∧ a.toInt ≤ 2
    · have := bn_clI q.1
      rw [if_pos q, if_pos rfl] at e1 e2
      rw [e1, e2]; exact hs _ (by omega)
    · rw [if_neg q, if_neg zk0] at e1 e2
      rw [e1, e2]
  · rw [if_neg c] at e1 e2
    rcases pl_two (LX := LX) (LM := LM) (a := a) (w := w) hn hb with ⟨x, m⟩ | ⟨w1, w2, x1, x2, m1, m2, m3⟩
    · rw [if_pos x] at e1
      rw [if_pos m] at e2
      rw [e1, e2]
    · have cx := bn_clI x1
      rw [if_neg (by omega)] at e1
      rw [if_neg (by omega)] at e2
      rw [e1, e2, m2]
      exact hn.2.1 _ (by omega)
/-- set -/
theorem t_sets {fX fX1 fM fM1 : sg_F} {LX LM : sg_L} {p v r1 r2 : Int32} (hs : rSt fX fM) (hI : sgI loX hiX fX) (e1 : (r1, fX1) = sX11_set p v fX LX) (e2 : (r2, fM1) = sX12_set p v fM LM) : r1 = r2 ∧ rSt fX1 fM1 ∧ fX1 29 0 = fX 29 0 := by
  have ev := Int32.toInt_toInt64 v
  unfold sX11_set sX2_turns at e1; (repeat first | rw [spl_d] at e1 | rw [spl2_d] at e1)
  unfold sX12_set at e2; (repeat first | rw [spl_d] at e2 | rw [spl2_d] at e2)
  rw [pX_isPart, pX_isSetting] at e1
  rw [pM_isPart, pM_isSetting, ev] at e2
  by_cases q : 0 ≤ p.toInt ∧ p.toInt ≤ 2
  case neg =>
    rw [if_neg q, if_neg zk0] at e1 e2
    obtain ⟨a1, b1⟩ := Prod.mk.inj e1
    obtain ⟨a2, b2⟩ := Prod.mk.inj e2
    rw [a1, a2, b1, b2]; exact ⟨rfl, hs, rfl⟩
  rw [if_pos q, if_pos rfl] at e1 e2
  by_cases q2 : 0 ≤ v.toInt ∧ v.toInt ≤ 60
  case neg =>
    rw [if_neg q2, if_neg zk0] at e1 e2
    obtain ⟨a1, b1⟩ := Prod.mk.inj e1
    obtain ⟨a2, b2⟩ := Prod.mk.inj e2
    rw [a1, a2, b1, b2]; exact ⟨rfl, hs, rfl⟩
  rw [if_pos q2, if_pos rfl] at e1 e2
  have cp := bn_clI q.1
  have h3 : 0 ≤ (fX 3 p.toNatClampNeg).toInt ∧ (fX 3 p.toNatClampNeg).toInt ≤ 60 := hI 3 _
  have ee := hs p.toNatClampNeg (by omega)
  have eab := ab_le q2 h3
  rw [← ee, siz_ab (x := v - fX 3 p.toNatClampNeg) (by omega)] at e2
  dsimp only at e1
  obtain ⟨a1, b1⟩ := Prod.mk.inj e1
  obtain ⟨a2, b2⟩ := Prod.mk.inj e2
  refine ⟨by rw [a1, a2]; rfl, fun i hi => ?_, ?_⟩
  · rw [b1, b2, sg_up_n (by decide), sg_up_s, sg_up_n (by decide), sg_up_s]
    by_cases z : i = p.toNatClampNeg
    · rw [z, sgu_s, sgu_s]
    · rw [sgu_n z, sgu_n z]; exact hs i hi
  · rw [b1, sg_up_s, sgu_n (by decide), sg_up_n (by decide)]
/-- night -/
theorem night_l {m : Nat → Int32} {hl : Bool} {T : Nat → Int32} {n : Nat} {LX LM : sg_L} (hq : pOk m) : ∀ (k i : Nat) (y a : Int32) (f g : sg_F), y.toInt = i → i ≤ 3 → 3 - i < k → f 2 = m → mCx m hl T n g → (∀ p : Nat, p < 3 → f 3 p = g 5 p) → (∀ p : Nat, p < 3 → 0 ≤ (f 3 p).toInt ∧ (f 3 p).toInt ≤ 60) → ∃ (r : Int32) (f1 g1 : sg_F), sX2_allSlip_l4 k a y f LX = (r, f1) ∧ sX12_night_l4 k a y g LM = (r, g1) ∧ ∀ p : Nat, p < 3 → f1 3 p = g1 5 p := by
  intro k
  induction k with
  | zero => intro i y a f g _ _ h; exact absurd h (by omega)
  | succ k ih =>
    intro i y a f g ey hi hk h2 hC hs hb
    have e9 : sX2_allSlip_l4 (k + 1) a y f LX = sX2_allSlip_h4 (sX2_allSlip_l4 k) a y f LX := rfl
    have e8 : sX12_night_l4 (k + 1) a y g LM = sX12_night_h4 (sX12_night_l4 k) a y g LM := rfl
    rw [e9, e8]
    unfold sX2_allSlip_h4 sX2_allSlip_b43 sX12_night_h4; (repeat first | rw [spl_d] | rw [spl2_d])
    by_cases c : i < 3
    case neg =>
      rw [if_neg (show ¬ y.toInt < 3 from by omega), if_neg (show ¬ y.toInt < 3 from by omega)]
      exact ⟨a, f, g, rfl, rfl, hs⟩
    rw [if_pos (show y.toInt < 3 from by omega), if_pos (show y.toInt < 3 from by omega), msl1 ey c]
    have e64 := hC.2.1 (64 + i) (by omega) (by omega)
    have hv := hb i c
    have ee := hs i c
    rw [slpX ey c, h2, ← ee, slpM ey c (by rw [e64]; exact hq _ (by omega) (by omega)) hv, e64]
    have sb := slp_b (hq (64 + i) (by omega) (by omega)) hv
    obtain ⟨r, er⟩ : ∃ z : Int32, z = slp (m (64 + i)) (f 3 i) := ⟨_, rfl⟩
    rw [← er] at sb ⊢
    have ey1 := inc1 ey (by omega)
    -- a slip never goes up
    have le : r.toInt ≤ (f 3 i).toInt := by
      have ha := hq (64 + i) (by omega) (by omega)
      have e : (f 3 i - m (64 + i)).toInt = (f 3 i).toInt - (m (64 + i)).toInt := bn_subI (by omega) (by omega)
      rcases sb.2.2 with ⟨b1, b2⟩ | ⟨b1, b2⟩
      · rw [b2, show (0 : Int32).toInt = 0 from by decide]; omega
      · rw [b2]; omega
    have nx : ∀ a1 : Int32, ∃ (r1 : Int32) (f1 g1 : sg_F), sX2_allSlip_l4 k a1 (y + 1) (sg_up f 3 (sgu (f 3) i r)) LX = (r1, f1) ∧ sX12_night_l4 k a1 (y + 1) (sg_up g 5 (sgu (g 5) i r)) LM = (r1, g1) ∧ ∀ p : Nat, p < 3 → f1 3 p = g1 5 p := by
      intro a1
      refine ih (i + 1) (y + 1) a1 _ _ ey1 (by omega) (by omega) (by rw [sg_up_n (by decide)]; exact h2) (hC.fr (fun j => by rw [sg_up_n (by decide)]) (fun j => by rw [sg_up_n (by decide)]) (by rw [sg_up_n (by decide)])) (fun p hp => ?_) (fun p hp => ?_)
      · rw [sg_up_s, sg_up_s]
        by_cases z : p = i
        · rw [z, sgu_s, sgu_s]
        · rw [sgu_n z, sgu_n z]; exact hs p hp
      · rw [sg_up_s]
        by_cases z : p = i
        · rw [z, sgu_s]; exact ⟨sb.1, sb.2.1⟩
        · rw [sgu_n z]; exact hb p hp
    by_cases d : r.toInt = (f 3 i).toInt
    · rw [if_pos d, if_neg (by omega)]; exact nx a
    · rw [if_neg d, if_pos (by omega)]; exact nx (a + 1)
theorem t_night {fX fX1 fM fM1 : sg_F} {LX LM : sg_L} {hl : Bool} {T : Nat → Int32} {n : Nat} {r1 r2 : Int32} (hs : rSt fX fM) (hI : sgI loX hiX fX) (hq : pOk (fX 2)) (hC : mCx (fX 2) hl T n fM) (e1 : (r1, fX1) = sX11_night fX LX) (e2 : (r2, fM1) = sX12_night fM LM) : r1 = r2 ∧ rSt fX1 fM1 := by
  obtain ⟨r, f1, g1, u1, u2, u3⟩ := night_l (LX := LX) (LM := LM) hq 4 0 0 0 fX fM (by decide) (by decide) (by decide) rfl hC hs (fun p _ => hI 3 p)
  have e1 : (r1, fX1) = sX2_allSlip_l4 4 0 0 fX LX := e1
  have e2 : (r2, fM1) = sX12_night_l4 4 0 0 fM LM := e2
  rw [u1] at e1
  rw [u2] at e2
  obtain ⟨a1, b1⟩ := Prod.mk.inj e1
  obtain ⟨a2, b2⟩ := Prod.mk.inj e2
  exact ⟨by rw [a1, a2], fun p hp => by rw [b1, b2]; exact u3 p hp⟩
/-- image -/
theorem t_image {fX fX1 fM fM1 : sg_F} {LX LM : sg_L} {r1 r2 : Int32} (hs : rSt fX fM) (hi : rIm fX fM) (e1 : (r1, fX1) = sX11_image fX LX) (e2 : (r2, fM1) = sX12_image fM LM) : r1 = r2 ∧ rIm fX1 fM1 := by
  unfold sX11_image sX2_keepImage at e1; (repeat first | rw [spl_d] at e1 | rw [spl2_d] at e1)
  unfold sX12_image at e2
  rw [spl_d] at e2
  dsimp only at e1
  obtain ⟨a1, b1⟩ := Prod.mk.inj e1
  have c0 : (0 : Int32).toNatClampNeg = 0 := by decide
  have c3 : (3 : Int32).toNatClampNeg = 3 := by decide
  have c5 : (5 : Int32).toNatClampNeg = 5 := by decide
  rw [c0, c3, c5] at b1
  -- the reference's loop
  have go : ∀ (k i : Nat) (y : Int32) (g : sg_F), y.toInt = i → i ≤ 8 → 8 - i < k → g 0 38 = fM 0 38 → g 0 43 = 1 → (∀ p : Nat, p < 3 → g 5 p = fM 5 p) → (∀ p : Nat, p < 3 → p < i → g 19 p = fM 5 p) → (3 < i → g 19 3 = fM 0 38) → ∃ g1 : sg_F, sX12_image_l7 k y g LM = (fM 0 38, g1) ∧ g1 0 38 = fM 0 38 ∧ g1 0 43 = 1 ∧ (∀ p : Nat, p < 3 → g1 19 p = fM 5 p) ∧ g1 19 3 = fM 0 38 := by
    have k3 : (3 : Int32).toInt = 3 := by decide
    intro k
    induction k with
    | zero => intro i y g _ _ h; exact absurd h (by omega)
    | succ k ih =>
      intro i y g ey hi' hk h38 h43 h5 h19 h193
      have e8 : sX12_image_l7 (k + 1) y g LM = sX12_image_h7 (sX12_image_l7 k) y g LM := rfl
      have ey1 := inc1 ey (by omega)
      have cy := bn_clI (x := y) (by omega)
      have eyn : y.toNatClampNeg = i := by omega
      rw [e8]
      unfold sX12_image_h7; (repeat first | rw [spl_d] | rw [spl2_d])
      by_cases c : i < 8
      case neg =>
        rw [if_neg (by omega), h38]
        exact ⟨g, rfl, h38, h43, fun p hp => h19 p hp (by omega), h193 (by omega)⟩
      rw [if_pos (by omega), eyn]
      by_cases d : i < 3
      · rw [if_pos (by omega)]
        refine ih (i + 1) (y + 1) _ ey1 (by omega) (by omega) (by rw [sg_up_n (by decide)]; exact h38) (by rw [sg_up_n (by decide)]; exact h43) (fun p hp => by rw [sg_up_n (by decide)]; exact h5 p hp) (fun p hp hpi => ?_) (fun z => by omega)
        rw [sg_up_s]
        by_cases z : p = i
        · rw [z, sgu_s]; exact h5 i d
        · rw [sgu_n z]; exact h19 p hp (by omega)
      · rw [if_neg (by omega)]
        refine ih (i + 1) (y + 1) _ ey1 (by omega) (by omega) (by rw [sg_up_n (by decide)]; exact h38) (by rw [sg_up_n (by decide)]; exact h43) (fun p hp => by rw [sg_up_n (by decide)]; exact h5 p hp) (fun p hp hpi => ?_) (fun z => ?_)
        · rw [sg_up_s, sgu_n (by omega)]; exact h19 p hp (by omega)
        · rw [sg_up_s]
          by_cases w : i = 3
          · rw [w, sgu_s]
            have e0 : y - 3 = 0 := Int32.toInt_inj.mp ((bn_subI (by omega) (by omega)).trans (by rw [show (0 : Int32).toInt = 0 from by decide]; omega))
            rw [e0]
            unfold sX12_led; (repeat first | rw [spl_d] | rw [spl2_d])
            rw [if_pos (by decide)]; exact h38
          · rw [sgu_n (by omega)]; exact h193 (by omega)
  obtain ⟨g1, u1, u2, u3, u4, u5⟩ := go 9 0 0 (sg_up fM 0 (sgu (fM 0) 43 1)) (by decide) (by decide) (by decide) (by rw [sg_up_s, sgu_n (by decide)]) (by rw [sg_up_s, sgu_s]) (fun p _ => by rw [sg_up_n (by decide)]) (fun p _ h => absurd h (by omega)) (fun h => absurd h (by omega))
  rw [u1] at e2
  obtain ⟨a2, b2⟩ := Prod.mk.inj e2
  have x29 : fX1 29 = fX 29 := by rw [b1, sg_up_n (by decide), sg_up_n (by decide), sg_up_n (by decide)]
  refine ⟨?_, ?_, ?_, fun _ => ⟨?_, fun p hp => ?_⟩⟩
  · rw [a1, a2, c0, sg_up_n (by decide), sg_up_n (by decide), sg_up_n (by decide)]; exact hi.1
  · rw [x29, b2, u2]; exact hi.1
  · rw [b1, b2, u3, sg_up_s, sgu_s]
  · rw [b1, b2, u5, sg_up_n (by decide), sg_up_n (by decide), sg_up_s, cpy_lt (by decide)]; exact hi.1
  · rw [b1, b2, u4 p hp, sg_up_n (by decide), sg_up_s, cpy_lt hp, sg_up_n (by decide)]; exact hs p hp
/-- back -/
theorem t_back {fX fX1 fM fM1 : sg_F} {LX LM : sg_L} {r1 r2 : Int32} (hs : rSt fX fM) (hi : rIm fX fM) (e1 : (r1, fX1) = sX11_back fX LX) (e2 : (r2, fM1) = sX12_back fM LM) : r1 = r2 ∧ rSt fX1 fM1 ∧ rIm fX1 fM1 := by
  unfold sX11_back sX2_layBack at e1; (repeat first | rw [spl_d] at e1 | rw [spl2_d] at e1)
  unfold sX12_back at e2; (repeat first | rw [spl_d] at e2 | rw [spl2_d] at e2)
  have c0 : (0 : Int32).toNatClampNeg = 0 := by decide
  have c3 : (3 : Int32).toNatClampNeg = 3 := by decide
  have c5 : (5 : Int32).toNatClampNeg = 5 := by decide
  by_cases c : (fM 0 43).toInt = 0
  · rw [if_pos (by rw [hi.2.1]; exact c)] at e1
    rw [if_pos c] at e2
    obtain ⟨a1, b1⟩ := Prod.mk.inj e1
    obtain ⟨a2, b2⟩ := Prod.mk.inj e2
    rw [a1, a2, b1, b2]; exact ⟨rfl, hs, hi⟩
  rw [if_neg (by rw [hi.2.1]; exact c)] at e1
  dsimp only at e1
  rw [if_neg c] at e2
  obtain ⟨h30, h31⟩ := hi.2.2 c
  have go : ∀ (k i : Nat) (y : Int32) (g : sg_F), y.toInt = i → i ≤ 3 → 3 - i < k → g 19 = fM 19 → g 0 43 = fM 0 43 → (∀ p : Nat, p < i → g 5 p = fM 19 p) → ∃ g1 : sg_F, sX12_back_l12 k y g LM = (fM 19 3, g1) ∧ g1 0 38 = fM 19 3 ∧ g1 0 43 = fM 0 43 ∧ g1 19 = fM 19 ∧ ∀ p : Nat, p < 3 → g1 5 p = fM 19 p := by
    intro k
    induction k with
    | zero => intro i y g _ _ h; exact absurd h (by omega)
    | succ k ih =>
      intro i y g ey hi' hk h19 h43 h5
      have e8 : sX12_back_l12 (k + 1) y g LM = sX12_back_h12 (sX12_back_l12 k) y g LM := rfl
      have ey1 := inc1 ey (by omega)
      have cy := bn_clI (x := y) (by omega)
      have eyn : y.toNatClampNeg = i := by omega
      rw [e8]
      unfold sX12_back_h12; (repeat first | rw [spl_d] | rw [spl2_d])
      by_cases d : i < 3
      · rw [if_pos (by omega), eyn, h19]
        refine ih (i + 1) (y + 1) _ ey1 (by omega) (by omega) (by rw [sg_up_n (by decide)]; exact h19) (by rw [sg_up_n (by decide)]; exact h43) (fun p hp => ?_)
        rw [sg_up_s]
        by_cases z : p = i
        · rw [z, sgu_s]
        · rw [sgu_n z]; exact h5 p (by omega)
      · rw [if_neg (by omega), c3]
        refine ⟨_, by rw [h19], ?_, ?_, ?_, fun p hp => ?_⟩
        · rw [sg_up_s, sgu_n (by decide), sg_up_s, sgu_n (by decide), sg_up_s, sgu_n (by decide), sg_up_s, sgu_n (by decide), sg_up_s, sgu_s]
        · rw [sg_up_s, sgu_n (by decide), sg_up_s, sgu_n (by decide), sg_up_s, sgu_n (by decide), sg_up_s, sgu_n (by decide), sg_up_s, sgu_n (by decide)]; exact h43
        · rw [sg_up_n (by decide), sg_up_n (by decide), sg_up_n (by decide), sg_up_n (by decide), sg_up_n (by decide)]; exact h19
        · rw [sg_up_n (by decide), sg_up_n (by decide), sg_up_n (by decide), sg_up_n (by decide), sg_up_n (by decide)]; exact h5 p (by omega)
  obtain ⟨g1, u1, u2, u3, u4, u5⟩ := go 4 0 0 fM (by decide) (by decide) (by decide) rfl rfl (fun p h => absurd h (by omega))
  rw [u1] at e2
  obtain ⟨a1, b1⟩ := Prod.mk.inj e1
  obtain ⟨a2, b2⟩ := Prod.mk.inj e2
  rw [c0, c3, c5] at b1
  have x29 : fX1 29 0 = fX 30 0 := by rw [b1, sg_up_n (by decide), sg_up_s, cpy_lt (by decide)]
  refine ⟨?_, fun p hp => ?_, ?_, ?_, fun z => ⟨?_, fun p hp => ?_⟩⟩
  · rw [a1, a2, c0, c5, sg_up_n (by decide), sg_up_s, cpy_lt (by decide)]; exact h30
  · rw [b1, b2, u5 p hp, sg_up_s, cpy_lt hp, sg_up_n (by decide)]; exact h31 p hp
  · rw [x29, b2, u2]; exact h30
  · rw [b1, b2, u3, sg_up_n (by decide), sg_up_n (by decide)]; exact hi.2.1
  · rw [b1, b2, u4, sg_up_n (by decide), sg_up_n (by decide)]; exact h30
  · rw [b1, b2, u4, sg_up_n (by decide), sg_up_n (by decide)]; exact h31 p hp
/-! LOSSES of a row: loss, never, best -/
/-- the class's loss of one who sits, or of nobody -/
theorem xlossN {m : Nat → Int32} {S : Int} {hl : Bool} {T : Nat → Int32} {n : Nat} {s p v : Int32} {f : sg_F} (h : xCx m S hl T n f) (hS : S ≤ 8) (hs : s.toInt = -1 ∨ (0 ≤ s.toInt ∧ s.toInt < S)) (hp : 0 ≤ p.toInt ∧ p.toInt ≤ 2) (hv : 0 ≤ v.toInt ∧ v.toInt ≤ 60) (L : sg_L) : (sX0_lossAt s p v f L).1 = (if 0 ≤ s.toInt then lsv m hl T n s p v else 0) ∧ xCx m S hl T n (sX0_lossAt s p v f L).2 ∧ ∀ q : Nat, q ≠ 8 → q ≠ 9 → (sX0_lossAt s p v f L).2 q = f q := by
  rcases hs with hs | hs
  · have e : sX0_lossAt s p v f L = (0, f) := by
      unfold sX0_lossAt; (repeat first | rw [spl_d] | rw [spl2_d])
      rw [if_pos hs]
    rw [e, if_neg (by omega)]
    exact ⟨rfl, h, fun _ _ _ => rfl⟩
  · rw [if_pos hs.1]
    exact xloss h hS hs hp hv L
theorem t_loss {fX fX1 fM fM1 : sg_F} {LX LM : sg_L} {hl : Bool} {T : Nat → Int32} {n : Nat} {s p v r1 r2 : Int32} (h : rAll fX fM LX LM) (hm : mOk (fX 2)) (hc : xCx (fX 2) (fX 1 3).toInt hl T n fX) (hC : mCx (fX 2) hl T n fM) (e1 : (r1, fX1) = sX11_loss s p v fX LX) (e2 : (r2, fM1) = sX12_loss s p v fM LM) : r1 = r2 ∧ xLo (fX 2) (fX 1 3).toInt hl T n (fX1 9) := by
  have hb : 0 ≤ (fX 1 3).toInt ∧ (fX 1 3).toInt ≤ 8 := h.2.2.2.2.2.2 1 3
  have e13 : (fX 1 3).toInt = (fM 0 6).toInt := h.1.1
  have es := Int32.toInt_toInt64 s
  have ev := Int32.toInt_toInt64 v
  have no : ∀ x : Int32, (r1, fX1) = (x, fX) → (r2, fM1) = (x, fM) → r1 = r2 ∧ xLo (fX 2) (fX 1 3).toInt hl T n (fX1 9) := fun x e1 e2 => by
    obtain ⟨a1, b1⟩ := Prod.mk.inj e1
    obtain ⟨a2, b2⟩ := Prod.mk.inj e2
    exact ⟨by rw [a1, a2], by rw [b1]; exact hc.2.2.2⟩
  unfold sX11_loss at e1; (repeat first | rw [spl_d] at e1 | rw [spl2_d] at e1)
  unfold sX12_loss at e2; (repeat first | rw [spl_d] at e2 | rw [spl2_d] at e2)
  rw [has_X, pX_isPart, pX_isSetting] at e1
  rw [pM_isSitter _ _ _ (by omega), pM_isPart, pM_isSetting, es, ev, ← e13] at e2
  by_cases q2 : 0 ≤ s.toInt ∧ s.toInt < (fX 1 3).toInt
  case neg => rw [if_neg q2, if_neg zk0] at e1 e2; exact no _ e1 e2
  rw [if_pos q2, if_pos rfl] at e1 e2
  by_cases qp : 0 ≤ p.toInt ∧ p.toInt ≤ 2
  case neg => rw [if_neg qp, if_neg zk0] at e1 e2; exact no _ e1 e2
  rw [if_pos qp, if_pos rfl] at e1 e2
  by_cases qv : 0 ≤ v.toInt ∧ v.toInt ≤ 60
  case neg => rw [if_neg qv, if_neg zk0] at e1 e2; exact no _ e1 e2
  rw [if_pos qv, if_pos rfl] at e1 e2
  obtain ⟨a1, b1⟩ := Prod.mk.inj e1
  obtain ⟨a2, b2⟩ := Prod.mk.inj e2
  obtain ⟨x1, x2, x3⟩ := xloss hc hb.2 q2 qp qv LX
  obtain ⟨y1, y2⟩ := mloss (s := s) hC hm (by omega) qp qv LM
  exact ⟨by rw [a1, a2, x1, y1], by rw [b1]; exact x2.2.2.2⟩
/-! sums over sitters and over shifts -/
theorem tms_b {W : Nat → Int32} {s : Nat} : ∀ i : Nat, i ≤ 21 → 0 ≤ (tms W s i).toInt ∧ (tms W s i).toInt ≤ (i : Int) := by
  have k1 : (1 : Int32).toInt = 1 := by decide
  intro i
  induction i with
  | zero => intro _; exact ⟨show 0 ≤ (0 : Int32).toInt by decide, show (0 : Int32).toInt ≤ ((0 : Nat) : Int) by decide⟩
  | succ i ih =>
    intro hi
    obtain ⟨a, b⟩ := ih (by omega)
    show 0 ≤ (if (W i).toInt = s then tms W s i + 1 else tms W s i).toInt ∧ (if (W i).toInt = s then tms W s i + 1 else tms W s i).toInt ≤ ((i + 1 : Nat) : Int)
    by_cases c : (W i).toInt = s
    · have e : (tms W s i + 1).toInt = (tms W s i).toInt + 1 := (bn_addI (by omega) (by omega)).trans (by omega)
      rw [if_pos c]; omega
    · rw [if_neg c]; omega
/-- who sits at all sits in a shift -/
theorem tms_ex {W : Nat → Int32} {s : Nat} : ∀ i : Nat, i ≤ 21 → 0 < (tms W s i).toInt → ∃ j : Nat, j < i ∧ (W j).toInt = s := by
  intro i
  induction i with
  | zero => intro _ h; exact absurd (show 0 < (0 : Int32).toInt from h) (by decide)
  | succ i ih =>
    intro hi h
    have h : 0 < (if (W i).toInt = s then tms W s i + 1 else tms W s i).toInt := h
    by_cases c : (W i).toInt = s
    · exact ⟨i, by omega, c⟩
    · rw [if_neg c] at h
      obtain ⟨j, a, b⟩ := ih (by omega) h
      exact ⟨j, by omega, b⟩
theorem tms_in {W : Nat → Int32} {s : Nat} : ∀ i : Nat, i ≤ 21 → ∀ j : Nat, j < i → (W j).toInt = s → 0 < (tms W s i).toInt := by
  have k1 : (1 : Int32).toInt = 1 := by decide
  intro i
  induction i with
  | zero => intro _ j h; exact absurd h (by omega)
  | succ i ih =>
    intro hi j hj e
    obtain ⟨a, b⟩ := tms_b (W := W) (s := s) i (by omega)
    show 0 < (if (W i).toInt = s then tms W s i + 1 else tms W s i).toInt
    by_cases c : (W i).toInt = s
    · have e : (tms W s i + 1).toInt = (tms W s i).toInt + 1 := (bn_addI (by omega) (by omega)).trans (by omega)
      rw [if_pos c]; omega
    · rw [if_neg c]
      have : j ≠ i := fun z => c (by rw [← z]; exact e)
      exact ih (by omega) j (by omega) e
def aS (h l : Nat → Int32) : Nat → Int32
  | 0 => 0
  | k + 1 => aS h l k + h k * l k
def nS (W : Nat → Int32) (l : Nat → Int32) : Nat → Int32
  | 0 => 0
  | i + 1 => nS W l i + (if 0 ≤ (W i).toInt then l (W i).toNatClampNeg else 0)
theorem aS_up {h h1 l : Nat → Int32} {s : Nat} (e : ∀ k : Nat, h1 k = if k = s then h k + 1 else h k) : ∀ k : Nat, aS h1 l k = aS h l k + (if s < k then l s else 0) := by
  intro k
  induction k with
  | zero => rw [if_neg (by omega)]; rfl
  | succ k ih =>
    show aS h1 l k + h1 k * l k = aS h l k + h k * l k + _
    rw [ih, e k]
    by_cases z : k = s
    · rw [if_pos z, if_neg (by omega), if_pos (by omega), z, Int32.add_mul, Int32.one_mul, Int32.add_zero, Int32.add_assoc]
    · rw [if_neg z]
      by_cases y : s < k
      · rw [if_pos y, if_pos (by omega), Int32.add_assoc, Int32.add_assoc, Int32.add_comm (l s)]
      · rw [if_neg y, if_neg (by omega), Int32.add_zero, Int32.add_zero]
theorem aS_0 {l : Nat → Int32} {h : Nat → Int32} (e : ∀ k : Nat, h k = 0) : ∀ k : Nat, aS h l k = 0 := by
  intro k
  induction k with
  | zero => rfl
  | succ k ih =>
    show aS h l k + h k * l k = 0
    rw [ih, e k, Int32.zero_mul]; rfl
theorem aS_nS {W l : Nat → Int32} {S : Int} (hS : S ≤ 8) : ∀ i : Nat, (∀ j : Nat, j < i → (W j).toInt = -1 ∨ (0 ≤ (W j).toInt ∧ (W j).toInt < S)) → aS (fun s => tms W s i) l 8 = nS W l i := by
  intro i
  induction i with
  | zero => intro _; exact aS_0 (fun _ => rfl) 8
  | succ i ih =>
    intro h
    show _ = nS W l i + (if 0 ≤ (W i).toInt then l (W i).toNatClampNeg else 0)
    rw [← ih (fun j hj => h j (by omega))]
    rcases h i (by omega) with w | ⟨w1, w2⟩
    · rw [if_neg (by omega), Int32.add_zero]
      have e : (fun s => tms W s (i + 1)) = fun s => tms W s i := funext fun s => by
        show (if (W i).toInt = s then tms W s i + 1 else tms W s i) = tms W s i
        rw [if_neg (by omega)]
      rw [e]
    · have cw := bn_clI w1
      rw [if_pos w1, aS_up (s := (W i).toNatClampNeg) (h := fun s => tms W s i) (h1 := fun s => tms W s (i + 1)) (fun k => ?_), if_pos (by omega)]
      show (if (W i).toInt = k then tms W k i + 1 else tms W k i) = if k = (W i).toNatClampNeg then tms W k i + 1 else tms W k i
      by_cases z : (W i).toInt = k
      · rw [if_pos z, if_pos (by omega)]
      · rw [if_neg z, if_neg (by omega)]
/-- what losses of a row find -/
def lS (m : Nat → Int32) (S : Int) (hl : Bool) (T : Nat → Int32) (n : Nat) (W : Nat → Int32) (N : Nat) (d : Int32) (LM : sg_L) (f g : sg_F) : Prop := xCx m S hl T n f ∧ mCx m hl T n g ∧ (∀ s : Nat, s < 8 → f 12 s = tms W s N) ∧ hWho W S N d g LM ∧ (sX12_shiftsOf d g LM).toInt = N ∧ ∀ j : Nat, g 11 j = 0
theorem lS.K {m : Nat → Int32} {S : Int} {hl : Bool} {T : Nat → Int32} {n : Nat} {W : Nat → Int32} {N : Nat} {d : Int32} {LM : sg_L} {f g f1 g1 : sg_F} (h : lS m S hl T n W N d LM f g) (c : xCx m S hl T n f1) (a : f1 12 = f 12) (b : mX g g1) : lS m S hl T n W N d LM f1 g1 := by
  obtain ⟨h1, h2, h3, h4, h5, h6⟩ := h
  refine ⟨c, h2.X b, fun s hs => by rw [a]; exact h3 s hs, h4.H (b 0 6 (by decide) (Or.inr (by decide))) (fun j => b 11 j (by decide) (Or.inl (by decide))), ?_, fun j => ?_⟩
  · rw [shfM_fr (show g1 23 = g 23 from funext fun j => b 23 j (by decide) (Or.inl (by decide)))]; exact h5
  · rw [b 11 j (by decide) (Or.inl (by decide))]; exact h6 j
/-- the loss of the sitter at a place -/
noncomputable def lvf (m : Nat → Int32) (hl : Bool) (T : Nat → Int32) (n : Nat) (p v : Int32) (s : Nat) : Int32 := lsv m hl T n (Int32.ofNat s) p v
theorem lvf_W {m : Nat → Int32} {hl : Bool} {T : Nat → Int32} {n : Nat} {p v w : Int32} (hw : 0 ≤ w.toInt ∧ w.toInt ≤ 7) : lvf m hl T n p v w.toNatClampNeg = lsv m hl T n w p v := by
  unfold lvf
  rw [ofNat8 hw]
/-- all losses, to the class -/
theorem xall {m : Nat → Int32} {S : Int} {hl : Bool} {T : Nat → Int32} {n : Nat} {W : Nat → Int32} {N : Nat} {p v : Int32} {L : sg_L} (hS : S ≤ 8) (hN : N ≤ 21) (hW : ∀ j : Nat, j < N → (W j).toInt = -1 ∨ (0 ≤ (W j).toInt ∧ (W j).toInt < S)) (hp : 0 ≤ p.toInt ∧ p.toInt ≤ 2) (hv : 0 ≤ v.toInt ∧ v.toInt ≤ 60) : ∀ (q i : Nat) (y : Int32) (f : sg_F), y.toInt = i → i ≤ 8 → 8 - i < q → xCx m S hl T n f → (∀ s : Nat, s < 8 → f 12 s = tms W s N) → ∃ f1 : sg_F, sX8_allLosses_l5 p v q (aS (fun s => tms W s N) (lvf m hl T n p v) i) y f L = (nS W (lvf m hl T n p v) N, f1) ∧ xCx m S hl T n f1 ∧ ∀ k : Nat, k ≠ 8 → k ≠ 9 → f1 k = f k := by
  intro q
  induction q with
  | zero => intro i y f _ _ h; exact absurd h (by omega)
  | succ q ih =>
    intro i y f ey hi hq hc h12
    have e9 : sX8_allLosses_l5 p v (q + 1) (aS (fun s => tms W s N) (lvf m hl T n p v) i) y f L = sX8_allLosses_h5 p v (sX8_allLosses_l5 p v q) (aS (fun s => tms W s N) (lvf m hl T n p v) i) y f L := rfl
    have cy := bn_clI (x := y) (by omega)
    have eyn : y.toNatClampNeg = i := by omega
    rw [e9]
    unfold sX8_allLosses_h5 sX8_allLosses_b50; (repeat first | rw [spl_d] | rw [spl2_d])
    by_cases c : i < 8
    case neg =>
      rw [if_neg (by omega)]
      have : i = 8 := by omega
      subst this
      rw [aS_nS hS N hW]
      exact ⟨f, rfl, hc, fun _ _ _ => rfl⟩
    rw [if_pos (by omega), eyn, h12 i c]
    have ey1 := inc1 ey (by omega)
    have st : aS (fun s => tms W s N) (lvf m hl T n p v) (i + 1) = aS (fun s => tms W s N) (lvf m hl T n p v) i + tms W i N * lvf m hl T n p v i := rfl
    obtain ⟨tb1, tb2⟩ := tms_b (W := W) (s := i) N hN
    by_cases z : 0 < (tms W i N).toInt
    · obtain ⟨j, j1, j2⟩ := tms_ex (W := W) (s := i) N hN z
      have hyS : 0 ≤ y.toInt ∧ y.toInt < S := by
        rcases hW j j1 with w | ⟨w1, w2⟩ <;> omega
      rw [if_pos z]
      obtain ⟨x1, x2, x3⟩ := xloss hc hS hyS hp hv L
      have el : lvf m hl T n p v i = lsv m hl T n y p v := by rw [← eyn]; exact lvf_W (by omega)
      rw [x1, ← el, ← st]
      obtain ⟨f1, u1, u2, u3⟩ := ih (i + 1) (y + 1) _ ey1 (by omega) (by omega) x2 (fun s hs => by rw [x3 12 (by decide) (by decide)]; exact h12 s hs)
      exact ⟨f1, u1, u2, fun k a b => (u3 k a b).trans (x3 k a b)⟩
    · rw [if_neg z]
      have e0 : tms W i N = 0 := Int32.toInt_inj.mp (by rw [show (0 : Int32).toInt = 0 from by decide]; omega)
      rw [e0, Int32.zero_mul, Int32.add_zero] at st
      rw [← st]
      exact ih (i + 1) (y + 1) f ey1 (by omega) (by omega) hc h12
/-- all losses, to the reference -/
theorem mall {m : Nat → Int32} {S : Int} {hl : Bool} {T : Nat → Int32} {n : Nat} {W : Nat → Int32} {N : Nat} {d p v : Int32} {LM : sg_L} {f : sg_F} (hm : mOk m) (hS : S ≤ 8) (hN : N ≤ 21) (hp : 0 ≤ p.toInt ∧ p.toInt ≤ 2) (hv : 0 ≤ v.toInt ∧ v.toInt ≤ 60) : ∀ (q i : Nat) (y : Int32) (g : sg_F), y.toInt = i → i ≤ N → N - i < q → lS m S hl T n W N d LM f g → ∃ g1 : sg_F, sX12_neverOf_l6 d p v q (nS W (lvf m hl T n p v) i) y g LM = (nS W (lvf m hl T n p v) N, g1) ∧ mX g g1 := by
  intro q
  induction q with
  | zero => intro i y g _ _ h; exact absurd h (by omega)
  | succ q ih =>
    intro i y g ey hi hq h
    have e9 : sX12_neverOf_l6 d p v (q + 1) (nS W (lvf m hl T n p v) i) y g LM = sX12_neverOf_h6 d p v (sX12_neverOf_l6 d p v q) (nS W (lvf m hl T n p v) i) y g LM := rfl
    have ey1 := inc1 ey (by omega)
    obtain ⟨h1, h2, h3, h4, h5, h6⟩ := h
    rw [e9]
    unfold sX12_neverOf_h6; (repeat first | rw [spl_d] | rw [spl2_d])
    by_cases c : i < N
    case neg =>
      rw [if_neg (by omega)]
      have : i = N := by omega
      subst this
      exact ⟨g, rfl, mX.rf⟩
    rw [if_pos (by omega)]
    have st : nS W (lvf m hl T n p v) (i + 1) = nS W (lvf m hl T n p v) i + (if 0 ≤ (W i).toInt then lvf m hl T n p v (W i).toNatClampNeg else 0) := rfl
    rcases h4 y i ey c with ⟨w1, w2⟩ | ⟨w1, w2, w3, w4⟩
    · have w2 : (sX12_whoSits d y g LM).toInt < 0 := w2.resolve_right (fun z => z (by rw [h6]; decide))
      rw [if_neg (by omega), Int32.add_zero] at st
      rw [if_pos w2, ← st]
      exact ih (i + 1) (y + 1) g ey1 (by omega) (by omega) ⟨h1, h2, h3, h4, h5, h6⟩
    · rw [w3, if_neg (show ¬ (W i).toInt < 0 from by omega)]
      obtain ⟨y1, y2⟩ := mloss (s := W i) h2 hm (by omega) hp hv LM
      rw [if_pos w1, lvf_W (by omega)] at st
      rw [y1, ← st]
      obtain ⟨g1, u1, u2⟩ := ih (i + 1) (y + 1) _ ey1 (by omega) (by omega) (lS.K ⟨h1, h2, h3, h4, h5, h6⟩ h1 rfl y2)
      exact ⟨g1, u1, y2.tr u2⟩
/-! NEVER and BEST -/
/-- how both answer for a row: no week -/
theorem rl_s {fX f1 fM : sg_F} {LM : sg_L} {d : Int32} {hl : Bool} {T : Nat → Int32} {n : Nat} {W : Nat → Int32} {N : Nat} (hid : rIdle fX fM) (hw : wS (fX 2) (fX 1 3).toInt hl T n W N d LM f1 fM) (hr : xRd W N fX f1) : lS (fX 2) (fX 1 3).toInt hl T n W N d LM f1 fM := by
  obtain ⟨h1, h2, h3, h4, h5, h6, h7, h8, h9⟩ := hw
  exact ⟨h1, h2, hr.2.2.2.1, h6, h7, hid.2.2.2.2.2.2⟩
theorem t_never {fX fX1 fM fM1 : sg_F} {LX LM : sg_L} {hl : Bool} {T : Nat → Int32} {n : Nat} {d p v r1 r2 : Int32} (h : rAll fX fM LX LM) (hm : mOk (fX 2)) (hc : xCx (fX 2) (fX 1 3).toInt hl T n fX) (hC : mCx (fX 2) hl T n fM) (e1 : (r1, fX1) = sX11_never d p v fX LX) (e2 : (r2, fM1) = sX12_never d p v fM LM) : r1 = r2 ∧ xLo (fX 2) (fX 1 3).toInt hl T n (fX1 9) := by
  have hb : 0 ≤ (fX 1 3).toInt ∧ (fX 1 3).toInt ≤ 8 := h.2.2.2.2.2.2 1 3
  have hid := h.2.2.2.2.2.1
  have ev := Int32.toInt_toInt64 v
  have no : ∀ x : Int32, (r1, fX1) = (x, fX) → (r2, fM1) = (x, fM) → r1 = r2 ∧ xLo (fX 2) (fX 1 3).toInt hl T n (fX1 9) := fun x e1 e2 => by
    obtain ⟨a1, b1⟩ := Prod.mk.inj e1
    obtain ⟨a2, b2⟩ := Prod.mk.inj e2
    exact ⟨by rw [a1, a2], by rw [b1]; exact hc.2.2.2⟩
  unfold sX11_never at e1; (repeat first | rw [spl_d] at e1 | rw [spl2_d] at e1)
  unfold sX12_never at e2; (repeat first | rw [spl_d] at e2 | rw [spl2_d] at e2)
  rw [pX_isShelf, pX_isPart, pX_isSetting] at e1
  rw [pM_isPart, pM_isSetting, ev] at e2
  by_cases q1 : 0 ≤ d.toInt ∧ d.toInt ≤ 5
  case neg =>
    rw [if_neg q1, if_neg zk0] at e1
    rw [mbytes, if_neg q1, if_neg (by decide), if_pos rfl] at e2
    exact no _ e1 e2
  rw [if_pos q1, if_pos rfl] at e1
  have e2n : (¬ (0 ≤ p.toInt ∧ p.toInt ≤ 2) ∨ ¬ (0 ≤ v.toInt ∧ v.toInt ≤ 60)) → (r2, fM1) = (-1, fM) := fun z => by
    have inner : ∀ x : Int32 × sg_F, (if (if 0 ≤ p.toInt ∧ p.toInt ≤ 2 then (1 : Int32) else 0) = 1 then (if (if 0 ≤ v.toInt ∧ v.toInt ≤ 60 then (1 : Int32) else 0) = 1 then x else (-1, fM)) else (-1, fM)) = (-1, fM) := fun x => by
      by_cases z1 : 0 ≤ p.toInt ∧ p.toInt ≤ 2
      · have z2 : ¬ (0 ≤ v.toInt ∧ v.toInt ≤ 60) := z.resolve_left (fun w => w z1)
        rw [if_pos z1, if_pos rfl, if_neg z2, if_neg zk0]
      · rw [if_neg z1, if_neg zk0]
    by_cases y : sX12_bytesIs d fM LM = 1
    · rw [if_pos y, inner] at e2; exact e2
    · rw [if_neg y] at e2
      by_cases y2 : sX12_bytesIs d fM LM = -1
      · rw [if_pos y2] at e2; exact e2
      · rw [if_neg y2, inner] at e2; exact e2
  by_cases q2 : 0 ≤ p.toInt ∧ p.toInt ≤ 2
  case neg => rw [if_neg q2, if_neg zk0] at e1; exact no _ e1 (e2n (Or.inl q2))
  rw [if_pos q2, if_pos rfl] at e1
  by_cases q3 : 0 ≤ v.toInt ∧ v.toInt ≤ 60
  case neg => rw [if_neg q3, if_neg zk0] at e1; exact no _ e1 (e2n (Or.inr q3))
  rw [if_pos q3, if_pos rfl] at e1
  rw [if_pos q2, if_pos q3, if_pos rfl, if_pos rfl, if_pos rfl, if_pos rfl] at e2
  rcases h.week hc hC q1 with ⟨a, b⟩ | ⟨a, b⟩ | ⟨b, W, N, f1, a, hN, hw, e, hr, -⟩
  · rw [a] at e1; dsimp only at e1; rw [if_neg (by decide)] at e1
    rw [b, if_neg (by decide), if_neg (by decide)] at e2
    exact no _ e1 e2
  · rw [a] at e1; dsimp only at e1; rw [if_neg (by decide)] at e1
    rw [b, if_neg (by decide), if_neg (by decide)] at e2
    exact no _ e1 e2
  · have hl1 := rl_s hid hw hr
    have hW := hw.2.2.2.2.2.1.W hN
    rw [a] at e1; dsimp only at e1; rw [if_pos (by decide)] at e1
    obtain ⟨F, x1, x2, x3⟩ := xall (L := LX) (p := p) (v := v) hb.2 hN hW q2 q3 9 0 0 f1 (by decide) (by decide) (by decide) hl1.1 hl1.2.2.1
    obtain ⟨G, y1, y2⟩ := mall (d := d) (LM := LM) (p := p) (v := v) (f := f1) hm hb.2 hN q2 q3 22 0 0 fM (by decide) (by omega) (by omega) hl1
    have x1 : sX8_allLosses p v f1 LX = (nS W (lvf (fX 2) hl T n p v) N, F) := x1
    have y1 : sX12_neverOf d p v fM LM = (nS W (lvf (fX 2) hl T n p v) N, G) := y1
    rw [x1] at e1
    rw [b, if_pos rfl, y1] at e2
    obtain ⟨a1, b1⟩ := Prod.mk.inj e1
    obtain ⟨a2, b2⟩ := Prod.mk.inj e2
    exact ⟨by rw [a1, a2], by rw [b1]; exact x2.2.2.2⟩
/-- the largest of the losses, or 0 -/
def isW (W l : Nat → Int32) (N : Nat) (z : Int32) : Prop := 0 ≤ z.toInt ∧ (∀ i : Nat, i < N → 0 ≤ (W i).toInt → (l (W i).toNatClampNeg).toInt ≤ z.toInt) ∧ (z = 0 ∨ ∃ i : Nat, i < N ∧ 0 ≤ (W i).toInt ∧ z = l (W i).toNatClampNeg)
theorem isW.one {W l : Nat → Int32} {N : Nat} {z w : Int32} (hz : isW W l N z) (hw : isW W l N w) : z = w := by
  have k0 : (0 : Int32).toInt = 0 := by decide
  obtain ⟨a1, a2, a3⟩ := hz
  obtain ⟨b1, b2, b3⟩ := hw
  refine Int32.toInt_inj.mp ?_
  have h1 : z.toInt ≤ w.toInt := by
    rcases a3 with a | ⟨i, i1, i2, i3⟩
    · rw [a]; omega
    · rw [i3]; exact b2 i i1 i2
  have h2 : w.toInt ≤ z.toInt := by
    rcases b3 with a | ⟨i, i1, i2, i3⟩
    · rw [a]; omega
    · rw [i3]; exact a2 i i1 i2
  omega
theorem lvf_b {m : Nat → Int32} {hl : Bool} {T : Nat → Int32} {n : Nat} {p v : Int32} {s : Nat} : 0 ≤ (lvf m hl T n p v s).toInt := lsv_b.1
theorem xworst {m : Nat → Int32} {S : Int} {hl : Bool} {T : Nat → Int32} {n : Nat} {W : Nat → Int32} {N : Nat} {p v : Int32} {L : sg_L} (hS : S ≤ 8) (hN : N ≤ 21) (hW : ∀ j : Nat, j < N → (W j).toInt = -1 ∨ (0 ≤ (W j).toInt ∧ (W j).toInt < S)) (hp : 0 ≤ p.toInt ∧ p.toInt ≤ 2) (hv : 0 ≤ v.toInt ∧ v.toInt ≤ 60) : ∀ (q i : Nat) (y a : Int32) (f : sg_F), y.toInt = i → i ≤ 8 → 8 - i < q → xCx m S hl T n f → (∀ s : Nat, s < 8 → f 12 s = tms W s N) → 0 ≤ a.toInt → (∀ j : Nat, j < N → 0 ≤ (W j).toInt → (W j).toInt < i → (lvf m hl T n p v (W j).toNatClampNeg).toInt ≤ a.toInt) → (a = 0 ∨ ∃ j : Nat, j < N ∧ 0 ≤ (W j).toInt ∧ a = lvf m hl T n p v (W j).toNatClampNeg) → ∃ (z : Int32) (f1 : sg_F), sX8_worstLoss_l5 p v q a y f L = (z, f1) ∧ isW W (lvf m hl T n p v) N z ∧ xCx m S hl T n f1 ∧ ∀ k : Nat, k ≠ 8 → k ≠ 9 → f1 k = f k := by
  intro q
  induction q with
  | zero => intro i y a f _ _ h; exact absurd h (by omega)
  | succ q ih =>
    intro i y a f ey hi hq hc h12 h0 hA hB
    have e9 : sX8_worstLoss_l5 p v (q + 1) a y f L = sX8_worstLoss_h5 p v (sX8_worstLoss_l5 p v q) a y f L := rfl
    have cy := bn_clI (x := y) (by omega)
    have eyn : y.toNatClampNeg = i := by omega
    rw [e9]
    unfold sX8_worstLoss_h5 sX8_worstLoss_b41; (repeat first | rw [spl_d] | rw [spl2_d])
    by_cases c : i < 8
    case neg =>
      rw [if_neg (by omega)]
      exact ⟨a, f, rfl, ⟨h0, fun j j1 j2 => hA j j1 j2 (by rcases hW j j1 with w | ⟨w1, w2⟩ <;> omega), hB⟩, hc, fun _ _ _ => rfl⟩
    rw [if_pos (by omega), eyn, h12 i c]
    have ey1 := inc1 ey (by omega)
    obtain ⟨tb1, tb2⟩ := tms_b (W := W) (s := i) N hN
    by_cases z : 0 < (tms W i N).toInt
    · obtain ⟨j, j1, j2⟩ := tms_ex (W := W) (s := i) N hN z
      have hyS : 0 ≤ y.toInt ∧ y.toInt < S := by
        rcases hW j j1 with w | ⟨w1, w2⟩ <;> omega
      rw [if_pos z]
      obtain ⟨x1, x2, x3⟩ := xloss hc hS hyS hp hv L
      have el : lvf m hl T n p v i = lsv m hl T n y p v := by rw [← eyn]; exact lvf_W (by omega)
      rw [x1, ← el]
      have mx := bn_maxI a (lvf m hl T n p v i)
      have lb := lvf_b (m := m) (hl := hl) (T := T) (n := n) (p := p) (v := v) (s := i)
      have ma : ∀ x y : Int32, (if x < y then y else x) = x ∨ (if x < y then y else x) = y := fun x y => by
        by_cases z : x < y
        · exact Or.inr (if_pos z)
        · exact Or.inl (if_neg z)
      have mb := ma a (lvf m hl T n p v i)
      obtain ⟨b, eb⟩ : ∃ z : Int32, z = (if a < lvf m hl T n p v i then lvf m hl T n p v i else a) := ⟨_, rfl⟩
      rw [← eb] at mx mb ⊢
      have cwj := bn_clI (x := W j) (by omega)
      obtain ⟨z1, f1, u1, u2, u3, u4⟩ := ih (i + 1) (y + 1) b _ ey1 (by omega) (by omega) x2 (fun s hs => by rw [x3 12 (by decide) (by decide)]; exact h12 s hs) (by omega) (fun k k1 k2 k3 => by
        have ck := bn_clI k2
        by_cases w : (W k).toInt = i
        · rw [show (W k).toNatClampNeg = i from by omega]; omega
        · have := hA k k1 k2 (by omega); omega) (by
        rcases mb with w | w
        · rw [w]; exact hB
        · exact Or.inr ⟨j, j1, by omega, by rw [w, show (W j).toNatClampNeg = i from by omega]⟩)
      exact ⟨z1, f1, u1, u2, u3, fun k a b => (u4 k a b).trans (x3 k a b)⟩
    · rw [if_neg z]
      refine ih (i + 1) (y + 1) a f ey1 (by omega) (by omega) hc h12 h0 (fun k k1 k2 k3 => ?_) hB
      by_cases w : (W k).toInt = i
      · exact absurd (tms_in (W := W) (s := i) N hN k k1 w) z
      · exact hA k k1 k2 (by omega)
theorem mworst {m : Nat → Int32} {S : Int} {hl : Bool} {T : Nat → Int32} {n : Nat} {W : Nat → Int32} {N : Nat} {d p v : Int32} {LM : sg_L} {f : sg_F} (hm : mOk m) (hS : S ≤ 8) (hN : N ≤ 21) (hp : 0 ≤ p.toInt ∧ p.toInt ≤ 2) (hv : 0 ≤ v.toInt ∧ v.toInt ≤ 60) : ∀ (q i : Nat) (y a : Int32) (g : sg_F), y.toInt = i → i ≤ N → N - i < q → lS m S hl T n W N d LM f g → 0 ≤ a.toInt → (∀ j : Nat, j < i → 0 ≤ (W j).toInt → (lvf m hl T n p v (W j).toNatClampNeg).toInt ≤ a.toInt) → (a = 0 ∨ ∃ j : Nat, j < N ∧ 0 ≤ (W j).toInt ∧ a = lvf m hl T n p v (W j).toNatClampNeg) → ∃ (z : Int32) (g1 : sg_F), sX12_worstOf_l6 d p v q a y g LM = (z, g1) ∧ isW W (lvf m hl T n p v) N z ∧ mX g g1 := by
  intro q
  induction q with
  | zero => intro i y a g _ _ h; exact absurd h (by omega)
  | succ q ih =>
    intro i y a g ey hi hq h h0 hA hB
    have e9 : sX12_worstOf_l6 d p v (q + 1) a y g LM = sX12_worstOf_h6 d p v (sX12_worstOf_l6 d p v q) a y g LM := rfl
    have ey1 := inc1 ey (by omega)
    obtain ⟨h1, h2, h3, h4, h5, h6⟩ := h
    rw [e9]
    unfold sX12_worstOf_h6; (repeat first | rw [spl_d] | rw [spl2_d])
    by_cases c : i < N
    case neg =>
      rw [if_neg (by omega)]
      exact ⟨a, g, rfl, ⟨h0, fun j j1 j2 => hA j (by omega) j2, hB⟩, mX.rf⟩
    rw [if_pos (by omega)]
    rcases h4 y i ey c with ⟨w1, w2⟩ | ⟨w1, w2, w3, w4⟩
    · have w2 : (sX12_whoSits d y g LM).toInt < 0 := w2.resolve_right (fun z => z (by rw [h6]; decide))
      rw [if_pos w2]
      refine ih (i + 1) (y + 1) a g ey1 (by omega) (by omega) ⟨h1, h2, h3, h4, h5, h6⟩ h0 (fun j j1 j2 => ?_) hB
      by_cases z : j = i
      · rw [z] at j2; exfalso; omega
      · exact hA j (by omega) j2
    · rw [w3, if_neg (show ¬ (W i).toInt < 0 from by omega)]
      obtain ⟨y1, y2⟩ := mloss (s := W i) h2 hm (by omega) hp hv LM
      have el : lvf m hl T n p v (W i).toNatClampNeg = lsv m hl T n (W i) p v := lvf_W (by omega)
      rw [y1, ← el]
      have lb := lvf_b (m := m) (hl := hl) (T := T) (n := n) (p := p) (v := v) (s := (W i).toNatClampNeg)
      have hk := lS.K ⟨h1, h2, h3, h4, h5, h6⟩ h1 rfl y2
      by_cases z : a.toInt < (lvf m hl T n p v (W i).toNatClampNeg).toInt
      · rw [if_pos z]
        obtain ⟨z1, g1, u1, u2, u3⟩ := ih (i + 1) (y + 1) (lvf m hl T n p v (W i).toNatClampNeg) _ ey1 (by omega) (by omega) hk (by omega) (fun j j1 j2 => by
          by_cases w : j = i
          · rw [w]; exact Int.le_refl _
          · have := hA j (by omega) j2; omega) (Or.inr ⟨i, c, w1, rfl⟩)
        exact ⟨z1, g1, u1, u2, y2.tr u3⟩
      · rw [if_neg z]
        obtain ⟨z1, g1, u1, u2, u3⟩ := ih (i + 1) (y + 1) a _ ey1 (by omega) (by omega) hk h0 (fun j j1 j2 => by
          by_cases w : j = i
          · rw [w]; omega
          · exact hA j (by omega) j2) hB
        exact ⟨z1, g1, u1, u2, y2.tr u3⟩
/-- one setting of best, both sides -/
theorem best1 {m : Nat → Int32} {S : Int} {hl : Bool} {T : Nat → Int32} {n : Nat} {W : Nat → Int32} {N : Nat} {d p v : Int32} {LX LM : sg_L} {f g : sg_F} (hm : mOk m) (hS : S ≤ 8) (hN : N ≤ 21) (hW : ∀ j : Nat, j < N → (W j).toInt = -1 ∨ (0 ≤ (W j).toInt ∧ (W j).toInt < S)) (hp : 0 ≤ p.toInt ∧ p.toInt ≤ 2) (hv : 0 ≤ v.toInt ∧ v.toInt ≤ 60) (h : lS m S hl T n W N d LM f g) : (∃ (z : Int32) (f1 g1 : sg_F), sX8_allLosses p v f LX = (z, f1) ∧ sX12_neverOf d p v g LM = (z, g1) ∧ lS m S hl T n W N d LM f1 g1 ∧ mX g g1 ∧ ∀ k : Nat, k ≠ 8 → k ≠ 9 → f1 k = f k) ∧ ∃ (z : Int32) (f1 g1 : sg_F), sX8_worstLoss p v f LX = (z, f1) ∧ sX12_worstOf d p v g LM = (z, g1) ∧ lS m S hl T n W N d LM f1 g1 ∧ mX g g1 ∧ ∀ k : Nat, k ≠ 8 → k ≠ 9 → f1 k = f k := by
  refine ⟨?_, ?_⟩
  · obtain ⟨F, x1, x2, x3⟩ := xall (L := LX) (p := p) (v := v) hS hN hW hp hv 9 0 0 f (by decide) (by decide) (by decide) h.1 h.2.2.1
    obtain ⟨G, y1, y2⟩ := mall (d := d) (LM := LM) (p := p) (v := v) (f := f) hm hS hN hp hv 22 0 0 g (by decide) (by omega) (by omega) h
    exact ⟨_, F, G, x1, y1, h.K x2 (x3 12 (by decide) (by decide)) y2, y2, x3⟩
  · obtain ⟨z, F, x1, x2, x3, x4⟩ := xworst (L := LX) (p := p) (v := v) hS hN hW hp hv 9 0 0 0 f (by decide) (by decide) (by decide) h.1 h.2.2.1 (by decide) (fun j _ j2 j3 => by exfalso; omega) (Or.inl rfl)
    obtain ⟨w, G, y1, y2, y3⟩ := mworst (d := d) (LM := LM) (p := p) (v := v) (f := f) hm hS hN hp hv 22 0 0 0 g (by decide) (by omega) (by omega) h (by decide) (fun j j1 => by exfalso; omega) (Or.inl rfl)
    have e := isW.one x2 y2
    subst e
    exact ⟨_, F, G, x1, y1, h.K x3 (x4 12 (by decide) (by decide)) y3, y3, x4⟩
theorem best_l {m : Nat → Int32} {S : Int} {hl : Bool} {T : Nat → Int32} {n : Nat} {W : Nat → Int32} {N : Nat} {d p k : Int32} {LX LM : sg_L} (hm : mOk m) (hS : S ≤ 8) (hN : N ≤ 21) (hW : ∀ j : Nat, j < N → (W j).toInt = -1 ∨ (0 ≤ (W j).toInt ∧ (W j).toInt < S)) (hp : 0 ≤ p.toInt ∧ p.toInt ≤ 2) : ∀ (q i : Nat) (y y3 y4 z4 z5 : Int32) (f g : sg_F), y.toInt = i → i ≤ 61 → 61 - i < q → lS m S hl T n W N d LM f g → ((i = 0 ∧ z4 = -1) ∨ (0 < i ∧ y3 = z4 ∧ y4 = z5 ∧ 0 ≤ z4.toInt)) → ∃ (r : Int32) (f1 g1 : sg_F), sX8_bestOf_l8 p k q y3 y4 y f LX = (r, f1) ∧ sX12_best_l64 d p k q z4 z5 y g LM = (r, g1) ∧ xCx m S hl T n f1 := by
  intro q
  induction q with
  | zero => intro i y y3 y4 z4 z5 f g _ _ h; exact absurd h (by omega)
  | succ q ih =>
    intro i y y3 y4 z4 z5 f g ey hi hq h hb
    have e9 : sX8_bestOf_l8 p k (q + 1) y3 y4 y f LX = sX8_bestOf_h8 p k (sX8_bestOf_l8 p k q) y3 y4 y f LX := rfl
    have e8 : sX12_best_l64 d p k (q + 1) z4 z5 y g LM = sX12_best_h64 d p k (sX12_best_l64 d p k q) z4 z5 y g LM := rfl
    have ey1 := inc1 ey (by omega)
    rw [e9, e8]
    unfold sX8_bestOf_h8 sX12_best_h64; (repeat first | rw [spl_d] | rw [spl2_d])
    by_cases c : i ≤ 60
    case neg =>
      rw [if_pos (show 60 < y.toInt from by omega), if_neg (show ¬ y.toInt < 61 from by omega)]
      rcases hb with ⟨a, -⟩ | ⟨a, b1, b2, -⟩
      · exfalso; omega
      · rw [b1, b2]
        by_cases z : (k - k / 2 * 2).toInt = 0
        · rw [if_pos z, if_pos z]; exact ⟨_, _, _, rfl, rfl, h.1⟩
        · rw [if_neg z, if_neg z]; exact ⟨_, _, _, rfl, rfl, h.1⟩
    rw [if_neg (show ¬ 60 < y.toInt from by omega), if_pos (show y.toInt < 61 from by omega)]
    -- with what one setting gives
    have go : ∀ (z : Int32) (f1 g1 : sg_F), lS m S hl T n W N d LM f1 g1 → ∃ (r : Int32) (f2 g2 : sg_F), (if y.toInt = 0 then sX8_bestOf_b51 (sX8_bestOf_l8 p k q) p k y z f1 LX else if z.toInt < y4.toInt then sX8_bestOf_b51 (sX8_bestOf_l8 p k q) p k y z f1 LX else sX8_bestOf_b58 (sX8_bestOf_l8 p k q) p k y3 y4 y f1 LX) = (r, f2) ∧ (if z4.toInt < 0 then sX12_best_b109 (sX12_best_l64 d p k q) d p k y z g1 LM else if z.toInt < z5.toInt then sX12_best_b109 (sX12_best_l64 d p k q) d p k y z g1 LM else sX12_best_b117 (sX12_best_l64 d p k q) d p k z4 z5 y g1 LM) = (r, g2) ∧ xCx m S hl T n f2 := by
      intro z f1 g1 h1
      have b51 : sX8_bestOf_b51 (sX8_bestOf_l8 p k q) p k y z f1 LX = sX8_bestOf_l8 p k q y z (y + 1) f1 LX := rfl
      have b58 : sX8_bestOf_b58 (sX8_bestOf_l8 p k q) p k y3 y4 y f1 LX = sX8_bestOf_l8 p k q y3 y4 (y + 1) f1 LX := rfl
      have c109 : sX12_best_b109 (sX12_best_l64 d p k q) d p k y z g1 LM = sX12_best_l64 d p k q y z (y + 1) g1 LM := rfl
      have c117 : sX12_best_b117 (sX12_best_l64 d p k q) d p k z4 z5 y g1 LM = sX12_best_l64 d p k q z4 z5 (y + 1) g1 LM := rfl
      rw [b51, b58, c109, c117]
      rcases hb with ⟨a, b⟩ | ⟨a, b1, b2, b3⟩
      · rw [if_pos (show y.toInt = 0 from by omega), if_pos (show z4.toInt < 0 from by rw [b]; decide)]
        exact ih (i + 1) (y + 1) y z y z f1 g1 ey1 (by omega) (by omega) h1 (Or.inr ⟨by omega, rfl, rfl, by omega⟩)
      · rw [if_neg (show ¬ y.toInt = 0 from by omega), if_neg (show ¬ z4.toInt < 0 from by omega), b2]
        by_cases w : z.toInt < z5.toInt
        · rw [if_pos w, if_pos w]
          exact ih (i + 1) (y + 1) y z y z f1 g1 ey1 (by omega) (by omega) h1 (Or.inr ⟨by omega, rfl, rfl, by omega⟩)
        · rw [if_neg w, if_neg w]
          exact ih (i + 1) (y + 1) y3 z5 z4 z5 f1 g1 ey1 (by omega) (by omega) h1 (Or.inr ⟨by omega, b1, rfl, b3⟩)
    obtain ⟨⟨z, f1, g1, u1, u2, u3, u4, u5⟩, ⟨w, f2, g2, v1, v2, v3, v4, v5⟩⟩ := best1 (d := d) (LX := LX) (LM := LM) hm hS hN hW hp (v := y) ⟨by omega, by omega⟩ h
    by_cases ck : k.toInt < 2
    · rw [if_pos ck, if_pos ck, u1, u2]
      exact go z f1 g1 u3
    · rw [if_neg ck, if_neg ck, v1, v2]
      exact go w f2 g2 v3
/-! BEST: the call -/
theorem tos_b {W : Nat → Int32} : ∀ i : Nat, i ≤ 21 → 0 ≤ (tos W i).toInt ∧ (tos W i).toInt ≤ (i : Int) ∧ ((tos W i).toInt = 0 ↔ ∀ j : Nat, j < i → (W j).toInt < 0) := by
  have k1 : (1 : Int32).toInt = 1 := by decide
  intro i
  induction i with
  | zero => intro _; exact ⟨show 0 ≤ (0 : Int32).toInt by decide, show (0 : Int32).toInt ≤ ((0 : Nat) : Int) by decide, ⟨fun _ j h => absurd h (by omega), fun _ => show (0 : Int32).toInt = 0 by decide⟩⟩
  | succ i ih =>
    intro hi
    obtain ⟨a, b, c⟩ := ih (by omega)
    have e0 : tos W (i + 1) = if 0 ≤ (W i).toInt then tos W i + 1 else tos W i := rfl
    rw [e0]
    by_cases z : 0 ≤ (W i).toInt
    · have e : (tos W i + 1).toInt = (tos W i).toInt + 1 := (bn_addI (by omega) (by omega)).trans (by omega)
      rw [if_pos z]
      refine ⟨by omega, by omega, ⟨fun h => by omega, fun h => ?_⟩⟩
      have := h i (by omega)
      omega
    · rw [if_neg z]
      refine ⟨a, by omega, ⟨fun h j hj => ?_, fun h => c.mpr (fun j hj => h j (by omega))⟩⟩
      by_cases y : j = i
      · rw [y]; omega
      · exact c.mp h j (by omega)
theorem many {m : Nat → Int32} {S : Int} {hl : Bool} {T : Nat → Int32} {n : Nat} {W : Nat → Int32} {N : Nat} {d : Int32} {LM : sg_L} {f g : sg_F} (h : lS m S hl T n W N d LM f g) : ∀ (q i : Nat) (y : Int32), y.toInt = i → i ≤ N → N - i < q → N ≤ 21 → (∀ j : Nat, j < i → (W j).toInt < 0) → (sX12_anySits_l2 d q y g LM = 1 ∧ ∃ j : Nat, j < N ∧ 0 ≤ (W j).toInt) ∨ (sX12_anySits_l2 d q y g LM = 0 ∧ ∀ j : Nat, j < N → (W j).toInt < 0) := by
  obtain ⟨h1, h2, h3, h4, h5, h6⟩ := h
  intro q
  induction q with
  | zero => intro i y _ _ h; exact absurd h (by omega)
  | succ q ih =>
    intro i y ey hi hq hN hw
    have e9 : sX12_anySits_l2 d (q + 1) y g LM = sX12_anySits_h2 d (sX12_anySits_l2 d q) y g LM := rfl
    have ey1 := inc1 ey (by omega)
    rw [e9]
    unfold sX12_anySits_h2; (repeat first | rw [spl_d] | rw [spl2_d])
    by_cases c : i < N
    case neg =>
      rw [if_neg (by omega)]
      exact Or.inr ⟨rfl, fun j hj => hw j (by omega)⟩
    rw [if_pos (by omega)]
    rcases h4 y i ey c with ⟨w1, w2⟩ | ⟨w1, w2, w3, w4⟩
    · have w2 : (sX12_whoSits d y g LM).toInt < 0 := w2.resolve_right (fun z => z (by rw [h6]; decide))
      rw [if_pos w2]
      refine ih (i + 1) (y + 1) ey1 (by omega) (by omega) hN (fun j hj => ?_)
      by_cases z : j = i
      · rw [z]; omega
      · exact hw j (by omega)
    · rw [w3, if_neg (show ¬ (W i).toInt < 0 from by omega)]
      exact Or.inl ⟨rfl, i, c, w1⟩
theorem t_best {fX fX1 fM fM1 : sg_F} {LX LM : sg_L} {hl : Bool} {T : Nat → Int32} {n : Nat} {d p k r1 r2 : Int32} (h : rAll fX fM LX LM) (hm : mOk (fX 2)) (hc : xCx (fX 2) (fX 1 3).toInt hl T n fX) (hC : mCx (fX 2) hl T n fM) (e1 : (r1, fX1) = sX11_best d p k fX LX) (e2 : (r2, fM1) = sX12_best d p k fM LM) : r1 = r2 ∧ xLo (fX 2) (fX 1 3).toInt hl T n (fX1 9) := by
  have hb : 0 ≤ (fX 1 3).toInt ∧ (fX 1 3).toInt ≤ 8 := h.2.2.2.2.2.2 1 3
  have hid := h.2.2.2.2.2.1
  have ek := Int32.toInt_toInt64 k
  have j0 : (0 : Int64).toInt = 0 := by decide
  have j3 : (3 : Int64).toInt = 3 := by decide
  have no : ∀ x : Int32, (r1, fX1) = (x, fX) → (r2, fM1) = (x, fM) → r1 = r2 ∧ xLo (fX 2) (fX 1 3).toInt hl T n (fX1 9) := fun x e1 e2 => by
    obtain ⟨a1, b1⟩ := Prod.mk.inj e1
    obtain ⟨a2, b2⟩ := Prod.mk.inj e2
    exact ⟨by rw [a1, a2], by rw [b1]; exact hc.2.2.2⟩
  unfold sX11_best at e1; (repeat first | rw [spl_d] at e1 | rw [spl2_d] at e1)
  unfold sX12_best at e2; (repeat first | rw [spl_d] at e2 | rw [spl2_d] at e2)
  rw [pX_isShelf, pX_isPart] at e1
  rw [pM_isPart, pM_within, ek, j0, j3] at e2
  by_cases q1 : 0 ≤ d.toInt ∧ d.toInt ≤ 5
  case neg =>
    rw [if_neg q1, if_neg zk0] at e1
    rw [mbytes, if_neg q1, if_neg (by decide), if_pos rfl] at e2
    exact no _ e1 e2
  rw [if_pos q1, if_pos rfl] at e1
  have e2n : (¬ (0 ≤ p.toInt ∧ p.toInt ≤ 2) ∨ ¬ (0 ≤ k.toInt ∧ k.toInt ≤ 3)) → (r2, fM1) = (-1, fM) := fun z => by
    have inner : ∀ x : Int32 × sg_F, (if (if 0 ≤ p.toInt ∧ p.toInt ≤ 2 then (1 : Int32) else 0) = 1 then (if (if 0 ≤ k.toInt ∧ k.toInt ≤ 3 then (1 : Int32) else 0) = 1 then x else (-1, fM)) else (-1, fM)) = (-1, fM) := fun x => by
      by_cases z1 : 0 ≤ p.toInt ∧ p.toInt ≤ 2
      · have z2 : ¬ (0 ≤ k.toInt ∧ k.toInt ≤ 3) := z.resolve_left (fun w => w z1)
        rw [if_pos z1, if_pos rfl, if_neg z2, if_neg zk0]
      · rw [if_neg z1, if_neg zk0]
    by_cases y : sX12_bytesIs d fM LM = 1
    · rw [if_pos y, inner] at e2; exact e2
    · rw [if_neg y] at e2
      by_cases y2 : sX12_bytesIs d fM LM = -1
      · rw [if_pos y2] at e2; exact e2
      · rw [if_neg y2, inner] at e2; exact e2
  by_cases q2 : 0 ≤ p.toInt ∧ p.toInt ≤ 2
  case neg => rw [if_neg q2, if_neg zk0] at e1; exact no _ e1 (e2n (Or.inl q2))
  rw [if_pos q2, if_pos rfl] at e1
  by_cases q3 : 0 ≤ k.toInt ∧ k.toInt ≤ 3
  case neg =>
    refine no (-1) ?_ (e2n (Or.inr q3))
    by_cases c1 : k.toInt < 0
    · rw [if_pos c1] at e1; exact e1
    · rw [if_neg c1, if_pos (by omega)] at e1; exact e1
  rw [if_neg (show ¬ k.toInt < 0 from by omega), if_neg (show ¬ 3 < k.toInt from by omega)] at e1
  rw [if_pos q2, if_pos q3, if_pos rfl, if_pos rfl, if_pos rfl, if_pos rfl] at e2
  rcases h.week hc hC q1 with ⟨a, b⟩ | ⟨a, b⟩ | ⟨b, W, N, f1, a, hN, hw, e, hr, -⟩
  · rw [a] at e1; dsimp only at e1; rw [if_neg (by decide)] at e1
    rw [b, if_neg (by decide), if_neg (by decide)] at e2
    exact no _ e1 e2
  · rw [a] at e1; dsimp only at e1; rw [if_neg (by decide)] at e1
    rw [b, if_neg (by decide), if_neg (by decide)] at e2
    exact no _ e1 e2
  · have hl1 := rl_s hid hw hr
    have hW := hw.2.2.2.2.2.1.W hN
    rw [a] at e1; dsimp only at e1; rw [if_pos (by decide)] at e1
    rw [b, if_pos rfl] at e2
    obtain ⟨t1, t2, t3⟩ := tos_b (W := W) N hN
    have e10 : f1 10 3 = tos W N := hr.2.1
    have my := many hl1 22 0 0 (by decide) (Nat.zero_le _) (by omega) hN (fun j hj => absurd hj (by omega))
    have ea : sX12_anySits d fM LM = sX12_anySits_l2 d 22 0 fM LM := rfl
    rw [ea] at e2
    rcases my with ⟨u1, j, j1, j2⟩ | ⟨u1, u2⟩
    · rw [u1, if_neg (by decide)] at e2
      rw [if_neg (show ¬ (f1 10 3).toInt = 0 from fun z => by rw [e10] at z; have := t3.mp z j j1; omega)] at e1
      obtain ⟨r, F, G, x1, x2, x3⟩ := best_l (d := d) (p := p) (k := k) (LX := LX) (LM := LM) hm hb.2 hN hW q2 62 0 0 0 0 (-1) 0 f1 fM (by decide) (by decide) (by decide) hl1 (Or.inl ⟨rfl, rfl⟩)
      have x1 : sX8_bestOf p k f1 LX = (r, F) := x1
      rw [x1] at e1
      rw [x2] at e2
      obtain ⟨a1, b1⟩ := Prod.mk.inj e1
      obtain ⟨a2, b2⟩ := Prod.mk.inj e2
      exact ⟨by rw [a1, a2], by rw [b1]; exact x3.2.2.2⟩
    · rw [u1, if_pos (by decide)] at e2
      rw [if_pos (show (f1 10 3).toInt = 0 from by rw [e10]; exact t3.mpr u2)] at e1
      obtain ⟨a1, b1⟩ := Prod.mk.inj e1
      obtain ⟨a2, b2⟩ := Prod.mk.inj e2
      exact ⟨by rw [a1, a2], by rw [b1]; exact hl1.1.2.2.2⟩
/-! SIT -/
theorem t_sit {fX fX1 fM fM1 : sg_F} {LX LM : sg_L} {hl : Bool} {T : Nat → Int32} {n : Nat} {s r1 r2 : Int32} (h : rAll fX fM LX LM) (hi : rIm fX fM) (hm : mOk (fX 2)) (hq : pOk (fX 2)) (hc : xCx (fX 2) (fX 1 3).toInt hl T n fX) (hC : mCx (fX 2) hl T n fM) (e1 : (r1, fX1) = sX11_sit s fX LX) (e2 : (r2, fM1) = sX12_sit s fM LM) : r1 = r2 ∧ xLo (fX 2) (fX 1 3).toInt hl T n (fX1 9) ∧ rSt fX1 fM1 ∧ fX1 29 0 = fM1 0 38 := by
  have hI := h.2.2.2.2.2.2
  have hb : 0 ≤ (fX 1 3).toInt ∧ (fX 1 3).toInt ≤ 8 := hI 1 3
  have hst := h.2.2.2.2.1
  have hid := h.2.2.2.2.2.1
  have e13 : (fX 1 3).toInt = (fM 0 6).toInt := h.1.1
  have es := Int32.toInt_toInt64 s
  unfold sX11_sit at e1; (repeat first | rw [spl_d] at e1 | rw [spl2_d] at e1)
  unfold sX12_sit at e2; (repeat first | rw [spl_d] at e2 | rw [spl2_d] at e2)
  rw [has_X] at e1
  rw [pM_isSitter _ _ _ (by omega), es, ← e13] at e2
  by_cases q2 : 0 ≤ s.toInt ∧ s.toInt < (fX 1 3).toInt
  case neg =>
    rw [if_neg q2, if_neg zk0] at e1 e2
    obtain ⟨a1, b1⟩ := Prod.mk.inj e1
    obtain ⟨a2, b2⟩ := Prod.mk.inj e2
    rw [b1, b2]
    exact ⟨by rw [a1, a2], hc.2.2.2, hst, hi.1⟩
  rw [if_pos q2, if_pos rfl] at e1 e2
  have hs7 : 0 ≤ s.toInt ∧ s.toInt ≤ 7 := by omega
  -- the week begins
  obtain ⟨w1, w2, w3⟩ := wbeg (m := fX 2) hst (fun p _ => hI 3 p) LX LM
  obtain ⟨x1, x2, x3, x4, x5, x6⟩ := xbg fX LX
  obtain ⟨f0, ef0⟩ : ∃ z : sg_F, z = sX4_begin fX LX := ⟨_, rfl⟩
  obtain ⟨g0, eg0⟩ : ∃ z : sg_F, z = sX12_beginsWeek fM LM := ⟨_, rfl⟩
  unfold sX2_comes at e1; (repeat first | rw [spl_d] at e1 | rw [spl2_d] at e1)
  rw [← ef0] at w1 w2 x6 e1
  rw [← eg0] at w1 w3 e2
  have hc0 : xCx (fX 2) (fX 1 3).toInt hl T n f0 := hc.fr (x6 1 (by decide) (by decide) (by decide) (by decide)) (x6 2 (by decide) (by decide) (by decide) (by decide)) (x6 4 (by decide) (by decide) (by decide) (by decide)) (x6 7 (by decide) (by decide) (by decide) (by decide)) (x6 9 (by decide) (by decide) (by decide) (by decide))
  have hC0 := hC.H w3
  have hf0 : hF f0 g0 := hid.hF.K w2 w3
  -- who sits comes
  obtain ⟨c1, c2⟩ := xcm (s := s) hc0 hb.2 hm q2 w1.2.1 LX
  obtain ⟨g1, d1, d2⟩ := mcm (s := s) hC0 hm hq hs7 (fun p hp => by rw [← w1.1 p hp]; exact w1.2.1 p hp) LM
  obtain ⟨f1, ef1⟩ : ∃ z : sg_F, z = sX4_comes s f0 LX := ⟨_, rfl⟩
  rw [← ef1] at c1 c2 e1
  have en : (if s.toInt = (f0 13 7).toInt then f0 13 8 else fX 2 (8 * s.toNatClampNeg + 6)) = mnr (fX 2) g0 s := by
    unfold mnr
    rw [← hf0.1]
    by_cases z : s.toInt = (f0 13 7).toInt
    · rw [if_pos z, if_pos z, hf0.2.1 (by omega)]
    · rw [if_neg z, if_neg z]
  rw [en] at c2
  have r1' := wR.comes w1 hm hq hs7 rfl (hf0.2.2.2.2 s) c2 d2
  have g24 : g1 0 24 = -1 := by
    rw [d2.1 0 24 (by decide) (by decide) (by decide) (Or.inr (by decide)), w3 0 24 (by decide) (by decide) (by decide) (Or.inr (by decide))]
    exact hid.2.2.2.2.2.1
  have g22 : g1 0 22 = 0 := by
    rw [d2.1 0 22 (by decide) (by decide) (by decide) (Or.inr (by decide)), w3 0 22 (by decide) (by decide) (by decide) (Or.inr (by decide))]
    exact hid.2.2.2.1
  have g23 : g1 0 23 = 0 := by
    rw [d2.1 0 23 (by decide) (by decide) (by decide) (Or.inr (by decide)), w3 0 23 (by decide) (by decide) (by decide) (Or.inr (by decide))]
    exact hid.2.2.2.2.1
  have g38 : g1 0 38 = fM 0 38 := by
    rw [d2.1 0 38 (by decide) (by decide) (by decide) (Or.inr (by decide)), w3 0 38 (by decide) (by decide) (by decide) (Or.inr (by decide))]
  rw [d1, mcm_n (by rw [g24]; intro z; rw [show (-1 : Int32).toInt = -1 from by decide] at z; omega)] at e2
  obtain ⟨k1, -, -⟩ := r1'.cost g22 g23
  have f29 : f1 29 = fX 29 := by rw [c2.1 29 (by decide) (by decide) (by decide) (by decide) (by decide) (by decide), x6 29 (by decide) (by decide) (by decide) (by decide)]
  -- the class: what is laid down
  have c00 : (0 : Int32).toNatClampNeg = 0 := by decide
  have c01 : (1 : Int32).toNatClampNeg = 1 := by decide
  have c02 : (2 : Int32).toNatClampNeg = 2 := by decide
  have c03 : (3 : Int32).toNatClampNeg = 3 := by decide
  have c04 : (4 : Int32).toNatClampNeg = 4 := by decide
  rw [c00, c03] at e1
  obtain ⟨f2, ef2⟩ : ∃ z : sg_F, z = sg_up f1 3 (va_cpy (f1 14) (f1 3) 0 0 3) := ⟨_, rfl⟩
  rw [← ef2] at e1
  have f2k : ∀ q : Nat, q ≠ 3 → f2 q = f1 q := fun q hq' => by rw [ef2, sg_up_n hq']
  have f23 : ∀ p : Nat, p < 3 → f2 3 p = f1 14 p := fun p hp => by rw [ef2, sg_up_s, cpy_lt hp]
  have b80 : ∀ g : sg_F, (sX2_comes_b80 s g LX).1 = g 13 6 ∧ (sX2_comes_b80 s g LX).2 29 0 = g 29 0 + 1 ∧ ∀ q : Nat, q ≠ 29 → (sX2_comes_b80 s g LX).2 q = g q := by
    intro g
    unfold sX2_comes_b80; (repeat first | rw [spl_d] | rw [spl2_d])
    dsimp only
    rw [c00, c01, c02]
    refine ⟨?_, ?_, fun q hq' => ?_⟩
    · rw [sg_up_n (by decide), sg_up_n (by decide), sg_up_n (by decide)]
    · rw [sg_up_s, sgu_n (by decide), sg_up_s, sgu_n (by decide), sg_up_s, sgu_s]
    · rw [sg_up_n hq', sg_up_n hq', sg_up_n hq']
  have b60 : ∀ g : sg_F, (sX2_comes_b60 s g LX).1 = g 13 6 ∧ (sX2_comes_b60 s g LX).2 29 0 = g 29 0 + 1 ∧ ∀ q : Nat, q ≠ 29 → (sX2_comes_b60 s g LX).2 q = g q := by
    intro g
    unfold sX2_comes_b60; (repeat first | rw [spl_d] | rw [spl2_d])
    rw [c03, c04]
    obtain ⟨y1, y2, y3⟩ := b80 (sg_up (sg_up g 29 (sgu (g 29) 3 (g 13 6))) 29 (sgu (sg_up g 29 (sgu (g 29) 3 (g 13 6)) 29) 4 s))
    refine ⟨?_, ?_, fun q hq' => ?_⟩
    · rw [y1, sg_up_n (by decide), sg_up_n (by decide)]
    · rw [y2, sg_up_s, sgu_n (by decide), sg_up_s, sgu_n (by decide)]
    · rw [y3 q hq', sg_up_n hq', sg_up_n hq']
  have xe : r1 = f2 13 6 ∧ fX1 29 0 = f2 29 0 + 1 ∧ ∀ q : Nat, q ≠ 29 → fX1 q = f2 q := by
    have z80 := b80 f2
    have z60 := b60 f2
    by_cases v1 : (f2 29 0).toInt = 0
    · rw [if_pos v1] at e1
      obtain ⟨a1, b1⟩ := Prod.mk.inj e1
      rw [a1, b1]; exact z60
    · rw [if_neg v1] at e1
      by_cases v2 : (f2 29 3).toInt < (f2 13 6).toInt
      · rw [if_pos v2] at e1
        obtain ⟨a1, b1⟩ := Prod.mk.inj e1
        rw [a1, b1]; exact z60
      · rw [if_neg v2] at e1
        obtain ⟨a1, b1⟩ := Prod.mk.inj e1
        rw [a1, b1]; exact z80
  -- the reference's loop
  have go : ∀ (k i : Nat) (y : Int32) (g : sg_F), y.toInt = i → i ≤ 3 → 3 - i < k → (∀ q : Nat, q ≠ 5 → g q = g1 q) → (∀ p : Nat, p < i → g 5 p = g1 12 p) → (sX12_sit_l22 s k y g LM).1 = g1 0 31 + g1 0 30 ∧ (sX12_sit_l22 s k y g LM).2 0 38 = g1 0 38 + 1 ∧ ∀ p : Nat, p < 3 → (sX12_sit_l22 s k y g LM).2 5 p = g1 12 p := by
    intro k
    induction k with
    | zero => intro i y g _ _ h; exact absurd h (by omega)
    | succ k ih =>
      intro i y g ey hi' hk hg h5
      have e8 : sX12_sit_l22 s (k + 1) y g LM = sX12_sit_h22 s (sX12_sit_l22 s k) y g LM := rfl
      have ey1 := inc1 ey (by omega)
      have cy := bn_clI (x := y) (by omega)
      have eyn : y.toNatClampNeg = i := by omega
      rw [e8]
      unfold sX12_sit_h22; (repeat first | rw [spl_d] | rw [spl2_d])
      by_cases c : i < 3
      · rw [if_pos (show y.toInt < 3 from by omega), eyn]
        refine ih (i + 1) (y + 1) _ ey1 (by omega) (by omega) (fun q hq' => by rw [sg_up_n hq']; exact hg q hq') (fun p hp => ?_)
        rw [sg_up_s]
        by_cases z : p = i
        · rw [z, sgu_s, hg 12 (by decide)]
        · rw [sgu_n z]; exact h5 p (by omega)
      · rw [if_neg (show ¬ y.toInt < 3 from by omega)]
        have i3 : i = 3 := by omega
        have h5' : ∀ p : Nat, p < 3 → g 5 p = g1 12 p := fun p hp => h5 p (by omega)
        (repeat' split) <;> (refine ⟨?_, ?_, fun p hp => ?_⟩ <;> dsimp only)
        all_goals first | (rw [hg 0 (by decide)]; done) | (rw [sg_up_s, sgu_n (show (38 : Nat) ≠ 41 by decide), sg_up_s, sgu_n (show (38 : Nat) ≠ 42 by decide), sg_up_s, sgu_n (show (38 : Nat) ≠ 40 by decide), sg_up_s, sgu_n (show (38 : Nat) ≠ 39 by decide), sg_up_s, sgu_s, hg 0 (by decide)]; done) | (rw [sg_up_n (show (5 : Nat) ≠ 0 by decide), sg_up_n (show (5 : Nat) ≠ 0 by decide), sg_up_n (show (5 : Nat) ≠ 0 by decide), sg_up_n (show (5 : Nat) ≠ 0 by decide), sg_up_n (show (5 : Nat) ≠ 0 by decide)]; exact h5' p hp)
  obtain ⟨v1, v2, v3⟩ := go 4 0 0 g1 (by decide) (by decide) (by decide) (fun _ _ => rfl) (fun p hp => absurd hp (by omega))
  obtain ⟨u1, u2, u3⟩ := xe
  rw [← e2] at v1 v2 v3
  have v1 : r2 = g1 0 31 + g1 0 30 := v1
  have v2 : fM1 0 38 = g1 0 38 + 1 := v2
  have v3 : ∀ p : Nat, p < 3 → fM1 5 p = g1 12 p := v3
  refine ⟨?_, ?_, fun p hp => ?_, ?_⟩
  · rw [u1, v1, f2k 13 (by decide), k1]
  · rw [u3 9 (by decide), f2k 9 (by decide)]; exact c1.2.2.2
  · rw [u3 3 (by decide), f23 p hp, v3 p hp, r1'.1 p hp]
  · rw [u2, f2k 29 (by decide), f29, v2, g38, hi.1]
/-! SHIFTS and ONCE keep the class's losses right -/
def kC (m : Nat → Int32) (S : Int) (hl : Bool) (T : Nat → Int32) (n N : Nat) (f : sg_F) : Prop := xCx m S hl T n f ∧ (f 10 2).toInt = N ∧ (∀ i : Nat, i < N → (f 11 i).toInt = -1 ∨ (0 ≤ (f 11 i).toInt ∧ (f 11 i).toInt < S)) ∧ ∀ p : Nat, p < 3 → 0 ≤ (f 3 p).toInt ∧ (f 3 p).toInt ≤ 60
theorem kC.fr {m : Nat → Int32} {S : Int} {hl : Bool} {T : Nat → Int32} {n N : Nat} {f f1 : sg_F} (h : kC m S hl T n N f) (c : xCx m S hl T n f1) (a3 : f1 3 = f 3) (a10 : f1 10 = f 10) (a11 : f1 11 = f 11) : kC m S hl T n N f1 := by
  refine ⟨c, ?_⟩
  rw [a3, a10, a11]
  exact h.2
theorem kC.up {m : Nat → Int32} {S : Int} {hl : Bool} {T : Nat → Int32} {n N : Nat} {f : sg_F} (h : kC m S hl T n N f) (x : Nat → Int32) : kC m S hl T n N (sg_up f 26 x) := h.fr (h.1.fr (by rw [sg_up_n (by decide)]) (by rw [sg_up_n (by decide)]) (by rw [sg_up_n (by decide)]) (by rw [sg_up_n (by decide)]) (by rw [sg_up_n (by decide)])) (by rw [sg_up_n (by decide)]) (by rw [sg_up_n (by decide)]) (by rw [sg_up_n (by decide)])
theorem kC.loss {m : Nat → Int32} {S : Int} {hl : Bool} {T : Nat → Int32} {n N : Nat} {f : sg_F} {s p v : Int32} (h : kC m S hl T n N f) (hS : S ≤ 8) (hs : s.toInt = -1 ∨ (0 ≤ s.toInt ∧ s.toInt < S)) (hp : 0 ≤ p.toInt ∧ p.toInt ≤ 2) (hv : 0 ≤ v.toInt ∧ v.toInt ≤ 60) (L : sg_L) : kC m S hl T n N (sX0_lossAt s p v f L).2 := by
  obtain ⟨x1, x2, x3⟩ := xlossN h.1 hS hs hp hv L
  exact h.fr x2 (x3 3 (by decide) (by decide)) (x3 10 (by decide) (by decide)) (x3 11 (by decide) (by decide))
theorem kC.unturned {m : Nat → Int32} {S : Int} {hl : Bool} {T : Nat → Int32} {n N : Nat} {f : sg_F} {p x v : Int32} {i : Nat} (h : kC m S hl T n N f) (hS : S ≤ 8) (hp : 0 ≤ p.toInt ∧ p.toInt ≤ 2) (ex : x.toInt = i) (hi : i < N) (hv : 0 ≤ v.toInt ∧ v.toInt ≤ 60) (L : sg_L) : kC m S hl T n N (sX9_unturned p x v f L).2 := by
  have cx := bn_clI (x := x) (by omega)
  unfold sX9_unturned; (repeat first | rw [spl_d] | rw [spl2_d])
  dsimp only
  rw [show x.toNatClampNeg = i from by omega]
  exact h.loss hS (h.2.2.1 i hi) hp hv L
theorem kC.spread {m : Nat → Int32} {S : Int} {hl : Bool} {T : Nat → Int32} {n N : Nat} {f : sg_F} (h : kC m S hl T n N f) (a b : Int32) (L : sg_L) : kC m S hl T n N (sX9_spread a b f L) := by
  have l48 : ∀ (k : Nat) (y : Int32) (f : sg_F), kC m S hl T n N f → kC m S hl T n N (sX9_spread_l48 a b k y f L) := by
    intro k
    induction k with
    | zero => intro y f h; exact h
    | succ k ih =>
      intro y f h
      show kC m S hl T n N (sX9_spread_h48 a b (sX9_spread_l48 a b k) y f L)
      unfold sX9_spread_h48; (repeat first | rw [spl_d] | rw [spl2_d])
      by_cases c : y.toInt < 0
      · rw [if_pos c]; exact h
      · rw [if_neg c]; exact ih _ _ (h.up _)
  have l2 : ∀ (k : Nat) (y : Int32) (f : sg_F), kC m S hl T n N f → kC m S hl T n N (sX9_spread_l2 a b k y f L) := by
    intro k
    induction k with
    | zero => intro y f h; exact h
    | succ k ih =>
      intro y f h
      show kC m S hl T n N (sX9_spread_h2 a b (sX9_spread_l2 a b k) y f L)
      unfold sX9_spread_h2; (repeat first | rw [spl_d] | rw [spl2_d])
      by_cases c : 60 < y.toInt
      · rw [if_pos c]; exact l48 _ _ _ h
      · rw [if_neg c]; exact ih _ _ (h.up _)
  exact l2 61 1 f h
theorem kC.pay {m : Nat → Int32} {S : Int} {hl : Bool} {T : Nat → Int32} {n N : Nat} {f : sg_F} {p : Int32} (h : kC m S hl T n N f) (hS : S ≤ 8) (hN : N ≤ 21) (hp : 0 ≤ p.toInt ∧ p.toInt ≤ 2) (k : Int32) (L : sg_L) : kC m S hl T n N (sX9_pay p k f L) := by
  have k1 : (1 : Int32).toInt = 1 := by decide
  have km : (-1 : Int32).toInt = -1 := by decide
  -- the shifts, from the last on
  have l48 : ∀ (q : Nat) (y : Int32) (f : sg_F), y.toInt < N → -1 ≤ y.toInt → kC m S hl T n N f → kC m S hl T n N (sX9_pay_l48 p k q y f L) := by
    intro q
    induction q with
    | zero => intro y f _ _ h; exact h
    | succ q ih =>
      intro y f hy hy1 h
      show kC m S hl T n N (sX9_pay_h48 p k (sX9_pay_l48 p k q) y f L)
      unfold sX9_pay_h48
      by_cases c : y.toInt < 0
      · rw [if_pos c]; exact h
      rw [if_neg c]
      have ey : (y + -1).toInt = y.toInt - 1 := (bn_addI (by omega) (by omega)).trans (by omega)
      have b112 : ∀ g : sg_F, kC m S hl T n N g → kC m S hl T n N (sX9_pay_b112 (sX9_pay_l48 p k q) p k y g L) := fun g hg => by
        unfold sX9_pay_b112
        rw [spl_d]
        exact ih (y + -1) g (by omega) (by omega) hg
      have l56 : ∀ (r i : Nat) (z : Int32) (g : sg_F), z.toInt = i → kC m S hl T n N g → kC m S hl T n N (sX9_pay_l56 (sX9_pay_l48 p k q) p k r y z g L) := by
        intro r
        induction r with
        | zero => intro i z g _ hg; exact hg
        | succ r ihr =>
          intro i z g ez hg
          show kC m S hl T n N (sX9_pay_h56 (sX9_pay_l48 p k q) p k (sX9_pay_l56 (sX9_pay_l48 p k q) p k r) y z g L)
          unfold sX9_pay_h56; (repeat first | rw [spl_d] | rw [spl2_d])
          by_cases d : 60 < z.toInt
          · rw [if_pos d]
            by_cases e : k.toInt = 0
            · rw [if_pos e]; exact b112 g hg
            · rw [if_neg e]; exact b112 _ (hg.spread _ _ L)
          · rw [if_neg d]
            have cy := bn_clI (x := y) (by omega)
            exact ihr (i + 1) (z + 1) _ (inc1 ez (by omega)) ((hg.unturned (i := y.toNatClampNeg) hS hp (by omega) (by omega) ⟨by omega, by omega⟩ L).up _)
      exact l56 62 0 0 f (by decide) h
  have l14 : ∀ (q : Nat) (a z : Int32) (g : sg_F), kC m S hl T n N g → kC m S hl T n N (sX9_pay_l14 p k q a z g L) := by
    intro q
    induction q with
    | zero => intro a z g hg; exact hg
    | succ q ih =>
      intro a z g hg
      show kC m S hl T n N (sX9_pay_h14 p k (sX9_pay_l14 p k q) a z g L)
      unfold sX9_pay_h14; (repeat first | rw [spl_d] | rw [spl2_d])
      by_cases d : 60 < z.toInt
      · rw [if_pos d]
        have e : (g 10 2 - 1).toInt = (g 10 2).toInt - 1 := by
          have := hg.2.1
          exact (bn_subI (by omega) (by omega)).trans (by omega)
        have := hg.2.1
        exact l48 22 _ g (by omega) (by omega) hg
      · rw [if_neg d]; exact ih _ _ _ (hg.up _)
  unfold sX9_pay; (repeat first | rw [spl_d] | rw [spl2_d])
  exact l14 _ _ _ f h
theorem kC.least {m : Nat → Int32} {S : Int} {hl : Bool} {T : Nat → Int32} {n N : Nat} {f : sg_F} {p x v : Int32} {i : Nat} (h : kC m S hl T n N f) (hS : S ≤ 8) (hp : 0 ≤ p.toInt ∧ p.toInt ≤ 2) (ex : x.toInt = i) (hi : i < N) (hv : 0 ≤ v.toInt ∧ v.toInt ≤ 60) (L : sg_L) : kC m S hl T n N (sX9_leastSetting p x v f L).2 ∧ 0 ≤ (sX9_leastSetting p x v f L).1.toInt ∧ (sX9_leastSetting p x v f L).1.toInt ≤ 60 := by
  have k0 : (0 : Int32).toInt = 0 := by decide
  have l26 : ∀ (q j : Nat) (a b z : Int32) (g : sg_F), z.toInt = j → kC m S hl T n N g → kC m S hl T n N (sX9_leastSetting_l26 p x v q a b z g L).2 ∧ 0 ≤ (sX9_leastSetting_l26 p x v q a b z g L).1.toInt ∧ (sX9_leastSetting_l26 p x v q a b z g L).1.toInt ≤ 60 := by
    intro q
    induction q with
    | zero => intro j a b z g _ hg; exact ⟨hg, show 0 ≤ (0 : Int32).toInt by decide, show (0 : Int32).toInt ≤ 60 by decide⟩
    | succ q ih =>
      intro j a b z g ez hg
      have e9 : sX9_leastSetting_l26 p x v (q + 1) a b z g L = sX9_leastSetting_h26 p x v (sX9_leastSetting_l26 p x v q) a b z g L := rfl
      rw [e9]
      unfold sX9_leastSetting_h26; (repeat first | rw [spl_d] | rw [spl2_d])
      by_cases d : 60 < z.toInt
      · rw [if_pos d]; exact ⟨hg, hv⟩
      · rw [if_neg d]
        have hu := hg.unturned hS hp ex hi (v := z) ⟨by omega, by omega⟩ L
        by_cases e : (((if (0 : Int32) ≤ z - v then z - v else 0 - (z - v)) * a + (sX9_unturned p x z g L).1).toInt = b.toInt)
        · rw [if_pos e]; exact ⟨hu, by show 0 ≤ z.toInt; omega, by show z.toInt ≤ 60; omega⟩
        · rw [if_neg e]; exact ih (j + 1) a b (z + 1) _ (inc1 ez (by omega)) hu
  unfold sX9_leastSetting; (repeat first | rw [spl_d] | rw [spl2_d])
  exact l26 62 0 _ _ 0 f (by decide) h
theorem slpX_b {m : Nat → Int32} {p v : Int32} {f : sg_F} (h2 : f 2 = m) (hq : pOk m) (hp : 0 ≤ p.toInt ∧ p.toInt ≤ 2) (hv : 0 ≤ v.toInt ∧ v.toInt ≤ 60) (L : sg_L) : 0 ≤ (sX0_slipped p v f L).toInt ∧ (sX0_slipped p v f L).toInt ≤ 60 := by
  have cp := bn_clI hp.1
  rw [slpX (k := p.toNatClampNeg) (by omega) (by omega), h2]
  have := slp_b (hq (64 + p.toNatClampNeg) (by omega) (by omega)) hv
  exact ⟨this.1, this.2.1⟩
theorem kC.shifts {m : Nat → Int32} {S : Int} {hl : Bool} {T : Nat → Int32} {n N : Nat} {f : sg_F} {p x : Int32} (h : kC m S hl T n N f) (hS : S ≤ 8) (hq : pOk m) (hN : N ≤ 21) (hp : 0 ≤ p.toInt ∧ p.toInt ≤ 2) (hx : x.toInt < N) (L : sg_L) : kC m S hl T n N (sX9_shiftByShift p x f L).2 := by
  have hP := h.pay hS hN hp 1 L
  have l33 : ∀ (q i : Nat) (a b z : Int32) (g : sg_F), z.toInt = i → (0 ≤ a.toInt ∧ a.toInt ≤ 60) → kC m S hl T n N g → kC m S hl T n N (sX9_shiftByShift_l33 p x q a b z g L).2 := by
    intro q
    induction q with
    | zero => intro i a b z g _ _ hg; exact hg
    | succ q ih =>
      intro i a b z g ez ha hg
      have e9 : sX9_shiftByShift_l33 p x (q + 1) a b z g L = sX9_shiftByShift_h33 p x (sX9_shiftByShift_l33 p x q) a b z g L := rfl
      rw [e9]
      unfold sX9_shiftByShift_h33; (repeat first | rw [spl_d] | rw [spl2_d])
      by_cases d : x.toInt < z.toInt
      · rw [if_pos d]; exact hg
      · rw [if_neg d]
        obtain ⟨u1, u2, u3⟩ := hg.least hS hp ez (by omega) ha L
        exact ih (i + 1) _ _ (z + 1) _ (inc1 ez (by omega)) (slpX_b u1.1.1 hq hp ⟨u2, u3⟩ L) u1
  unfold sX9_shiftByShift; (repeat first | rw [spl_d] | rw [spl2_d])
  by_cases d : x.toInt < 0
  · rw [if_pos d]; dsimp only; exact hP
  · rw [if_neg d]
    have cp := bn_clI hp.1
    exact l33 22 0 _ _ 0 _ (by decide) (hP.2.2.2 p.toNatClampNeg (by omega)) hP
theorem kC.once {m : Nat → Int32} {S : Int} {hl : Bool} {T : Nat → Int32} {n N : Nat} {f : sg_F} {p x : Int32} (h : kC m S hl T n N f) (hS : S ≤ 8) (hq : pOk m) (hN : N ≤ 21) (hp : 0 ≤ p.toInt ∧ p.toInt ≤ 2) (L : sg_L) : kC m S hl T n N (sX9_oneTurning p x f L).2 := by
  have hP := h.pay hS hN hp 0 L
  have l49 : ∀ (q i : Nat) (y3 y4 y5 y6 y7 y8 y9 : Int32) (g : sg_F), y9.toInt = i → (0 ≤ y4.toInt ∧ y4.toInt ≤ 60) → kC m S hl T n N g → kC m S hl T n N (sX9_oneTurning_l49 p x q y3 y4 y5 y6 y7 y8 y9 g L).2 := by
    intro q
    induction q with
    | zero => intro i y3 y4 y5 y6 y7 y8 y9 g _ _ hg; exact hg
    | succ q ih =>
      intro i y3 y4 y5 y6 y7 y8 y9 g e9 h4 hg
      have en : sX9_oneTurning_l49 p x (q + 1) y3 y4 y5 y6 y7 y8 y9 g L = sX9_oneTurning_h49 p x (sX9_oneTurning_l49 p x q) y3 y4 y5 y6 y7 y8 y9 g L := rfl
      rw [en]
      unfold sX9_oneTurning_h49; (repeat first | rw [spl_d] | rw [spl2_d])
      by_cases d : y9.toInt < (g 10 2).toInt
      · rw [if_pos d]
        have hi : i < N := by
          have := hg.2.1
          omega
        have cy := bn_clI (x := y9) (by omega)
        have l64 : ∀ (r : Nat) (z y5 y6 y7 : Int32), kC m S hl T n N (sX9_oneTurning_l64 (sX9_oneTurning_l49 p x q) p x r z y3 y4 y5 y6 y7 y8 y9 g L).2 := by
          intro r
          induction r with
          | zero => intro z y5 y6 y7; exact hg
          | succ r ihr =>
            intro z y5 y6 y7
            have em : sX9_oneTurning_l64 (sX9_oneTurning_l49 p x q) p x (r + 1) z y3 y4 y5 y6 y7 y8 y9 g L = sX9_oneTurning_h64 (sX9_oneTurning_l49 p x q) p x (sX9_oneTurning_l64 (sX9_oneTurning_l49 p x q) p x r) z y3 y4 y5 y6 y7 y8 y9 g L := rfl
            rw [em]
            unfold sX9_oneTurning_h64 sX9_oneTurning_b119; (repeat first | rw [spl_d] | rw [spl2_d])
            by_cases c : 60 < z.toInt
            · rw [if_pos c, show y9.toNatClampNeg = i from by omega]
              have hu := hg.loss hS (s := g 11 i) (hg.2.2.1 i hi) hp h4 L
              exact ih (i + 1) _ _ _ _ _ _ (y9 + 1) _ (inc1 e9 (by omega)) (slpX_b hu.1.1 hq hp h4 L) hu
            · rw [if_neg c]
              (repeat' split) <;> exact ihr _ _ _ _
        exact l64 62 0 y5 y6 y7
      · rw [if_neg d]
        (repeat' split) <;> exact hg
  unfold sX9_oneTurning; (repeat first | rw [spl_d] | rw [spl2_d])
  have cp := bn_clI hp.1
  exact l49 22 0 _ _ _ _ _ _ 0 _ (by decide) (hP.2.2.2 p.toNatClampNeg (by omega)) hP
/-- the two calls -/
theorem k_shifts {fX fX1 fM : sg_F} {LX LM : sg_L} {hl : Bool} {T : Nat → Int32} {n : Nat} {d p k r1 : Int32} (h : rAll fX fM LX LM) (hq : pOk (fX 2)) (hc : xCx (fX 2) (fX 1 3).toInt hl T n fX) (hC : mCx (fX 2) hl T n fM) (e1 : (r1, fX1) = sX11_shifts d p k fX LX) : xLo (fX 2) (fX 1 3).toInt hl T n (fX1 9) := by
  have hb : 0 ≤ (fX 1 3).toInt ∧ (fX 1 3).toInt ≤ 8 := h.2.2.2.2.2.2 1 3
  have no : ∀ x : Int32, (r1, fX1) = (x, fX) → xLo (fX 2) (fX 1 3).toInt hl T n (fX1 9) := fun x e1 => by
    obtain ⟨a1, b1⟩ := Prod.mk.inj e1
    rw [b1]; exact hc.2.2.2
  unfold sX11_shifts at e1; (repeat first | rw [spl_d] at e1 | rw [spl2_d] at e1)
  rw [pX_isShelf, pX_isPart] at e1
  by_cases q1 : 0 ≤ d.toInt ∧ d.toInt ≤ 5
  case neg => rw [if_neg q1, if_neg zk0] at e1; exact no _ e1
  rw [if_pos q1, if_pos rfl] at e1
  by_cases q2 : 0 ≤ p.toInt ∧ p.toInt ≤ 2
  case neg => rw [if_neg q2, if_neg zk0] at e1; exact no _ e1
  rw [if_pos q2, if_pos rfl] at e1
  by_cases q3 : k.toInt < -1
  · rw [if_pos q3] at e1; exact no _ e1
  rw [if_neg q3] at e1
  rcases h.week (LM := LM) hc hC q1 with ⟨a, b⟩ | ⟨a, b⟩ | ⟨b, W, N, f1, a, hN, hw, e, -⟩
  · rw [a] at e1; dsimp only at e1; rw [if_neg (by decide)] at e1; exact no _ e1
  · rw [a] at e1; dsimp only at e1; rw [if_neg (by decide)] at e1; exact no _ e1
  · rw [a] at e1; dsimp only at e1; rw [if_pos (by decide)] at e1
    have hW := hw.2.2.2.2.2.1.W hN
    have hv : (f1 10 2).toInt = N := hw.2.2.2.2.2.2.2.2
    have hk : kC (fX 2) (fX 1 3).toInt hl T n N f1 := ⟨hw.1, hv, fun i hi => by rw [hw.2.2.2.2.2.2.2.1 i hi]; exact hW i hi, hw.2.2.2.1⟩
    by_cases c : k.toInt < (f1 10 2).toInt
    · rw [if_pos c] at e1
      obtain ⟨a1, b1⟩ := Prod.mk.inj e1
      rw [b1]
      exact (hk.shifts hb.2 hq hN q2 (by omega) LX).1.2.2.2
    · rw [if_neg c] at e1
      obtain ⟨a1, b1⟩ := Prod.mk.inj e1
      rw [b1]; exact hw.1.2.2.2
theorem k_once {fX fX1 fM : sg_F} {LX LM : sg_L} {hl : Bool} {T : Nat → Int32} {n : Nat} {d p k r1 : Int32} (h : rAll fX fM LX LM) (hq : pOk (fX 2)) (hc : xCx (fX 2) (fX 1 3).toInt hl T n fX) (hC : mCx (fX 2) hl T n fM) (e1 : (r1, fX1) = sX11_once d p k fX LX) : xLo (fX 2) (fX 1 3).toInt hl T n (fX1 9) := by
  have hb : 0 ≤ (fX 1 3).toInt ∧ (fX 1 3).toInt ≤ 8 := h.2.2.2.2.2.2 1 3
  have no : ∀ x : Int32, (r1, fX1) = (x, fX) → xLo (fX 2) (fX 1 3).toInt hl T n (fX1 9) := fun x e1 => by
    obtain ⟨a1, b1⟩ := Prod.mk.inj e1
    rw [b1]; exact hc.2.2.2
  unfold sX11_once at e1; (repeat first | rw [spl_d] at e1 | rw [spl2_d] at e1)
  rw [pX_isShelf, pX_isPart] at e1
  by_cases q1 : 0 ≤ d.toInt ∧ d.toInt ≤ 5
  case neg => rw [if_neg q1, if_neg zk0] at e1; exact no _ e1
  rw [if_pos q1, if_pos rfl] at e1
  by_cases q2 : 0 ≤ p.toInt ∧ p.toInt ≤ 2
  case neg => rw [if_neg q2, if_neg zk0] at e1; exact no _ e1
  rw [if_pos q2, if_pos rfl] at e1
  by_cases q3 : k.toInt < 0
  · rw [if_pos q3] at e1; exact no _ e1
  rw [if_neg q3] at e1
  by_cases q4 : 2 < k.toInt
  · rw [if_pos q4] at e1; exact no _ e1
  rw [if_neg q4] at e1
  rcases h.week (LM := LM) hc hC q1 with ⟨a, b⟩ | ⟨a, b⟩ | ⟨b, W, N, f1, a, hN, hw, e, -⟩
  · rw [a] at e1; dsimp only at e1; rw [if_neg (by decide)] at e1; exact no _ e1
  · rw [a] at e1; dsimp only at e1; rw [if_neg (by decide)] at e1; exact no _ e1
  · rw [a] at e1; dsimp only at e1; rw [if_pos (by decide)] at e1
    have hW := hw.2.2.2.2.2.1.W hN
    have hk : kC (fX 2) (fX 1 3).toInt hl T n N f1 := ⟨hw.1, hw.2.2.2.2.2.2.2.2, fun i hi => by rw [hw.2.2.2.2.2.2.2.1 i hi]; exact hW i hi, hw.2.2.2.1⟩
    obtain ⟨a1, b1⟩ := Prod.mk.inj e1
    rw [b1]
    exact (hk.once hb.2 hq hN q2 LX).1.2.2.2
/-! DRAWN: weeks with draws -/
def dS (W : Nat → Int32) (s : Int32) : Nat → Int32
  | 0 => s
  | i + 1 => if 0 ≤ (W i).toInt then dS W s i * 1103515245 + 12345 else dS W s i
def dV (x : Int32) : Int32 := ((Int32.toUInt32 x >>> (Int32.toUInt32 8 &&& Int32.toUInt32 31)).toInt32) - ((Int32.toUInt32 x >>> (Int32.toUInt32 8 &&& Int32.toUInt32 31)).toInt32) / 12 * 12
/-- this shift is left out -/
def dK (m W : Nat → Int32) (s : Int32) (i : Nat) : Bool := decide (0 ≤ (W i).toInt ∧ (dV (dS W s (i + 1))).toInt < (m (8 * (W i).toNatClampNeg + 7)).toInt)
def dC (m W : Nat → Int32) (s c : Int32) : Nat → Int32
  | 0 => c
  | i + 1 => if dK m W s i = true then dC m W s c i + 1 else dC m W s c i
def dW (m W : Nat → Int32) (s : Int32) (i : Nat) : Int32 := if dK m W s i = true then -1 else W i
/-- the class's week, drawn -/
theorem xdraw {m W : Nat → Int32} {S : Int} {hl : Bool} {T : Nat → Int32} {n N : Nat} {B : sg_F} {L : sg_L} {s c x0 x1 y5 : Int32} (rec : Int32 → Int32 → Int32 → sg_F → sg_L → Int32 × sg_F) (hS : S ≤ 8) (hN : N ≤ 21) (hW : ∀ i : Nat, i < N → (W i).toInt = -1 ∨ (0 ≤ (W i).toInt ∧ (W i).toInt < S)) (h10 : (B 10 2).toInt = N) (h11 : ∀ i : Nat, i < N → B 11 i = W i) (h : ∀ j : Nat, j ≤ N → xCx m S hl T n (xSq (dW m W s) B L j) ∧ xP B (xSq (dW m W s) B L j)) : ∀ (q i : Nat) (y6 : Int32), y6.toInt = i → i ≤ N → N - i < q → sX4_drawWeeks_l25 rec x0 x1 q (dS W s i) (dC m W s c i) y5 y6 (xSq (dW m W s) B L i) L = rec (dS W s N) (dC m W s c N) (y5 + 1) (xSq (dW m W s) B L N) L := by
  intro q
  induction q with
  | zero => intro i y6 _ _ h; exact absurd h (by omega)
  | succ q ih =>
    intro i y ey hi hq
    have e9 : sX4_drawWeeks_l25 rec x0 x1 (q + 1) (dS W s i) (dC m W s c i) y5 y (xSq (dW m W s) B L i) L = sX4_drawWeeks_h25 rec x0 x1 (sX4_drawWeeks_l25 rec x0 x1 q) (dS W s i) (dC m W s c i) y5 y (xSq (dW m W s) B L i) L := rfl
    have cy := bn_clI (x := y) (by omega)
    have eyn : y.toNatClampNeg = i := by omega
    obtain ⟨u1, u2⟩ := h i hi
    have f10 : xSq (dW m W s) B L i 10 = B 10 := u2.1 10 (by decide) (by decide) (by decide) (by decide) (by decide) (by decide)
    have f11 : xSq (dW m W s) B L i 11 = B 11 := u2.1 11 (by decide) (by decide) (by decide) (by decide) (by decide) (by decide)
    rw [e9]
    unfold sX4_drawWeeks_h25 sX4_drawWeeks_b91; (repeat first | rw [spl_d] | rw [spl2_d])
    rw [f10, f11]
    by_cases c1 : i < N
    case neg =>
      rw [if_neg (show ¬ y.toInt < (B 10 2).toInt from by omega)]
      have : i = N := by omega
      subst this
      rfl
    rw [if_pos (show y.toInt < (B 10 2).toInt from by omega), eyn, h11 i c1]
    have ey1 := inc1 ey (by omega)
    have nx := ih (i + 1) (y + 1) ey1 (by omega) (by omega)
    have sS : dS W s (i + 1) = if 0 ≤ (W i).toInt then dS W s i * 1103515245 + 12345 else dS W s i := rfl
    have sC : dC m W s c (i + 1) = if dK m W s i = true then dC m W s c i + 1 else dC m W s c i := rfl
    have sQ : xSq (dW m W s) B L (i + 1) = sX4_pass (dW m W s i) (xSq (dW m W s) B L i) L := rfl
    rcases hW i c1 with w | ⟨w1, w2⟩
    · have k : ¬ dK m W s i = true := fun z => by
        have := of_decide_eq_true z
        omega
      have eW : dW m W s i = W i := if_neg k
      have e1 : W i = -1 := Int32.toInt_inj.mp (by rw [w]; decide)
      rw [if_neg (show ¬ 0 ≤ (W i).toInt from by omega)] at sS
      rw [if_neg k] at sC
      rw [eW] at sQ
      rw [if_pos (show (W i).toInt = -1 from w)]
      rw [sS, sC, sQ] at nx
      exact nx
    · rw [if_neg (show ¬ (W i).toInt = -1 from by omega), numX (w := 7) (by omega) (by decide), u1.1, show (7 : Int32).toNatClampNeg = 7 from by decide]
      rw [if_pos w1] at sS
      have eV : dV (dS W s (i + 1)) = ((Int32.toUInt32 (dS W s i * 1103515245 + 12345) >>> (Int32.toUInt32 8 &&& Int32.toUInt32 31)).toInt32) - ((Int32.toUInt32 (dS W s i * 1103515245 + 12345) >>> (Int32.toUInt32 8 &&& Int32.toUInt32 31)).toInt32) / 12 * 12 := by rw [sS]; rfl
      rw [← eV]
      by_cases k : dK m W s i = true
      · have kk := (of_decide_eq_true k).2
        have eW : dW m W s i = -1 := if_pos k
        rw [if_pos k] at sC
        rw [eW] at sQ
        rw [if_pos kk]
        rw [sS, sC, sQ] at nx
        exact nx
      · have kk : ¬ (dV (dS W s (i + 1))).toInt < (m (8 * (W i).toNatClampNeg + 7)).toInt := fun z => k (decide_eq_true ⟨w1, z⟩)
        have eW : dW m W s i = W i := if_neg k
        rw [if_neg k] at sC
        rw [eW] at sQ
        rw [if_neg kk]
        rw [sS, sC, sQ] at nx
        exact nx
/-- the reference's draws -/
theorem mdraw {m W : Nat → Int32} {S : Int} {hl : Bool} {T : Nat → Int32} {n N : Nat} {g0 : sg_F} {LM : sg_L} {d s c x1 x2 x3 y6 y8 : Int32} (rec : Int32 → Int32 → Int32 → Int32 → sg_F → sg_L → Int32 × sg_F) (hS : S ≤ 8) (hN : N ≤ 21) (hC : mCx m hl T n g0) (hw : hWho W S N d g0 LM) (hsh : (sX12_shiftsOf d g0 LM).toInt = N) (h0 : ∀ j : Nat, g0 11 j = 0) : ∀ (q i : Nat) (y9 : Int32) (g : sg_F), y9.toInt = i → i ≤ N → N - i < q → (∀ k : Nat, k ≠ 11 → g k = g0 k) → (∀ j : Nat, g 11 j = if j < i ∧ dK m W s j = true then 1 else 0) → ∃ g1 : sg_F, sX12_drawn_l69 rec d x1 x2 x3 q (dS W s i) y6 (dC m W s c i) y8 y9 g LM = sX12_drawn_l175 rec d x1 x2 x3 22 (dS W s N) (y6 + (sX12_weekOf d g1 LM).1) (dC m W s c N) y8 0 (sX12_weekOf d g1 LM).2 LM ∧ (∀ k : Nat, k ≠ 11 → g1 k = g0 k) ∧ ∀ j : Nat, g1 11 j = if j < N ∧ dK m W s j = true then 1 else 0 := by
  intro q
  induction q with
  | zero => intro i y9 g _ _ h; exact absurd h (by omega)
  | succ q ih =>
    intro i y g ey hi hq hk h11
    have e9 : sX12_drawn_l69 rec d x1 x2 x3 (q + 1) (dS W s i) y6 (dC m W s c i) y8 y g LM = sX12_drawn_h69 rec d x1 x2 x3 (sX12_drawn_l69 rec d x1 x2 x3 q) (dS W s i) y6 (dC m W s c i) y8 y g LM := rfl
    have cy := bn_clI (x := y) (by omega)
    have eyn : y.toNatClampNeg = i := by omega
    rw [e9]
    unfold sX12_drawn_h69 sX12_drawn_b156; (repeat first | rw [spl_d] | rw [spl2_d])
    rw [shfM_fr (hk 23 (by decide))]
    by_cases c1 : i < N
    case neg =>
      rw [if_neg (show ¬ y.toInt < (sX12_shiftsOf d g0 LM).toInt from by omega)]
      have : i = N := by omega
      subst this
      exact ⟨g, rfl, hk, h11⟩
    rw [if_pos (show y.toInt < (sX12_shiftsOf d g0 LM).toInt from by omega), whoM_fr (show g 0 6 = g0 0 6 from by rw [hk 0 (by decide)]), eyn]
    have ey1 := inc1 ey (by omega)
    have sS : dS W s (i + 1) = if 0 ≤ (W i).toInt then dS W s i * 1103515245 + 12345 else dS W s i := rfl
    have sC : dC m W s c (i + 1) = if dK m W s i = true then dC m W s c i + 1 else dC m W s c i := rfl
    rcases hw y i ey c1 with ⟨w1, w2⟩ | ⟨w1, w2, w3, w4⟩
    · have w2 : (sX12_whoSits d y g0 LM).toInt < 0 := w2.resolve_right (fun z => z (by rw [h0]; decide))
      have k : ¬ dK m W s i = true := fun z => by
        have := of_decide_eq_true z
        omega
      rw [if_neg (show ¬ 0 ≤ (W i).toInt from by omega)] at sS
      rw [if_neg k] at sC
      rw [if_pos w2]
      have nx := ih (i + 1) (y + 1) g ey1 (by omega) (by omega) hk (fun j => by
        rw [h11 j]
        by_cases z : j = i
        · rw [z, if_neg (fun w => k w.2), if_neg (fun w => k w.2)]
        · exact ite_iff ⟨fun w => ⟨by omega, w.2⟩, fun w => ⟨by omega, w.2⟩⟩)
      rw [sS, sC] at nx
      exact nx
    · rw [w3, if_neg (show ¬ (W i).toInt < 0 from by omega), numM (w := 7) (by omega) (by decide), show (7 : Int32).toNatClampNeg = 7 from by decide, hk 1 (by decide), hC.1 _ 7 (by have := bn_clI w1; omega) (by decide)]
      rw [if_pos w1] at sS
      have eV : dV (dS W s (i + 1)) = ((Int32.toUInt32 (dS W s i * 1103515245 + 12345) >>> (Int32.toUInt32 8 &&& Int32.toUInt32 31)).toInt32) - ((Int32.toUInt32 (dS W s i * 1103515245 + 12345) >>> (Int32.toUInt32 8 &&& Int32.toUInt32 31)).toInt32) / 12 * 12 := by rw [sS]; rfl
      rw [← eV]
      have set1 : ∀ v : Int32, v = (if dK m W s i = true then 1 else 0) → ∀ j : Nat, sg_up g 11 (sgu (g 11) i v) 11 j = if j < i + 1 ∧ dK m W s j = true then 1 else 0 := fun v ev j => by
        rw [sg_up_s]
        by_cases z : j = i
        · rw [z, sgu_s, ev]
          exact ite_iff ⟨fun w => ⟨by omega, w⟩, fun w => w.2⟩
        · rw [sgu_n z, h11 j]
          exact ite_iff ⟨fun w => ⟨by omega, w.2⟩, fun w => ⟨by omega, w.2⟩⟩
      by_cases k : dK m W s i = true
      · have kk := (of_decide_eq_true k).2
        rw [if_pos k] at sC
        rw [if_pos kk]
        have nx := ih (i + 1) (y + 1) _ ey1 (by omega) (by omega) (fun k1 hk1 => by rw [sg_up_n hk1]; exact hk k1 hk1) (set1 1 (by rw [if_pos k]))
        rw [sS, sC] at nx
        exact nx
      · have kk : ¬ (dV (dS W s (i + 1))).toInt < (m (8 * (W i).toNatClampNeg + 7)).toInt := fun z => k (decide_eq_true ⟨w1, z⟩)
        rw [if_neg k] at sC
        rw [if_neg kk]
        have nx := ih (i + 1) (y + 1) _ ey1 (by omega) (by omega) (fun k1 hk1 => by rw [sg_up_n hk1]; exact hk k1 hk1) (set1 0 (by rw [if_neg k]))
        rw [sS, sC] at nx
        exact nx
/-- the marks of a drawn week are taken away -/
theorem mzero {rec : Int32 → Int32 → Int32 → Int32 → sg_F → sg_L → Int32 × sg_F} {d x1 x2 x3 a b c y8 : Int32} {LM : sg_L} {g0 : sg_F} : ∀ (q i : Nat) (y : Int32) (g : sg_F), y.toInt = i → i ≤ 21 → 21 - i < q → (∀ k : Nat, k ≠ 11 → g k = g0 k) → (∀ j : Nat, j < i → g 11 j = 0) → (∀ j : Nat, 21 ≤ j → g 11 j = 0) → ∃ g1 : sg_F, sX12_drawn_l175 rec d x1 x2 x3 q a b c y8 y g LM = rec a b c (y8 + 1) g1 LM ∧ (∀ k : Nat, k ≠ 11 → g1 k = g0 k) ∧ ∀ j : Nat, g1 11 j = 0 := by
  intro q
  induction q with
  | zero => intro i y g _ _ h; exact absurd h (by omega)
  | succ q ih =>
    intro i y g ey hi hq hk h1 h2
    have e9 : sX12_drawn_l175 rec d x1 x2 x3 (q + 1) a b c y8 y g LM = sX12_drawn_h175 rec d x1 x2 x3 (sX12_drawn_l175 rec d x1 x2 x3 q) a b c y8 y g LM := rfl
    have cy := bn_clI (x := y) (by omega)
    have eyn : y.toNatClampNeg = i := by omega
    rw [e9]
    unfold sX12_drawn_h175; (repeat first | rw [spl_d] | rw [spl2_d])
    by_cases c1 : i < 21
    · rw [if_pos (show y.toInt < 21 from by omega), eyn]
      refine ih (i + 1) (y + 1) _ (inc1 ey (by omega)) (by omega) (by omega) (fun k hk1 => by rw [sg_up_n hk1]; exact hk k hk1) (fun j hj => ?_) (fun j hj => ?_)
      · rw [sg_up_s]
        by_cases z : j = i
        · rw [z, sgu_s]
        · rw [sgu_n z]; exact h1 j (by omega)
      · rw [sg_up_s, sgu_n (by omega)]; exact h2 j hj
    · rw [if_neg (show ¬ y.toInt < 21 from by omega)]
      exact ⟨g, rfl, hk, fun j => by
        by_cases z : j < 21
        · exact h1 j (by omega)
        · exact h2 j (by omega)⟩
/-! DRAWN: the weeks, the call -/
/-- what is paid so far -/
def i6 (m : Nat → Int32) (f : sg_F) : Prop := f 13 6 = f 13 5 + (f 15 0 * m (67 + 0) + f 15 1 * m (67 + 1) + f 15 2 * m (67 + 2))
theorem rgd {t b2 b3 x y X Y : Int32} (h1 : t = b2 + b3) (h2 : x + b3 = X) (h3 : y + b2 = Y) : t + (x + y) = Y + X := by
  rw [h1, ← h2, ← h3]; ac_rfl
theorem hF_0 {f g g1 : sg_F} (h : hF f g) (e : ∀ j : Nat, 20 ≤ j → j ≤ 25 → g1 0 j = g 0 j) : hF f g1 := by
  unfold hF
  rw [e 20 (by decide) (by decide), e 21 (by decide) (by decide), e 22 (by decide) (by decide), e 23 (by decide) (by decide), e 24 (by decide) (by decide), e 25 (by decide) (by decide)]
  exact h
theorem drawn_l {m : Nat → Int32} {S : Int} {hl : Bool} {T : Nat → Int32} {n : Nat} {W : Nat → Int32} {N : Nat} {d x0 x2 x3 : Int32} {LX LM : sg_L} {fb gb : sg_F} (hS : S ≤ 8) (hm : mOk m) (hq : pOk m) (hN : N ≤ 21) (hx2 : x2.toInt ≤ 20) : ∀ (q w : Nat) (y s c t : Int32) (f g : sg_F), y.toInt = w → 21 - w ≤ q → w ≤ 20 → 0 < q → wS m S hl T n W N d LM f g → i6 m f → f 13 6 = t → xP fb f → (∀ k j : Nat, k ≠ 8 → k ≠ 12 → k ≠ 13 → k ≠ 11 → (k ≠ 0 ∨ (j ≠ 12 ∧ j ≠ 13 ∧ j ≠ 14 ∧ j ≠ 15 ∧ j ≠ 16 ∧ j ≠ 29 ∧ j ≠ 30 ∧ j ≠ 31)) → g k j = gb k j) → (∀ j : Nat, g 11 j = 0) → gb 0 22 = 0 → gb 0 23 = 0 → ∃ (r : Int32) (F G : sg_F), sX4_drawWeeks_l12 x0 x2 q s c y f LX = (r, F) ∧ sX12_drawn_l60 d x0 x2 x3 q s t c y g LM = (if x3.toInt = 0 then F 13 6 else r, G) ∧ xCx m S hl T n F ∧ xP fb F ∧ (∀ j : Nat, j ≠ 12 → j ≠ 13 → j ≠ 14 → j ≠ 15 → j ≠ 16 → j ≠ 29 → j ≠ 30 → j ≠ 31 → G 0 j = gb 0 j) ∧ ∀ j : Nat, G 11 j = 0 := by
  intro q
  induction q with
  | zero => intro w y s c t f g _ _ _ h; exact absurd h (by omega)
  | succ q ih =>
    intro w y s c t f g ey hq1 hw20 _ h h6 ht hP hG h11 g22 g23
    have e9 : sX4_drawWeeks_l12 x0 x2 (q + 1) s c y f LX = sX4_drawWeeks_h12 x0 x2 (sX4_drawWeeks_l12 x0 x2 q) s c y f LX := rfl
    have e8 : sX12_drawn_l60 d x0 x2 x3 (q + 1) s t c y g LM = sX12_drawn_h60 d x0 x2 x3 (sX12_drawn_l60 d x0 x2 x3 q) s t c y g LM := rfl
    rw [e9, e8]
    unfold sX4_drawWeeks_h12 sX12_drawn_h60; (repeat first | rw [spl_d] | rw [spl2_d])
    by_cases cw : y.toInt < x2.toInt
    case neg =>
      rw [if_neg cw, if_neg cw]
      refine ⟨c, f, g, rfl, ?_, h.1, hP, fun j a1 a2 a3 a4 a5 a6 a7 a8 => hG 0 j (by decide) (by decide) (by decide) (by decide) (Or.inr ⟨a1, a2, a3, a4, a5, a6, a7, a8⟩), h11⟩
      by_cases z : x3.toInt = 0
      · rw [if_pos z, if_pos z, ht]
      · rw [if_neg z, if_neg z]
    rw [if_pos cw, if_pos cw]
    obtain ⟨h1, h2, h3, h4, h5, hw, hsh, hf11, hf10⟩ := h
    have hW := hw.W hN
    -- the class stands as now
    obtain ⟨b14, bk⟩ := xst f LX
    obtain ⟨B, eB⟩ : ∃ z : sg_F, z = sX4_standAsNow f LX := ⟨_, rfl⟩
    rw [← eB] at b14 bk ⊢
    have hPB : xP f B := ⟨fun q' _ _ _ a _ _ => bk q' a, fun j _ _ => by rw [bk 13 (by decide)]⟩
    have hcB : xCx m S hl T n B := h1.fr (bk 1 (by decide)) (bk 2 (by decide)) (bk 4 (by decide)) (bk 7 (by decide)) (bk 9 (by decide))
    -- the reference draws
    obtain ⟨g1, p1, p2, p3⟩ := mdraw (m := m) (W := W) (s := s) (c := c) (x1 := x0) (x2 := x2) (x3 := x3) (y6 := t) (y8 := y) (sX12_drawn_l60 d x0 x2 x3 q) hS hN h2 hw hsh h11 22 0 0 g (by decide) (Nat.zero_le _) (by omega) (fun _ _ => rfl) (fun j => by rw [h11 j, if_neg (fun z => absurd z.1 (by omega))])
    have p1 : sX12_drawn_l69 (sX12_drawn_l60 d x0 x2 x3 q) d x0 x2 x3 22 s t c y 0 g LM = _ := p1
    rw [p1]
    have hC1 : mCx m hl T n g1 := h2.fr (fun j => by rw [p2 1 (by decide)]) (fun j => by rw [p2 7 (by decide)]) (by rw [p2 0 (by decide)])
    have hw1 : hWho (dW m W s) S N d g1 LM := by
      intro y i ey hi
      rw [whoM_fr (y := y) (show g1 0 6 = g 0 6 from by rw [p2 0 (by decide)]), p3 i]
      rcases hw y i ey hi with ⟨w1, w2⟩ | ⟨w1, w2, w3, w4⟩
      · have k : ¬ dK m W s i = true := fun z => by
          have := of_decide_eq_true z
          omega
        have eW : dW m W s i = W i := if_neg k
        rw [eW]
        exact Or.inl ⟨w1, Or.inl (w2.resolve_right (fun z => z (by rw [h11]; decide)))⟩
      · by_cases k : dK m W s i = true
        · have eW : dW m W s i = -1 := if_pos k
          rw [eW, if_pos ⟨hi, k⟩]
          exact Or.inl ⟨by decide, Or.inr (by decide)⟩
        · have eW : dW m W s i = W i := if_neg k
          rw [eW, if_neg (fun z => k z.2)]
          exact Or.inr ⟨w1, w2, w3, by decide⟩
    -- the week
    obtain ⟨y1, y2, y3, y4, y5⟩ := mbg g1 LM
    obtain ⟨g2, eg2⟩ : ∃ z : sg_F, z = sX12_beginsWeek g1 LM := ⟨_, rfl⟩
    rw [← eg2] at y1 y2 y3 y4 y5
    have gg : ∀ j : Nat, (j ≠ 12 ∧ j ≠ 13 ∧ j ≠ 14 ∧ j ≠ 15 ∧ j ≠ 16 ∧ j ≠ 29 ∧ j ≠ 30 ∧ j ≠ 31) → g2 0 j = gb 0 j := fun j hj => by
      rw [y5 0 j (by decide) (by decide) (by decide) (Or.inr hj), p2 0 (by decide)]
      exact hG 0 j (by decide) (by decide) (by decide) (by decide) (Or.inr hj)
    have k22 : g2 0 22 = 0 := (gg 22 (by decide)).trans g22
    have k23 : g2 0 23 = 0 := (gg 23 (by decide)).trans g23
    have hfB : hF B g2 := (hF_0 (h5.K hPB mH.rf) (fun j _ _ => by rw [p2 0 (by decide)])).K xP.rf y5
    have mp : ∀ p : Nat, mpr m g2 p = m (67 + p) := fun p => by unfold mpr; rw [k23, if_pos (by decide)]
    have h6B : B 13 6 = B 13 5 + (B 15 0 * m (67 + 0) + B 15 1 * m (67 + 1) + B 15 2 * m (67 + 2)) := by rw [bk 13 (by decide), bk 15 (by decide)]; exact h6
    obtain ⟨b3, eb3⟩ : ∃ z : Int32, z = B 15 0 * m (67 + 0) + B 15 1 * m (67 + 1) + B 15 2 * m (67 + 2) := ⟨_, rfl⟩
    have hwR : wR m (B 15 0 + B 15 1 + B 15 2) (B 13 5) b3 B g2 := by
      refine ⟨fun p hp => ?_, fun p hp => ?_, ?_, ?_, ?_, h6B⟩
      · rw [b14 p hp, y1 p hp, p2 5 (by decide)]; exact h3 p hp
      · rw [b14 p hp]; exact h4 p hp
      · rw [y2, Int32.zero_add]
      · rw [y3, Int32.zero_add]
      · rw [y4, k22, spN_k0, mp, mp, mp, eb3, Int32.zero_add, Int32.add_zero]
    have k6 : g2 0 6 = g1 0 6 := y5 0 6 (by decide) (by decide) (by decide) (Or.inr (by decide))
    have k23' : g2 23 = g1 23 := funext fun j => y5 23 j (by decide) (by decide) (by decide) (Or.inl (by decide))
    obtain ⟨g3, a1, a2, a3, a4, a5⟩ := hweek (x0 := d) (f := B) (W := dW m W s) (N := N) LX LM hS hm hq hN 22 0 0 g2 (by decide) (Nat.zero_le _) (by omega) (hC1.H y5) hcB hwR hfB (hw1.H k6 (fun j => y5 11 j (by decide) (by decide) (by decide) (Or.inl (by decide)))) (by rw [shfM_fr k23', shfM_fr (p2 23 (by decide))]; exact hsh) (fun j h1 h2 => absurd h1 (by omega))
    have ew : sX12_weekOf d g1 LM = (g3 0 31 + g3 0 30, g3) := by
      unfold sX12_weekOf; (repeat first | rw [spl_d] | rw [spl2_d])
      rw [← eg2]; exact a1
    rw [ew]
    dsimp only
    -- the class's week
    have xd := xdraw (m := m) (W := W) (B := B) (L := LX) (s := s) (c := c) (x0 := x0) (x1 := x2) (y5 := y) (sX4_drawWeeks_l12 x0 x2 q) hS hN hW (by rw [bk 10 (by decide)]; exact hf10) (fun i hi => by rw [bk 11 (by decide)]; exact hf11 i hi) (fun j hj => by
      obtain ⟨u1, u2, -⟩ := a5 j (Nat.zero_le _) hj
      exact ⟨u1, u2⟩) 22 0 0 (by decide) (Nat.zero_le _) (by omega)
    have xd : sX4_drawWeeks_l25 (sX4_drawWeeks_l12 x0 x2 q) x0 x2 22 s c y 0 B LX = _ := xd
    rw [xd]
    obtain ⟨v1, v2, v3⟩ := a5 N (Nat.zero_le _) (Nat.le_refl N)
    have v2 : xP B (xSq (dW m W s) B LX N) := v2
    obtain ⟨F, eF⟩ : ∃ z : sg_F, z = xSq (dW m W s) B LX N := ⟨_, rfl⟩
    rw [← eF] at v1 v2 a2 ⊢
    -- the marks go
    obtain ⟨g4, z1, z2, z3⟩ := mzero (rec := sX12_drawn_l60 d x0 x2 x3 q) (d := d) (x1 := x0) (x2 := x2) (x3 := x3) (a := dS W s N) (b := t + (g3 0 31 + g3 0 30)) (c := dC m W s c N) (y8 := y) (LM := LM) (g0 := g3) 22 0 0 g3 (by decide) (by decide) (by decide) (fun _ _ => rfl) (fun j hj => absurd hj (by omega)) (fun j hj => by
      rw [a3 11 j (by decide) (by decide) (by decide) (Or.inl (by decide)), y5 11 j (by decide) (by decide) (by decide) (Or.inl (by decide)), p3 j, if_neg (fun z => absurd z.1 (by omega))])
    rw [z1]
    have gk : ∀ k j : Nat, k ≠ 8 → k ≠ 12 → k ≠ 13 → k ≠ 11 → (k ≠ 0 ∨ (j ≠ 12 ∧ j ≠ 13 ∧ j ≠ 14 ∧ j ≠ 15 ∧ j ≠ 16 ∧ j ≠ 29 ∧ j ≠ 30 ∧ j ≠ 31)) → g4 k j = g k j := fun k j k8 k12 k13 k11 hk => by
      rw [z2 k k11, a3 k j k8 k12 k13 hk, y5 k j k8 k12 k13 hk, p2 k k11]
    obtain ⟨c1, c2, c3, c4, c5, c6⟩ := a2
    have d22 : g3 0 22 = 0 := (a3 0 22 (by decide) (by decide) (by decide) (Or.inr (by decide))).trans k22
    have d23 : g3 0 23 = 0 := (a3 0 23 (by decide) (by decide) (by decide) (Or.inr (by decide))).trans k23
    have mp3 : ∀ p : Nat, mpr m g3 p = m (67 + p) := fun p => by unfold mpr; rw [d23, if_pos (by decide)]
    rw [d22, spN_k0, Int32.add_zero, mp3, mp3, mp3] at c5
    have hPf : xP f F := hPB.tr v2
    have hsum : F 13 6 = t + (g3 0 31 + g3 0 30) := by
      rw [c6]
      exact (rgd (b2 := B 13 5) (b3 := b3) (by rw [eb3, ← h6B, bk 13 (by decide), ht]) c5 c4).symm
    by_cases qz : q = 0
    · exfalso; omega
    refine ih (w + 1) (y + 1) _ _ _ F g4 (inc1 ey (by omega)) (by omega) (by omega) (by omega) ?_ c6 hsum (hP.tr hPf) (fun k j k8 k12 k13 k11 hk => (gk k j k8 k12 k13 k11 hk).trans (hG k j k8 k12 k13 k11 hk)) z3 g22 g23
    refine wS.chg ⟨h1, h2, h3, h4, h5, hw, hsh, hf11, hf10⟩ v1 hPf.1 (fun k j k8 k12 k13 k0 => ?_) (gk 0 6 (by decide) (by decide) (by decide) (by decide) (Or.inr (by decide))) (gk 0 11 (by decide) (by decide) (by decide) (by decide) (Or.inr (by decide))) ?_
    · by_cases k11 : k = 11
      · rw [k11, z3 j, h11 j]
      · exact gk k j k8 k12 k13 k11 (Or.inl k0)
    · exact hF_0 (h5.K hPf mH.rf) (fun j j1 j2 => gk 0 j (by decide) (by decide) (by decide) (by decide) (Or.inr (by omega)))
theorem t_drawn {fX fX1 fM fM1 : sg_F} {LX LM : sg_L} {hl : Bool} {T : Nat → Int32} {n : Nat} {d s w k r1 r2 : Int32} (h : rAll fX fM LX LM) (hm : mOk (fX 2)) (hq : pOk (fX 2)) (hc : xCx (fX 2) (fX 1 3).toInt hl T n fX) (hC : mCx (fX 2) hl T n fM) (e1 : (r1, fX1) = sX11_drawn d s w k fX LX) (e2 : (r2, fM1) = sX12_drawn d s w k fM LM) : r1 = r2 ∧ xLo (fX 2) (fX 1 3).toInt hl T n (fX1 9) ∧ rIdle fX1 fM1 := by
  have hb : 0 ≤ (fX 1 3).toInt ∧ (fX 1 3).toInt ≤ 8 := h.2.2.2.2.2.2 1 3
  have hid := h.2.2.2.2.2.1
  have j0 : (0 : Int64).toInt = 0 := by decide
  have j1 : (1 : Int64).toInt = 1 := by decide
  have j20 : (20 : Int64).toInt = 20 := by decide
  have ew := Int32.toInt_toInt64 w
  have ek := Int32.toInt_toInt64 k
  have no : ∀ x : Int32, (r1, fX1) = (x, fX) → (r2, fM1) = (x, fM) → r1 = r2 ∧ xLo (fX 2) (fX 1 3).toInt hl T n (fX1 9) ∧ rIdle fX1 fM1 := fun x e1 e2 => by
    obtain ⟨a1, b1⟩ := Prod.mk.inj e1
    obtain ⟨a2, b2⟩ := Prod.mk.inj e2
    exact ⟨by rw [a1, a2], by rw [b1]; exact hc.2.2.2, by rw [b1, b2]; exact hid⟩
  unfold sX11_drawn at e1; (repeat first | rw [spl_d] at e1 | rw [spl2_d] at e1)
  unfold sX12_drawn at e2; (repeat first | rw [spl_d] at e2 | rw [spl2_d] at e2)
  rw [pX_isShelf] at e1
  rw [pM_within, pM_within, ew, ek, j0, j1, j20] at e2
  by_cases q1 : 0 ≤ d.toInt ∧ d.toInt ≤ 5
  case neg =>
    rw [if_neg q1, if_neg zk0] at e1
    rw [mbytes, if_neg q1, if_neg (by decide), if_pos rfl] at e2
    exact no _ e1 e2
  rw [if_pos q1, if_pos rfl] at e1
  have e2n : (¬ (1 ≤ w.toInt ∧ w.toInt ≤ 20) ∨ ¬ (0 ≤ k.toInt ∧ k.toInt ≤ 1)) → (r2, fM1) = (-1, fM) := fun z => by
    have inner : ∀ x : Int32 × sg_F, (if (if 1 ≤ w.toInt ∧ w.toInt ≤ 20 then (1 : Int32) else 0) = 1 then (if (if 0 ≤ k.toInt ∧ k.toInt ≤ 1 then (1 : Int32) else 0) = 1 then x else (-1, fM)) else (-1, fM)) = (-1, fM) := fun x => by
      by_cases z1 : 1 ≤ w.toInt ∧ w.toInt ≤ 20
      · have z2 : ¬ (0 ≤ k.toInt ∧ k.toInt ≤ 1) := z.resolve_left (fun w => w z1)
        rw [if_pos z1, if_pos rfl, if_neg z2, if_neg zk0]
      · rw [if_neg z1, if_neg zk0]
    by_cases y : sX12_bytesIs d fM LM = 1
    · rw [if_pos y, inner] at e2; exact e2
    · rw [if_neg y] at e2
      by_cases y2 : sX12_bytesIs d fM LM = -1
      · rw [if_pos y2] at e2; exact e2
      · rw [if_neg y2, inner] at e2; exact e2
  by_cases q2 : 1 ≤ w.toInt ∧ w.toInt ≤ 20
  case neg =>
    refine no (-1) ?_ (e2n (Or.inl q2))
    by_cases c1 : w.toInt < 1
    · rw [if_pos c1] at e1; exact e1
    · rw [if_neg c1, if_pos (by omega)] at e1; exact e1
  rw [if_neg (show ¬ w.toInt < 1 from by omega), if_neg (show ¬ 20 < w.toInt from by omega)] at e1
  by_cases q3 : 0 ≤ k.toInt ∧ k.toInt ≤ 1
  case neg =>
    refine no (-1) ?_ (e2n (Or.inr q3))
    by_cases c1 : k.toInt < 0
    · rw [if_pos c1] at e1; exact e1
    · rw [if_neg c1, if_pos (by omega)] at e1; exact e1
  rw [if_neg (show ¬ k.toInt < 0 from by omega), if_neg (show ¬ 1 < k.toInt from by omega)] at e1
  rw [if_pos q2, if_pos q3, if_pos rfl, if_pos rfl, if_pos rfl, if_pos rfl] at e2
  rcases h.week hc hC q1 with ⟨a, b⟩ | ⟨a, b⟩ | ⟨b, W, N, f1, a, hN, hw, e, -⟩
  · rw [a] at e1; dsimp only at e1; rw [if_neg (by decide)] at e1
    rw [b, if_neg (by decide), if_neg (by decide)] at e2
    exact no _ e1 e2
  · rw [a] at e1; dsimp only at e1; rw [if_neg (by decide)] at e1
    rw [b, if_neg (by decide), if_neg (by decide)] at e2
    exact no _ e1 e2
  · obtain ⟨i1, i2, i3, i4, i5, i6', i7⟩ := hid
    have e13' : f1 13 = fX 13 := e 13 (by decide) (by decide) (by decide)
    rw [a] at e1; dsimp only at e1; rw [if_pos (by decide)] at e1
    unfold sX4_drawWeeks at e1; (repeat first | rw [spl_d] at e1 | rw [spl2_d] at e1)
    rw [b, if_pos rfl] at e2
    obtain ⟨x1, x2, x3, x4, x5, x6⟩ := xbg f1 LX
    have hP : xP f1 (sX4_begin f1 LX) := ⟨fun q _ _ a b c d => x6 q a b c d, x5⟩
    have hcB : xCx (fX 2) (fX 1 3).toInt hl T n (sX4_begin f1 LX) := hw.1.fr (x6 1 (by decide) (by decide) (by decide) (by decide)) (x6 2 (by decide) (by decide) (by decide) (by decide)) (x6 4 (by decide) (by decide) (by decide) (by decide)) (x6 7 (by decide) (by decide) (by decide) (by decide)) (x6 9 (by decide) (by decide) (by decide) (by decide))
    obtain ⟨r, F, G, u1, u2, u3, u4, u5, u6⟩ := drawn_l (m := fX 2) (S := (fX 1 3).toInt) (hl := hl) (T := T) (n := n) (W := W) (N := N) (d := d) (x0 := s) (x2 := w) (x3 := k) (LX := LX) (LM := LM) (fb := f1) (gb := fM) hb.2 hm hq hN q2.2 21 0 0 s 0 0 (sX4_begin f1 LX) fM (by decide) (by decide) (by decide) (by decide) (hw.K hcB hP mH.rf) (by
      unfold i6
      rw [x3, x4, (x1 0 (by decide)).2, (x1 1 (by decide)).2, (x1 2 (by decide)).2, Int32.zero_mul, Int32.zero_mul, Int32.zero_mul]; rfl) x4 hP (fun _ _ _ _ _ _ _ => rfl) i7 i4 i5
    rw [u1] at e1
    rw [u2] at e2
    dsimp only at e1
    have k7 : F 13 7 = -1 := by rw [u4.2 7 (by decide) (by decide), e13']; exact i1
    have k9 : F 13 9 = -1 := by rw [u4.2 9 (by decide) (by decide), e13']; exact i2
    have G0 : ∀ j : Nat, j = 20 ∨ j = 22 ∨ j = 23 ∨ j = 24 → G 0 j = fM 0 j := fun j hj => u5 j (by omega) (by omega) (by omega) (by omega) (by omega) (by omega) (by omega) (by omega)
    have idF : rIdle F G := ⟨k7, k9, (G0 20 (by omega)).trans i3, (G0 22 (by omega)).trans i4, (G0 23 (by omega)).trans i5, (G0 24 (by omega)).trans i6', u6⟩
    obtain ⟨a2, b2⟩ := Prod.mk.inj e2
    by_cases z : k.toInt = 0
    · rw [if_pos z] at e1 a2
      obtain ⟨a1, b1⟩ := Prod.mk.inj e1
      exact ⟨by rw [a1, a2], by rw [b1]; exact u3.2.2.2, by rw [b1, b2]; exact idF⟩
    · rw [if_neg z] at e1 a2
      obtain ⟨a1, b1⟩ := Prod.mk.inj e1
      exact ⟨by rw [a1, a2], by rw [b1]; exact u3.2.2.2, by rw [b1, b2]; exact idF⟩
/-! what methods leave alone. Laid by a program (wip/tool/frames.py) -/
theorem sgK.tr2 {W1 W : List (Nat × Nat × Option Nat)} {f0 f f1 : sg_F} (hs : ∀ q ∈ W1, q ∈ W) (h1 : sgK W1 f f1) (h : sgK W f0 f) : sgK W f0 f1 := h.tr h1 hs
theorem sgK.put2 {W : List (Nat × Nat × Option Nat)} {f0 f : sg_F} {k j : Nat} {x : Int32} (hw : sgin W k j = true) (h : sgK W f0 f) : sgK W f0 (sg_up f k (sgu (f k) j x)) := h.put rfl hw
theorem sgK.row2 {W : List (Nat × Nat × Option Nat)} {f0 f : sg_F} {k : Nat} {g : Nat → Int32} (hw : ∀ j : Nat, sgin W k j = true) (h : sgK W f0 f) : sgK W f0 (sg_up f k g) := h.row rfl hw
abbrev fw_sX8_sumGroupsUpTo_0 : List (Nat × Nat × Option Nat) := [(21, 21, none), (22, 22, none)]
set_option maxRecDepth 100000 in
theorem fk_sX8_sumGroupsUpTo_0_h5 (x1 : Int32) (x2 : Int32) (rec_5 : Int32 → sg_F → sg_L → sg_F) (y4_5 : Int32) (fp_5 : sg_F) (L : sg_L) (hrec_5 : ∀ (a0 : Int32) (g : sg_F) (M : sg_L), sgK fw_sX8_sumGroupsUpTo_0 g (rec_5 a0 g M)) : sgK fw_sX8_sumGroupsUpTo_0 fp_5 (sX8_sumGroupsUpTo_0_h5 x1 x2 rec_5 y4_5 fp_5 L) := by
  unfold sX8_sumGroupsUpTo_0_h5; (repeat first | rw [spl_d] | rw [spl2_d] | rw [spl3_d])
  (repeat' split) <;> (repeat first | with_reducible exact sgK.rf | ((with_reducible refine sgK.tr2 ?_ (hrec_5 _ _ _) ?_); exact fun _ h => h) | ((with_reducible refine sgK.put2 ?_ ?_); rfl) | ((with_reducible refine sgK.row2 ?_ ?_); exact fun _ => rfl))
theorem fk_sX8_sumGroupsUpTo_0_l5 (x1 : Int32) (x2 : Int32)  : ∀ (n : Nat) (a0 : Int32) (g : sg_F) (M : sg_L), sgK fw_sX8_sumGroupsUpTo_0 g (sX8_sumGroupsUpTo_0_l5 x1 x2 n a0 g M) := by
  intro n
  induction n with
  | zero => intro a0 g M; exact sgK.rf
  | succ n ih =>
    intro a0 g M
    exact fk_sX8_sumGroupsUpTo_0_h5 x1 x2 (sX8_sumGroupsUpTo_0_l5 x1 x2 n) a0 g M ih
set_option maxRecDepth 100000 in
theorem fk_sX8_sumGroupsUpTo_0 (x1 : Int32) (x2 : Int32) (f : sg_F) (L : sg_L)  : sgK fw_sX8_sumGroupsUpTo_0 f (sX8_sumGroupsUpTo_0 x1 x2 f L) := by
  unfold sX8_sumGroupsUpTo_0; (repeat first | rw [spl_d] | rw [spl2_d] | rw [spl3_d])
  (repeat' split) <;> (repeat first | with_reducible exact sgK.rf | ((with_reducible refine sgK.tr2 ?_ (fk_sX8_sumGroupsUpTo_0_l5 _ _ _ _ _ _) ?_); decide) | ((with_reducible refine sgK.put2 ?_ ?_); rfl) | ((with_reducible refine sgK.row2 ?_ ?_); exact fun _ => rfl))
abbrev fw_sX8_sumGroupsUpTo_1 : List (Nat × Nat × Option Nat) := [(21, 21, none), (22, 22, none)]
set_option maxRecDepth 100000 in
theorem fk_sX8_sumGroupsUpTo_1_h5 (x1 : Int32) (x2 : Int32) (rec_5 : Int32 → sg_F → sg_L → sg_F) (y4_5 : Int32) (fp_5 : sg_F) (L : sg_L) (hrec_5 : ∀ (a0 : Int32) (g : sg_F) (M : sg_L), sgK fw_sX8_sumGroupsUpTo_1 g (rec_5 a0 g M)) : sgK fw_sX8_sumGroupsUpTo_1 fp_5 (sX8_sumGroupsUpTo_1_h5 x1 x2 rec_5 y4_5 fp_5 L) := by
  unfold sX8_sumGroupsUpTo_1_h5; (repeat first | rw [spl_d] | rw [spl2_d] | rw [spl3_d])
  (repeat' split) <;> (repeat first | with_reducible exact sgK.rf | ((with_reducible refine sgK.tr2 ?_ (hrec_5 _ _ _) ?_); exact fun _ h => h) | ((with_reducible refine sgK.put2 ?_ ?_); rfl) | ((with_reducible refine sgK.row2 ?_ ?_); exact fun _ => rfl))
theorem fk_sX8_sumGroupsUpTo_1_l5 (x1 : Int32) (x2 : Int32)  : ∀ (n : Nat) (a0 : Int32) (g : sg_F) (M : sg_L), sgK fw_sX8_sumGroupsUpTo_1 g (sX8_sumGroupsUpTo_1_l5 x1 x2 n a0 g M) := by
  intro n
  induction n with
  | zero => intro a0 g M; exact sgK.rf
  | succ n ih =>
    intro a0 g M
    exact fk_sX8_sumGroupsUpTo_1_h5 x1 x2 (sX8_sumGroupsUpTo_1_l5 x1 x2 n) a0 g M ih
set_option maxRecDepth 100000 in
theorem fk_sX8_sumGroupsUpTo_1 (x1 : Int32) (x2 : Int32) (f : sg_F) (L : sg_L)  : sgK fw_sX8_sumGroupsUpTo_1 f (sX8_sumGroupsUpTo_1 x1 x2 f L) := by
  unfold sX8_sumGroupsUpTo_1; (repeat first | rw [spl_d] | rw [spl2_d] | rw [spl3_d])
  (repeat' split) <;> (repeat first | with_reducible exact sgK.rf | ((with_reducible refine sgK.tr2 ?_ (fk_sX8_sumGroupsUpTo_1_l5 _ _ _ _ _ _) ?_); decide) | ((with_reducible refine sgK.put2 ?_ ?_); rfl) | ((with_reducible refine sgK.row2 ?_ ?_); exact fun _ => rfl))
abbrev fw_sX8_sumGroupsUpTo_2 : List (Nat × Nat × Option Nat) := [(21, 21, none), (22, 22, none)]
set_option maxRecDepth 100000 in
theorem fk_sX8_sumGroupsUpTo_2_h5 (x1 : Int32) (x2 : Int32) (rec_5 : Int32 → sg_F → sg_L → sg_F) (y4_5 : Int32) (fp_5 : sg_F) (L : sg_L) (hrec_5 : ∀ (a0 : Int32) (g : sg_F) (M : sg_L), sgK fw_sX8_sumGroupsUpTo_2 g (rec_5 a0 g M)) : sgK fw_sX8_sumGroupsUpTo_2 fp_5 (sX8_sumGroupsUpTo_2_h5 x1 x2 rec_5 y4_5 fp_5 L) := by
  unfold sX8_sumGroupsUpTo_2_h5; (repeat first | rw [spl_d] | rw [spl2_d] | rw [spl3_d])
  (repeat' split) <;> (repeat first | with_reducible exact sgK.rf | ((with_reducible refine sgK.tr2 ?_ (hrec_5 _ _ _) ?_); exact fun _ h => h) | ((with_reducible refine sgK.put2 ?_ ?_); rfl) | ((with_reducible refine sgK.row2 ?_ ?_); exact fun _ => rfl))
theorem fk_sX8_sumGroupsUpTo_2_l5 (x1 : Int32) (x2 : Int32)  : ∀ (n : Nat) (a0 : Int32) (g : sg_F) (M : sg_L), sgK fw_sX8_sumGroupsUpTo_2 g (sX8_sumGroupsUpTo_2_l5 x1 x2 n a0 g M) := by
  intro n
  induction n with
  | zero => intro a0 g M; exact sgK.rf
  | succ n ih =>
    intro a0 g M
    exact fk_sX8_sumGroupsUpTo_2_h5 x1 x2 (sX8_sumGroupsUpTo_2_l5 x1 x2 n) a0 g M ih
set_option maxRecDepth 100000 in
theorem fk_sX8_sumGroupsUpTo_2 (x1 : Int32) (x2 : Int32) (f : sg_F) (L : sg_L)  : sgK fw_sX8_sumGroupsUpTo_2 f (sX8_sumGroupsUpTo_2 x1 x2 f L) := by
  unfold sX8_sumGroupsUpTo_2; (repeat first | rw [spl_d] | rw [spl2_d] | rw [spl3_d])
  (repeat' split) <;> (repeat first | with_reducible exact sgK.rf | ((with_reducible refine sgK.tr2 ?_ (fk_sX8_sumGroupsUpTo_2_l5 _ _ _ _ _ _) ?_); decide) | ((with_reducible refine sgK.put2 ?_ ?_); rfl) | ((with_reducible refine sgK.row2 ?_ ?_); exact fun _ => rfl))
abbrev fw_sX8_sumGroupsUpTo_3 : List (Nat × Nat × Option Nat) := [(21, 21, none), (22, 22, none)]
set_option maxRecDepth 100000 in
theorem fk_sX8_sumGroupsUpTo_3_h5 (x1 : Int32) (x2 : Int32) (rec_5 : Int32 → sg_F → sg_L → sg_F) (y4_5 : Int32) (fp_5 : sg_F) (L : sg_L) (hrec_5 : ∀ (a0 : Int32) (g : sg_F) (M : sg_L), sgK fw_sX8_sumGroupsUpTo_3 g (rec_5 a0 g M)) : sgK fw_sX8_sumGroupsUpTo_3 fp_5 (sX8_sumGroupsUpTo_3_h5 x1 x2 rec_5 y4_5 fp_5 L) := by
  unfold sX8_sumGroupsUpTo_3_h5; (repeat first | rw [spl_d] | rw [spl2_d] | rw [spl3_d])
  (repeat' split) <;> (repeat first | with_reducible exact sgK.rf | ((with_reducible refine sgK.tr2 ?_ (hrec_5 _ _ _) ?_); exact fun _ h => h) | ((with_reducible refine sgK.put2 ?_ ?_); rfl) | ((with_reducible refine sgK.row2 ?_ ?_); exact fun _ => rfl))
theorem fk_sX8_sumGroupsUpTo_3_l5 (x1 : Int32) (x2 : Int32)  : ∀ (n : Nat) (a0 : Int32) (g : sg_F) (M : sg_L), sgK fw_sX8_sumGroupsUpTo_3 g (sX8_sumGroupsUpTo_3_l5 x1 x2 n a0 g M) := by
  intro n
  induction n with
  | zero => intro a0 g M; exact sgK.rf
  | succ n ih =>
    intro a0 g M
    exact fk_sX8_sumGroupsUpTo_3_h5 x1 x2 (sX8_sumGroupsUpTo_3_l5 x1 x2 n) a0 g M ih
set_option maxRecDepth 100000 in
theorem fk_sX8_sumGroupsUpTo_3 (x1 : Int32) (x2 : Int32) (f : sg_F) (L : sg_L)  : sgK fw_sX8_sumGroupsUpTo_3 f (sX8_sumGroupsUpTo_3 x1 x2 f L) := by
  unfold sX8_sumGroupsUpTo_3; (repeat first | rw [spl_d] | rw [spl2_d] | rw [spl3_d])
  (repeat' split) <;> (repeat first | with_reducible exact sgK.rf | ((with_reducible refine sgK.tr2 ?_ (fk_sX8_sumGroupsUpTo_3_l5 _ _ _ _ _ _) ?_); decide) | ((with_reducible refine sgK.put2 ?_ ?_); rfl) | ((with_reducible refine sgK.row2 ?_ ?_); exact fun _ => rfl))
abbrev fw_sX8_sumGroupsUpTo_4 : List (Nat × Nat × Option Nat) := [(21, 21, none), (22, 22, none)]
set_option maxRecDepth 100000 in
theorem fk_sX8_sumGroupsUpTo_4_h5 (x1 : Int32) (x2 : Int32) (rec_5 : Int32 → sg_F → sg_L → sg_F) (y4_5 : Int32) (fp_5 : sg_F) (L : sg_L) (hrec_5 : ∀ (a0 : Int32) (g : sg_F) (M : sg_L), sgK fw_sX8_sumGroupsUpTo_4 g (rec_5 a0 g M)) : sgK fw_sX8_sumGroupsUpTo_4 fp_5 (sX8_sumGroupsUpTo_4_h5 x1 x2 rec_5 y4_5 fp_5 L) := by
  unfold sX8_sumGroupsUpTo_4_h5; (repeat first | rw [spl_d] | rw [spl2_d] | rw [spl3_d])
  (repeat' split) <;> (repeat first | with_reducible exact sgK.rf | ((with_reducible refine sgK.tr2 ?_ (hrec_5 _ _ _) ?_); exact fun _ h => h) | ((with_reducible refine sgK.put2 ?_ ?_); rfl) | ((with_reducible refine sgK.row2 ?_ ?_); exact fun _ => rfl))
theorem fk_sX8_sumGroupsUpTo_4_l5 (x1 : Int32) (x2 : Int32)  : ∀ (n : Nat) (a0 : Int32) (g : sg_F) (M : sg_L), sgK fw_sX8_sumGroupsUpTo_4 g (sX8_sumGroupsUpTo_4_l5 x1 x2 n a0 g M) := by
  intro n
  induction n with
  | zero => intro a0 g M; exact sgK.rf
  | succ n ih =>
    intro a0 g M
    exact fk_sX8_sumGroupsUpTo_4_h5 x1 x2 (sX8_sumGroupsUpTo_4_l5 x1 x2 n) a0 g M ih
set_option maxRecDepth 100000 in
theorem fk_sX8_sumGroupsUpTo_4 (x1 : Int32) (x2 : Int32) (f : sg_F) (L : sg_L)  : sgK fw_sX8_sumGroupsUpTo_4 f (sX8_sumGroupsUpTo_4 x1 x2 f L) := by
  unfold sX8_sumGroupsUpTo_4; (repeat first | rw [spl_d] | rw [spl2_d] | rw [spl3_d])
  (repeat' split) <;> (repeat first | with_reducible exact sgK.rf | ((with_reducible refine sgK.tr2 ?_ (fk_sX8_sumGroupsUpTo_4_l5 _ _ _ _ _ _) ?_); decide) | ((with_reducible refine sgK.put2 ?_ ?_); rfl) | ((with_reducible refine sgK.row2 ?_ ?_); exact fun _ => rfl))
abbrev fw_sX8_sumGroupsUpTo_5 : List (Nat × Nat × Option Nat) := [(21, 21, none), (22, 22, none)]
set_option maxRecDepth 100000 in
theorem fk_sX8_sumGroupsUpTo_5_h5 (x1 : Int32) (x2 : Int32) (rec_5 : Int32 → sg_F → sg_L → sg_F) (y4_5 : Int32) (fp_5 : sg_F) (L : sg_L) (hrec_5 : ∀ (a0 : Int32) (g : sg_F) (M : sg_L), sgK fw_sX8_sumGroupsUpTo_5 g (rec_5 a0 g M)) : sgK fw_sX8_sumGroupsUpTo_5 fp_5 (sX8_sumGroupsUpTo_5_h5 x1 x2 rec_5 y4_5 fp_5 L) := by
  unfold sX8_sumGroupsUpTo_5_h5; (repeat first | rw [spl_d] | rw [spl2_d] | rw [spl3_d])
  (repeat' split) <;> (repeat first | with_reducible exact sgK.rf | ((with_reducible refine sgK.tr2 ?_ (hrec_5 _ _ _) ?_); exact fun _ h => h) | ((with_reducible refine sgK.put2 ?_ ?_); rfl) | ((with_reducible refine sgK.row2 ?_ ?_); exact fun _ => rfl))
theorem fk_sX8_sumGroupsUpTo_5_l5 (x1 : Int32) (x2 : Int32)  : ∀ (n : Nat) (a0 : Int32) (g : sg_F) (M : sg_L), sgK fw_sX8_sumGroupsUpTo_5 g (sX8_sumGroupsUpTo_5_l5 x1 x2 n a0 g M) := by
  intro n
  induction n with
  | zero => intro a0 g M; exact sgK.rf
  | succ n ih =>
    intro a0 g M
    exact fk_sX8_sumGroupsUpTo_5_h5 x1 x2 (sX8_sumGroupsUpTo_5_l5 x1 x2 n) a0 g M ih
set_option maxRecDepth 100000 in
theorem fk_sX8_sumGroupsUpTo_5 (x1 : Int32) (x2 : Int32) (f : sg_F) (L : sg_L)  : sgK fw_sX8_sumGroupsUpTo_5 f (sX8_sumGroupsUpTo_5 x1 x2 f L) := by
  unfold sX8_sumGroupsUpTo_5; (repeat first | rw [spl_d] | rw [spl2_d] | rw [spl3_d])
  (repeat' split) <;> (repeat first | with_reducible exact sgK.rf | ((with_reducible refine sgK.tr2 ?_ (fk_sX8_sumGroupsUpTo_5_l5 _ _ _ _ _ _) ?_); decide) | ((with_reducible refine sgK.put2 ?_ ?_); rfl) | ((with_reducible refine sgK.row2 ?_ ?_); exact fun _ => rfl))
abbrev fw_sX8_sumGroupsUpTo_6 : List (Nat × Nat × Option Nat) := [(21, 21, none), (22, 22, none)]
set_option maxRecDepth 100000 in
theorem fk_sX8_sumGroupsUpTo_6_h5 (x1 : Int32) (x2 : Int32) (rec_5 : Int32 → sg_F → sg_L → sg_F) (y4_5 : Int32) (fp_5 : sg_F) (L : sg_L) (hrec_5 : ∀ (a0 : Int32) (g : sg_F) (M : sg_L), sgK fw_sX8_sumGroupsUpTo_6 g (rec_5 a0 g M)) : sgK fw_sX8_sumGroupsUpTo_6 fp_5 (sX8_sumGroupsUpTo_6_h5 x1 x2 rec_5 y4_5 fp_5 L) := by
  unfold sX8_sumGroupsUpTo_6_h5; (repeat first | rw [spl_d] | rw [spl2_d] | rw [spl3_d])
  (repeat' split) <;> (repeat first | with_reducible exact sgK.rf | ((with_reducible refine sgK.tr2 ?_ (hrec_5 _ _ _) ?_); exact fun _ h => h) | ((with_reducible refine sgK.put2 ?_ ?_); rfl) | ((with_reducible refine sgK.row2 ?_ ?_); exact fun _ => rfl))
theorem fk_sX8_sumGroupsUpTo_6_l5 (x1 : Int32) (x2 : Int32)  : ∀ (n : Nat) (a0 : Int32) (g : sg_F) (M : sg_L), sgK fw_sX8_sumGroupsUpTo_6 g (sX8_sumGroupsUpTo_6_l5 x1 x2 n a0 g M) := by
  intro n
  induction n with
  | zero => intro a0 g M; exact sgK.rf
  | succ n ih =>
    intro a0 g M
    exact fk_sX8_sumGroupsUpTo_6_h5 x1 x2 (sX8_sumGroupsUpTo_6_l5 x1 x2 n) a0 g M ih
set_option maxRecDepth 100000 in
theorem fk_sX8_sumGroupsUpTo_6 (x1 : Int32) (x2 : Int32) (f : sg_F) (L : sg_L)  : sgK fw_sX8_sumGroupsUpTo_6 f (sX8_sumGroupsUpTo_6 x1 x2 f L) := by
  unfold sX8_sumGroupsUpTo_6; (repeat first | rw [spl_d] | rw [spl2_d] | rw [spl3_d])
  (repeat' split) <;> (repeat first | with_reducible exact sgK.rf | ((with_reducible refine sgK.tr2 ?_ (fk_sX8_sumGroupsUpTo_6_l5 _ _ _ _ _ _) ?_); decide) | ((with_reducible refine sgK.put2 ?_ ?_); rfl) | ((with_reducible refine sgK.row2 ?_ ?_); exact fun _ => rfl))
abbrev fw_sX8_sumGroupsUpTo_7 : List (Nat × Nat × Option Nat) := [(21, 21, none), (22, 22, none)]
set_option maxRecDepth 100000 in
theorem fk_sX8_sumGroupsUpTo_7_h5 (x1 : Int32) (x2 : Int32) (rec_5 : Int32 → sg_F → sg_L → sg_F) (y4_5 : Int32) (fp_5 : sg_F) (L : sg_L) (hrec_5 : ∀ (a0 : Int32) (g : sg_F) (M : sg_L), sgK fw_sX8_sumGroupsUpTo_7 g (rec_5 a0 g M)) : sgK fw_sX8_sumGroupsUpTo_7 fp_5 (sX8_sumGroupsUpTo_7_h5 x1 x2 rec_5 y4_5 fp_5 L) := by
  unfold sX8_sumGroupsUpTo_7_h5; (repeat first | rw [spl_d] | rw [spl2_d] | rw [spl3_d])
  (repeat' split) <;> (repeat first | with_reducible exact sgK.rf | ((with_reducible refine sgK.tr2 ?_ (hrec_5 _ _ _) ?_); exact fun _ h => h) | ((with_reducible refine sgK.put2 ?_ ?_); rfl) | ((with_reducible refine sgK.row2 ?_ ?_); exact fun _ => rfl))
theorem fk_sX8_sumGroupsUpTo_7_l5 (x1 : Int32) (x2 : Int32)  : ∀ (n : Nat) (a0 : Int32) (g : sg_F) (M : sg_L), sgK fw_sX8_sumGroupsUpTo_7 g (sX8_sumGroupsUpTo_7_l5 x1 x2 n a0 g M) := by
  intro n
  induction n with
  | zero => intro a0 g M; exact sgK.rf
  | succ n ih =>
    intro a0 g M
    exact fk_sX8_sumGroupsUpTo_7_h5 x1 x2 (sX8_sumGroupsUpTo_7_l5 x1 x2 n) a0 g M ih
set_option maxRecDepth 100000 in
theorem fk_sX8_sumGroupsUpTo_7 (x1 : Int32) (x2 : Int32) (f : sg_F) (L : sg_L)  : sgK fw_sX8_sumGroupsUpTo_7 f (sX8_sumGroupsUpTo_7 x1 x2 f L) := by
  unfold sX8_sumGroupsUpTo_7; (repeat first | rw [spl_d] | rw [spl2_d] | rw [spl3_d])
  (repeat' split) <;> (repeat first | with_reducible exact sgK.rf | ((with_reducible refine sgK.tr2 ?_ (fk_sX8_sumGroupsUpTo_7_l5 _ _ _ _ _ _) ?_); decide) | ((with_reducible refine sgK.put2 ?_ ?_); rfl) | ((with_reducible refine sgK.row2 ?_ ?_); exact fun _ => rfl))
abbrev fw_sX8_weigh : List (Nat × Nat × Option Nat) := [(17, 17, some 11), (17, 17, some 12), (24, 24, none)]
set_option maxRecDepth 100000 in
theorem fk_sX8_weigh_h57 (rec_57 : Int32 → sg_F → sg_L → sg_F) (y2_57 : Int32) (fp_57 : sg_F) (L : sg_L) (hrec_57 : ∀ (a0 : Int32) (g : sg_F) (M : sg_L), sgK fw_sX8_weigh g (rec_57 a0 g M)) : sgK fw_sX8_weigh fp_57 (sX8_weigh_h57 rec_57 y2_57 fp_57 L) := by
  unfold sX8_weigh_h57; (repeat first | rw [spl_d] | rw [spl2_d] | rw [spl3_d])
  (repeat' split) <;> (repeat first | with_reducible exact sgK.rf | ((with_reducible refine sgK.tr2 ?_ (hrec_57 _ _ _) ?_); exact fun _ h => h) | ((with_reducible refine sgK.put2 ?_ ?_); rfl) | ((with_reducible refine sgK.row2 ?_ ?_); exact fun _ => rfl))
theorem fk_sX8_weigh_l57   : ∀ (n : Nat) (a0 : Int32) (g : sg_F) (M : sg_L), sgK fw_sX8_weigh g (sX8_weigh_l57 n a0 g M) := by
  intro n
  induction n with
  | zero => intro a0 g M; exact sgK.rf
  | succ n ih =>
    intro a0 g M
    exact fk_sX8_weigh_h57 (sX8_weigh_l57 n) a0 g M ih
set_option maxRecDepth 100000 in
theorem fk_sX8_weigh_b45 (y1_45 : Int32) (fp_45 : sg_F) (L : sg_L)  : sgK fw_sX8_weigh fp_45 (sX8_weigh_b45 y1_45 fp_45 L) := by
  unfold sX8_weigh_b45; (repeat first | rw [spl_d] | rw [spl2_d] | rw [spl3_d])
  (repeat' split) <;> (repeat first | with_reducible exact sgK.rf | ((with_reducible refine sgK.tr2 ?_ (fk_sX8_weigh_l57 _ _ _ _) ?_); decide) | ((with_reducible refine sgK.put2 ?_ ?_); rfl) | ((with_reducible refine sgK.row2 ?_ ?_); exact fun _ => rfl))
set_option maxRecDepth 100000 in
theorem fk_sX8_weigh_h4 (rec_4 : Int32 → Int32 → sg_F → sg_L → sg_F) (y1_4 : Int32) (y2_4 : Int32) (fp_4 : sg_F) (L : sg_L) (hrec_4 : ∀ (a0 : Int32) (a1 : Int32) (g : sg_F) (M : sg_L), sgK fw_sX8_weigh g (rec_4 a0 a1 g M)) : sgK fw_sX8_weigh fp_4 (sX8_weigh_h4 rec_4 y1_4 y2_4 fp_4 L) := by
  unfold sX8_weigh_h4; (repeat first | rw [spl_d] | rw [spl2_d] | rw [spl3_d])
  (repeat' split) <;> (repeat first | with_reducible exact sgK.rf | ((with_reducible refine sgK.tr2 ?_ (hrec_4 _ _ _ _) ?_); exact fun _ h => h) | ((with_reducible refine sgK.tr2 ?_ (fk_sX8_weigh_b45 _ _ _) ?_); decide) | ((with_reducible refine sgK.put2 ?_ ?_); rfl) | ((with_reducible refine sgK.row2 ?_ ?_); exact fun _ => rfl))
theorem fk_sX8_weigh_l4   : ∀ (n : Nat) (a0 : Int32) (a1 : Int32) (g : sg_F) (M : sg_L), sgK fw_sX8_weigh g (sX8_weigh_l4 n a0 a1 g M) := by
  intro n
  induction n with
  | zero => intro a0 a1 g M; exact sgK.rf
  | succ n ih =>
    intro a0 a1 g M
    exact fk_sX8_weigh_h4 (sX8_weigh_l4 n) a0 a1 g M ih
set_option maxRecDepth 100000 in
theorem fk_sX8_weigh (f : sg_F) (L : sg_L)  : sgK fw_sX8_weigh f (sX8_weigh f L) := by
  unfold sX8_weigh; (repeat first | rw [spl_d] | rw [spl2_d] | rw [spl3_d])
  (repeat' split) <;> (repeat first | with_reducible exact sgK.rf | ((with_reducible refine sgK.tr2 ?_ (fk_sX8_weigh_l4 _ _ _ _ _) ?_); decide) | ((with_reducible refine sgK.put2 ?_ ?_); rfl) | ((with_reducible refine sgK.row2 ?_ ?_); exact fun _ => rfl))
abbrev fw_sX8_part_8 : List (Nat × Nat × Option Nat) := [(17, 17, some 11), (17, 17, some 12), (24, 24, none)]
set_option maxRecDepth 100000 in
theorem fk_sX8_part_8 (f : sg_F) (L : sg_L)  : sgK fw_sX8_part_8 f (sX8_part_8 f L) := by
  unfold sX8_part_8; (repeat first | rw [spl_d] | rw [spl2_d] | rw [spl3_d])
  (repeat' split) <;> (repeat first | with_reducible exact sgK.rf | ((with_reducible refine sgK.tr2 ?_ (fk_sX8_weigh _ _) ?_); decide) | ((with_reducible refine sgK.put2 ?_ ?_); rfl) | ((with_reducible refine sgK.row2 ?_ ?_); exact fun _ => rfl))
abbrev fw_sX8_part_7 : List (Nat × Nat × Option Nat) := [(17, 17, some 11), (17, 17, some 12), (23, 23, none), (24, 24, none)]
set_option maxRecDepth 100000 in
theorem fk_sX8_part_7_h15 (rec_15 : Int32 → sg_F → sg_L → sg_F) (y2_15 : Int32) (fp_15 : sg_F) (L : sg_L) (hrec_15 : ∀ (a0 : Int32) (g : sg_F) (M : sg_L), sgK fw_sX8_part_7 g (rec_15 a0 g M)) : sgK fw_sX8_part_7 fp_15 (sX8_part_7_h15 rec_15 y2_15 fp_15 L) := by
  unfold sX8_part_7_h15; (repeat first | rw [spl_d] | rw [spl2_d] | rw [spl3_d])
  (repeat' split) <;> (repeat first | with_reducible exact sgK.rf | ((with_reducible refine sgK.tr2 ?_ (hrec_15 _ _ _) ?_); exact fun _ h => h) | ((with_reducible refine sgK.tr2 ?_ (fk_sX8_part_8 _ _) ?_); decide) | ((with_reducible refine sgK.put2 ?_ ?_); rfl) | ((with_reducible refine sgK.row2 ?_ ?_); exact fun _ => rfl))
theorem fk_sX8_part_7_l15   : ∀ (n : Nat) (a0 : Int32) (g : sg_F) (M : sg_L), sgK fw_sX8_part_7 g (sX8_part_7_l15 n a0 g M) := by
  intro n
  induction n with
  | zero => intro a0 g M; exact sgK.rf
  | succ n ih =>
    intro a0 g M
    exact fk_sX8_part_7_h15 (sX8_part_7_l15 n) a0 g M ih
set_option maxRecDepth 100000 in
theorem fk_sX8_part_7 (f : sg_F) (L : sg_L)  : sgK fw_sX8_part_7 f (sX8_part_7 f L) := by
  unfold sX8_part_7; (repeat first | rw [spl_d] | rw [spl2_d] | rw [spl3_d])
  (repeat' split) <;> (repeat first | with_reducible exact sgK.rf | ((with_reducible refine sgK.tr2 ?_ (fk_sX8_part_7_l15 _ _ _ _) ?_); decide) | ((with_reducible refine sgK.tr2 ?_ (fk_sX8_weigh _ _) ?_); decide) | ((with_reducible refine sgK.put2 ?_ ?_); rfl) | ((with_reducible refine sgK.row2 ?_ ?_); exact fun _ => rfl))
abbrev fw_sX8_part_6 : List (Nat × Nat × Option Nat) := [(17, 17, some 11), (17, 17, some 12), (23, 23, none), (24, 24, none)]
set_option maxRecDepth 100000 in
theorem fk_sX8_part_6_h15 (rec_15 : Int32 → sg_F → sg_L → sg_F) (y2_15 : Int32) (fp_15 : sg_F) (L : sg_L) (hrec_15 : ∀ (a0 : Int32) (g : sg_F) (M : sg_L), sgK fw_sX8_part_6 g (rec_15 a0 g M)) : sgK fw_sX8_part_6 fp_15 (sX8_part_6_h15 rec_15 y2_15 fp_15 L) := by
  unfold sX8_part_6_h15; (repeat first | rw [spl_d] | rw [spl2_d] | rw [spl3_d])
  (repeat' split) <;> (repeat first | with_reducible exact sgK.rf | ((with_reducible refine sgK.tr2 ?_ (hrec_15 _ _ _) ?_); exact fun _ h => h) | ((with_reducible refine sgK.tr2 ?_ (fk_sX8_part_7 _ _) ?_); decide) | ((with_reducible refine sgK.put2 ?_ ?_); rfl) | ((with_reducible refine sgK.row2 ?_ ?_); exact fun _ => rfl))
theorem fk_sX8_part_6_l15   : ∀ (n : Nat) (a0 : Int32) (g : sg_F) (M : sg_L), sgK fw_sX8_part_6 g (sX8_part_6_l15 n a0 g M) := by
  intro n
  induction n with
  | zero => intro a0 g M; exact sgK.rf
  | succ n ih =>
    intro a0 g M
    exact fk_sX8_part_6_h15 (sX8_part_6_l15 n) a0 g M ih
set_option maxRecDepth 100000 in
theorem fk_sX8_part_6 (f : sg_F) (L : sg_L)  : sgK fw_sX8_part_6 f (sX8_part_6 f L) := by
  unfold sX8_part_6; (repeat first | rw [spl_d] | rw [spl2_d] | rw [spl3_d])
  (repeat' split) <;> (repeat first | with_reducible exact sgK.rf | ((with_reducible refine sgK.tr2 ?_ (fk_sX8_part_6_l15 _ _ _ _) ?_); decide) | ((with_reducible refine sgK.tr2 ?_ (fk_sX8_weigh _ _) ?_); decide) | ((with_reducible refine sgK.put2 ?_ ?_); rfl) | ((with_reducible refine sgK.row2 ?_ ?_); exact fun _ => rfl))
abbrev fw_sX8_part_5 : List (Nat × Nat × Option Nat) := [(17, 17, some 11), (17, 17, some 12), (23, 23, none), (24, 24, none)]
set_option maxRecDepth 100000 in
theorem fk_sX8_part_5_h15 (rec_15 : Int32 → sg_F → sg_L → sg_F) (y2_15 : Int32) (fp_15 : sg_F) (L : sg_L) (hrec_15 : ∀ (a0 : Int32) (g : sg_F) (M : sg_L), sgK fw_sX8_part_5 g (rec_15 a0 g M)) : sgK fw_sX8_part_5 fp_15 (sX8_part_5_h15 rec_15 y2_15 fp_15 L) := by
  unfold sX8_part_5_h15; (repeat first | rw [spl_d] | rw [spl2_d] | rw [spl3_d])
  (repeat' split) <;> (repeat first | with_reducible exact sgK.rf | ((with_reducible refine sgK.tr2 ?_ (hrec_15 _ _ _) ?_); exact fun _ h => h) | ((with_reducible refine sgK.tr2 ?_ (fk_sX8_part_6 _ _) ?_); decide) | ((with_reducible refine sgK.put2 ?_ ?_); rfl) | ((with_reducible refine sgK.row2 ?_ ?_); exact fun _ => rfl))
theorem fk_sX8_part_5_l15   : ∀ (n : Nat) (a0 : Int32) (g : sg_F) (M : sg_L), sgK fw_sX8_part_5 g (sX8_part_5_l15 n a0 g M) := by
  intro n
  induction n with
  | zero => intro a0 g M; exact sgK.rf
  | succ n ih =>
    intro a0 g M
    exact fk_sX8_part_5_h15 (sX8_part_5_l15 n) a0 g M ih
set_option maxRecDepth 100000 in
theorem fk_sX8_part_5 (f : sg_F) (L : sg_L)  : sgK fw_sX8_part_5 f (sX8_part_5 f L) := by
  unfold sX8_part_5; (repeat first | rw [spl_d] | rw [spl2_d] | rw [spl3_d])
  (repeat' split) <;> (repeat first | with_reducible exact sgK.rf | ((with_reducible refine sgK.tr2 ?_ (fk_sX8_part_5_l15 _ _ _ _) ?_); decide) | ((with_reducible refine sgK.tr2 ?_ (fk_sX8_weigh _ _) ?_); decide) | ((with_reducible refine sgK.put2 ?_ ?_); rfl) | ((with_reducible refine sgK.row2 ?_ ?_); exact fun _ => rfl))
abbrev fw_sX8_part_4 : List (Nat × Nat × Option Nat) := [(17, 17, some 11), (17, 17, some 12), (23, 23, none), (24, 24, none)]
set_option maxRecDepth 100000 in
theorem fk_sX8_part_4_h15 (rec_15 : Int32 → sg_F → sg_L → sg_F) (y2_15 : Int32) (fp_15 : sg_F) (L : sg_L) (hrec_15 : ∀ (a0 : Int32) (g : sg_F) (M : sg_L), sgK fw_sX8_part_4 g (rec_15 a0 g M)) : sgK fw_sX8_part_4 fp_15 (sX8_part_4_h15 rec_15 y2_15 fp_15 L) := by
  unfold sX8_part_4_h15; (repeat first | rw [spl_d] | rw [spl2_d] | rw [spl3_d])
  (repeat' split) <;> (repeat first | with_reducible exact sgK.rf | ((with_reducible refine sgK.tr2 ?_ (hrec_15 _ _ _) ?_); exact fun _ h => h) | ((with_reducible refine sgK.tr2 ?_ (fk_sX8_part_5 _ _) ?_); decide) | ((with_reducible refine sgK.put2 ?_ ?_); rfl) | ((with_reducible refine sgK.row2 ?_ ?_); exact fun _ => rfl))
theorem fk_sX8_part_4_l15   : ∀ (n : Nat) (a0 : Int32) (g : sg_F) (M : sg_L), sgK fw_sX8_part_4 g (sX8_part_4_l15 n a0 g M) := by
  intro n
  induction n with
  | zero => intro a0 g M; exact sgK.rf
  | succ n ih =>
    intro a0 g M
    exact fk_sX8_part_4_h15 (sX8_part_4_l15 n) a0 g M ih
set_option maxRecDepth 100000 in
theorem fk_sX8_part_4 (f : sg_F) (L : sg_L)  : sgK fw_sX8_part_4 f (sX8_part_4 f L) := by
  unfold sX8_part_4; (repeat first | rw [spl_d] | rw [spl2_d] | rw [spl3_d])
  (repeat' split) <;> (repeat first | with_reducible exact sgK.rf | ((with_reducible refine sgK.tr2 ?_ (fk_sX8_part_4_l15 _ _ _ _) ?_); decide) | ((with_reducible refine sgK.tr2 ?_ (fk_sX8_weigh _ _) ?_); decide) | ((with_reducible refine sgK.put2 ?_ ?_); rfl) | ((with_reducible refine sgK.row2 ?_ ?_); exact fun _ => rfl))
abbrev fw_sX8_part_3 : List (Nat × Nat × Option Nat) := [(17, 17, some 11), (17, 17, some 12), (23, 23, none), (24, 24, none)]
set_option maxRecDepth 100000 in
theorem fk_sX8_part_3_h15 (rec_15 : Int32 → sg_F → sg_L → sg_F) (y2_15 : Int32) (fp_15 : sg_F) (L : sg_L) (hrec_15 : ∀ (a0 : Int32) (g : sg_F) (M : sg_L), sgK fw_sX8_part_3 g (rec_15 a0 g M)) : sgK fw_sX8_part_3 fp_15 (sX8_part_3_h15 rec_15 y2_15 fp_15 L) := by
  unfold sX8_part_3_h15; (repeat first | rw [spl_d] | rw [spl2_d] | rw [spl3_d])
  (repeat' split) <;> (repeat first | with_reducible exact sgK.rf | ((with_reducible refine sgK.tr2 ?_ (hrec_15 _ _ _) ?_); exact fun _ h => h) | ((with_reducible refine sgK.tr2 ?_ (fk_sX8_part_4 _ _) ?_); decide) | ((with_reducible refine sgK.put2 ?_ ?_); rfl) | ((with_reducible refine sgK.row2 ?_ ?_); exact fun _ => rfl))
theorem fk_sX8_part_3_l15   : ∀ (n : Nat) (a0 : Int32) (g : sg_F) (M : sg_L), sgK fw_sX8_part_3 g (sX8_part_3_l15 n a0 g M) := by
  intro n
  induction n with
  | zero => intro a0 g M; exact sgK.rf
  | succ n ih =>
    intro a0 g M
    exact fk_sX8_part_3_h15 (sX8_part_3_l15 n) a0 g M ih
set_option maxRecDepth 100000 in
theorem fk_sX8_part_3 (f : sg_F) (L : sg_L)  : sgK fw_sX8_part_3 f (sX8_part_3 f L) := by
  unfold sX8_part_3; (repeat first | rw [spl_d] | rw [spl2_d] | rw [spl3_d])
  (repeat' split) <;> (repeat first | with_reducible exact sgK.rf | ((with_reducible refine sgK.tr2 ?_ (fk_sX8_part_3_l15 _ _ _ _) ?_); decide) | ((with_reducible refine sgK.tr2 ?_ (fk_sX8_weigh _ _) ?_); decide) | ((with_reducible refine sgK.put2 ?_ ?_); rfl) | ((with_reducible refine sgK.row2 ?_ ?_); exact fun _ => rfl))
abbrev fw_sX8_part_2 : List (Nat × Nat × Option Nat) := [(17, 17, some 11), (17, 17, some 12), (23, 23, none), (24, 24, none)]
set_option maxRecDepth 100000 in
theorem fk_sX8_part_2_h15 (rec_15 : Int32 → sg_F → sg_L → sg_F) (y2_15 : Int32) (fp_15 : sg_F) (L : sg_L) (hrec_15 : ∀ (a0 : Int32) (g : sg_F) (M : sg_L), sgK fw_sX8_part_2 g (rec_15 a0 g M)) : sgK fw_sX8_part_2 fp_15 (sX8_part_2_h15 rec_15 y2_15 fp_15 L) := by
  unfold sX8_part_2_h15; (repeat first | rw [spl_d] | rw [spl2_d] | rw [spl3_d])
  (repeat' split) <;> (repeat first | with_reducible exact sgK.rf | ((with_reducible refine sgK.tr2 ?_ (hrec_15 _ _ _) ?_); exact fun _ h => h) | ((with_reducible refine sgK.tr2 ?_ (fk_sX8_part_3 _ _) ?_); decide) | ((with_reducible refine sgK.put2 ?_ ?_); rfl) | ((with_reducible refine sgK.row2 ?_ ?_); exact fun _ => rfl))
theorem fk_sX8_part_2_l15   : ∀ (n : Nat) (a0 : Int32) (g : sg_F) (M : sg_L), sgK fw_sX8_part_2 g (sX8_part_2_l15 n a0 g M) := by
  intro n
  induction n with
  | zero => intro a0 g M; exact sgK.rf
  | succ n ih =>
    intro a0 g M
    exact fk_sX8_part_2_h15 (sX8_part_2_l15 n) a0 g M ih
set_option maxRecDepth 100000 in
theorem fk_sX8_part_2 (f : sg_F) (L : sg_L)  : sgK fw_sX8_part_2 f (sX8_part_2 f L) := by
  unfold sX8_part_2; (repeat first | rw [spl_d] | rw [spl2_d] | rw [spl3_d])
  (repeat' split) <;> (repeat first | with_reducible exact sgK.rf | ((with_reducible refine sgK.tr2 ?_ (fk_sX8_part_2_l15 _ _ _ _) ?_); decide) | ((with_reducible refine sgK.tr2 ?_ (fk_sX8_weigh _ _) ?_); decide) | ((with_reducible refine sgK.put2 ?_ ?_); rfl) | ((with_reducible refine sgK.row2 ?_ ?_); exact fun _ => rfl))
abbrev fw_sX8_part_1 : List (Nat × Nat × Option Nat) := [(17, 17, some 11), (17, 17, some 12), (23, 23, none), (24, 24, none)]
set_option maxRecDepth 100000 in
theorem fk_sX8_part_1_h15 (rec_15 : Int32 → sg_F → sg_L → sg_F) (y2_15 : Int32) (fp_15 : sg_F) (L : sg_L) (hrec_15 : ∀ (a0 : Int32) (g : sg_F) (M : sg_L), sgK fw_sX8_part_1 g (rec_15 a0 g M)) : sgK fw_sX8_part_1 fp_15 (sX8_part_1_h15 rec_15 y2_15 fp_15 L) := by
  unfold sX8_part_1_h15; (repeat first | rw [spl_d] | rw [spl2_d] | rw [spl3_d])
  (repeat' split) <;> (repeat first | with_reducible exact sgK.rf | ((with_reducible refine sgK.tr2 ?_ (hrec_15 _ _ _) ?_); exact fun _ h => h) | ((with_reducible refine sgK.tr2 ?_ (fk_sX8_part_2 _ _) ?_); decide) | ((with_reducible refine sgK.put2 ?_ ?_); rfl) | ((with_reducible refine sgK.row2 ?_ ?_); exact fun _ => rfl))
theorem fk_sX8_part_1_l15   : ∀ (n : Nat) (a0 : Int32) (g : sg_F) (M : sg_L), sgK fw_sX8_part_1 g (sX8_part_1_l15 n a0 g M) := by
  intro n
  induction n with
  | zero => intro a0 g M; exact sgK.rf
  | succ n ih =>
    intro a0 g M
    exact fk_sX8_part_1_h15 (sX8_part_1_l15 n) a0 g M ih
set_option maxRecDepth 100000 in
theorem fk_sX8_part_1 (f : sg_F) (L : sg_L)  : sgK fw_sX8_part_1 f (sX8_part_1 f L) := by
  unfold sX8_part_1; (repeat first | rw [spl_d] | rw [spl2_d] | rw [spl3_d])
  (repeat' split) <;> (repeat first | with_reducible exact sgK.rf | ((with_reducible refine sgK.tr2 ?_ (fk_sX8_part_1_l15 _ _ _ _) ?_); decide) | ((with_reducible refine sgK.tr2 ?_ (fk_sX8_weigh _ _) ?_); decide) | ((with_reducible refine sgK.put2 ?_ ?_); rfl) | ((with_reducible refine sgK.row2 ?_ ?_); exact fun _ => rfl))
abbrev fw_sX8_part_0 : List (Nat × Nat × Option Nat) := [(17, 17, some 11), (17, 17, some 12), (23, 23, none), (24, 24, none)]
set_option maxRecDepth 100000 in
theorem fk_sX8_part_0_h15 (rec_15 : Int32 → sg_F → sg_L → sg_F) (y2_15 : Int32) (fp_15 : sg_F) (L : sg_L) (hrec_15 : ∀ (a0 : Int32) (g : sg_F) (M : sg_L), sgK fw_sX8_part_0 g (rec_15 a0 g M)) : sgK fw_sX8_part_0 fp_15 (sX8_part_0_h15 rec_15 y2_15 fp_15 L) := by
  unfold sX8_part_0_h15; (repeat first | rw [spl_d] | rw [spl2_d] | rw [spl3_d])
  (repeat' split) <;> (repeat first | with_reducible exact sgK.rf | ((with_reducible refine sgK.tr2 ?_ (hrec_15 _ _ _) ?_); exact fun _ h => h) | ((with_reducible refine sgK.tr2 ?_ (fk_sX8_part_1 _ _) ?_); decide) | ((with_reducible refine sgK.put2 ?_ ?_); rfl) | ((with_reducible refine sgK.row2 ?_ ?_); exact fun _ => rfl))
theorem fk_sX8_part_0_l15   : ∀ (n : Nat) (a0 : Int32) (g : sg_F) (M : sg_L), sgK fw_sX8_part_0 g (sX8_part_0_l15 n a0 g M) := by
  intro n
  induction n with
  | zero => intro a0 g M; exact sgK.rf
  | succ n ih =>
    intro a0 g M
    exact fk_sX8_part_0_h15 (sX8_part_0_l15 n) a0 g M ih
set_option maxRecDepth 100000 in
theorem fk_sX8_part_0 (f : sg_F) (L : sg_L)  : sgK fw_sX8_part_0 f (sX8_part_0 f L) := by
  unfold sX8_part_0; (repeat first | rw [spl_d] | rw [spl2_d] | rw [spl3_d])
  (repeat' split) <;> (repeat first | with_reducible exact sgK.rf | ((with_reducible refine sgK.tr2 ?_ (fk_sX8_part_0_l15 _ _ _ _) ?_); decide) | ((with_reducible refine sgK.tr2 ?_ (fk_sX8_weigh _ _) ?_); decide) | ((with_reducible refine sgK.put2 ?_ ?_); rfl) | ((with_reducible refine sgK.row2 ?_ ?_); exact fun _ => rfl))
/-! CHAIRS keeps the class's losses right -/
theorem xCx.K {m : Nat → Int32} {S : Int} {hl : Bool} {T : Nat → Int32} {n : Nat} {W : List (Nat × Nat × Option Nat)} {f f1 : sg_F} (h : xCx m S hl T n f) (k : sgK W f f1) (e1 : ∀ j : Nat, sgin W 1 j = false) (e2 : ∀ j : Nat, sgin W 2 j = false) (e4 : ∀ j : Nat, sgin W 4 j = false) (e7 : ∀ j : Nat, sgin W 7 j = false) (e9 : ∀ j : Nat, sgin W 9 j = false) : xCx m S hl T n f1 := h.fr (funext fun j => k 1 j (e1 j)) (funext fun j => k 2 j (e2 j)) (funext fun j => k 4 j (e4 j)) (funext fun j => k 7 j (e7 j)) (funext fun j => k 9 j (e9 j))
/-- the chairs' sitters are sitters -/
def kG (m : Nat → Int32) (S : Int) (hl : Bool) (T : Nat → Int32) (n : Nat) (f : sg_F) : Prop := xCx m S hl T n f ∧ (0 ≤ (f 17 9).toInt ∧ (f 17 9).toInt ≤ 8) ∧ ∀ j : Nat, (j : Int) < (f 17 9).toInt → 0 ≤ (f 20 j).toInt ∧ (f 20 j).toInt < S
theorem kG.K {m : Nat → Int32} {S : Int} {hl : Bool} {T : Nat → Int32} {n : Nat} {f f1 : sg_F} (h : kG m S hl T n f) (k : sgK [(21, 21, none), (22, 22, none)] f f1) : kG m S hl T n f1 := by
  refine ⟨h.1.K k (fun _ => rfl) (fun _ => rfl) (fun _ => rfl) (fun _ => rfl) (fun _ => rfl), ?_⟩
  rw [k 17 9 rfl, show f1 20 = f 20 from funext fun j => k 20 j rfl]
  exact h.2
theorem kG.gather {m : Nat → Int32} {S : Int} {hl : Bool} {T : Nat → Int32} {n N : Nat} {W : Nat → Int32} {f : sg_F} (hc : xCx m S hl T n f) (hS : S ≤ 8) (hN : N ≤ 21) (hW : ∀ j : Nat, j < N → (W j).toInt = -1 ∨ (0 ≤ (W j).toInt ∧ (W j).toInt < S)) (h12 : ∀ s : Nat, s < 8 → f 12 s = tms W s N) (L : sg_L) : kG m S hl T n (sX8_gather f L) := by
  have go : ∀ (q i : Nat) (y : Int32) (f : sg_F), y.toInt = i → i ≤ 8 → 8 - i < q → kG m S hl T n f → (f 17 9).toInt ≤ i → (∀ s : Nat, s < 8 → f 12 s = tms W s N) → kG m S hl T n (sX8_gather_l7 q y f L) := by
    intro q
    induction q with
    | zero => intro i y f _ _ h; exact absurd h (by omega)
    | succ q ih =>
      intro i y f ey hi hq h h9 h12
      have e9 : sX8_gather_l7 (q + 1) y f L = sX8_gather_h7 (sX8_gather_l7 q) y f L := rfl
      have cy := bn_clI (x := y) (by omega)
      have eyn : y.toNatClampNeg = i := by omega
      have ey1 := inc1 ey (by omega)
      rw [e9]
      unfold sX8_gather_h7 sX8_gather_b45; (repeat first | rw [spl_d] | rw [spl2_d])
      by_cases c : i < 8
      case neg => rw [if_neg (show ¬ y.toInt < 8 from by omega)]; exact h
      rw [if_pos (show y.toInt < 8 from by omega), eyn, h12 i c]
      by_cases z : 0 < (tms W i N).toInt
      · obtain ⟨j, j1, j2⟩ := tms_ex (W := W) (s := i) N hN z
        have hyS : 0 ≤ y.toInt ∧ y.toInt < S := by
          rcases hW j j1 with w | ⟨w1, w2⟩ <;> omega
        rw [if_pos z]
        obtain ⟨h1, h2, h3⟩ := h
        have cc := bn_clI h2.1
        have k1 : (1 : Int32).toInt = 1 := by decide
        obtain ⟨u, eu⟩ : ∃ x : Int32, x = f 17 9 := ⟨_, rfl⟩
        rw [← eu] at h2 h3 h9 cc ⊢
        have e1 : (u + 1).toInt = u.toInt + 1 := (bn_addI (by omega) (by omega)).trans (by omega)
        obtain ⟨g1, eg1⟩ : ∃ x : sg_F, x = sg_up f 20 (sgu (f 20) u.toNatClampNeg y) := ⟨_, rfl⟩
        rw [← eg1]
        obtain ⟨g2, eg2⟩ : ∃ x : sg_F, x = sg_up g1 17 (sgu (g1 17) 9 (u + 1)) := ⟨_, rfl⟩
        rw [← eg2]
        have gk : ∀ r : Nat, r ≠ 17 → r ≠ 20 → g2 r = f r := fun r a b => by rw [eg2, sg_up_n a, eg1, sg_up_n b]
        have g17 : g2 17 9 = u + 1 := by rw [eg2, sg_up_s, sgu_s]
        have g20 : g2 20 = sgu (f 20) u.toNatClampNeg y := by rw [eg2, sg_up_n (show (20 : Nat) ≠ 17 by decide), eg1, sg_up_s]
        have hg : kG m S hl T n g2 := by
          refine ⟨h1.fr (gk 1 (by decide) (by decide)) (gk 2 (by decide) (by decide)) (gk 4 (by decide) (by decide)) (gk 7 (by decide) (by decide)) (gk 9 (by decide) (by decide)), by rw [g17]; omega, fun k hk => ?_⟩
          rw [g17] at hk
          rw [g20]
          by_cases w : k = u.toNatClampNeg
          · rw [w, sgu_s]; exact hyS
          · rw [sgu_n w]; exact h3 k (by omega)
        exact ih (i + 1) (y + 1) g2 ey1 (by omega) (by omega) hg (by rw [g17]; omega) (fun s hs => by rw [gk 12 (by decide) (by decide)]; exact h12 s hs)
      · rw [if_neg z]
        exact ih (i + 1) (y + 1) f ey1 (by omega) (by omega) h (by omega) h12
  unfold sX8_gather; (repeat first | rw [spl_d] | rw [spl2_d])
  have k0 : (0 : Int32).toInt = 0 := by decide
  obtain ⟨g2, eg2⟩ : ∃ x : sg_F, x = sg_up f 17 (sgu (f 17) 9 0) := ⟨_, rfl⟩
  rw [← eg2]
  have gk : ∀ r : Nat, r ≠ 17 → g2 r = f r := fun r a => by rw [eg2, sg_up_n a]
  have g17 : g2 17 9 = 0 := by rw [eg2, sg_up_s, sgu_s]
  refine go 9 0 0 g2 (by decide) (by decide) (by decide) ⟨hc.fr (gk 1 (by decide)) (gk 2 (by decide)) (gk 4 (by decide)) (gk 7 (by decide)) (gk 9 (by decide)), by rw [g17]; exact ⟨by decide, by decide⟩, fun j hj => ?_⟩ (by rw [g17]; decide) (fun s hs => by rw [gk 12 (by decide)]; exact h12 s hs)
  rw [g17] at hj
  exact absurd hj (by omega)
/-- the sums of groups up to one: by its number -/
noncomputable def upTo (k : Nat) (x1 x2 : Int32) (f : sg_F) (L : sg_L) : sg_F :=
  match k with
  | 0 => sX8_sumGroupsUpTo_0 x1 x2 f L
  | 1 => sX8_sumGroupsUpTo_1 x1 x2 f L
  | 2 => sX8_sumGroupsUpTo_2 x1 x2 f L
  | 3 => sX8_sumGroupsUpTo_3 x1 x2 f L
  | 4 => sX8_sumGroupsUpTo_4 x1 x2 f L
  | 5 => sX8_sumGroupsUpTo_5 x1 x2 f L
  | 6 => sX8_sumGroupsUpTo_6 x1 x2 f L
  | _ => sX8_sumGroupsUpTo_7 x1 x2 f L
theorem upTo_K (k : Nat) (x1 x2 : Int32) (f : sg_F) (L : sg_L) : sgK [(21, 21, none), (22, 22, none)] f (upTo k x1 x2 f L) := by
  unfold upTo
  split
  · exact fk_sX8_sumGroupsUpTo_0 _ _ _ _
  · exact fk_sX8_sumGroupsUpTo_1 _ _ _ _
  · exact fk_sX8_sumGroupsUpTo_2 _ _ _ _
  · exact fk_sX8_sumGroupsUpTo_3 _ _ _ _
  · exact fk_sX8_sumGroupsUpTo_4 _ _ _ _
  · exact fk_sX8_sumGroupsUpTo_5 _ _ _ _
  · exact fk_sX8_sumGroupsUpTo_6 _ _ _ _
  · exact fk_sX8_sumGroupsUpTo_7 _ _ _ _
theorem sgh_end (rec_2 : Int32 → sg_F → sg_L → sg_F) (p : Int32) (rec_10 : Int32 → Int32 → sg_F → sg_L → sg_F) (y z : Int32) (f : sg_F) (L : sg_L) (hd : ¬ z.toInt < (f 17 9).toInt) : sX8_sumGroups_h10 rec_2 p rec_10 y z f L = rec_2 (y + 1) f L := by
  unfold sX8_sumGroups_h10
  rw [spl_d, if_neg hd, spl_d]
theorem sgh_at (rec_2 : Int32 → sg_F → sg_L → sg_F) (p : Int32) (rec_10 : Int32 → Int32 → sg_F → sg_L → sg_F) (y z : Int32) (f : sg_F) (L : sg_L) (k : Nat) (hz : z.toInt = k) (hk : k ≤ 7) (hd : z.toInt < (f 17 9).toInt) : sX8_sumGroups_h10 rec_2 p rec_10 y z f L = rec_10 y (z + 1) (upTo k (f 12 (f 20 z.toNatClampNeg).toNatClampNeg * (sX0_lossAt (f 20 z.toNatClampNeg) p y f L).1) (if y.toInt = 0 then 1 else 0) (sX0_lossAt (f 20 z.toNatClampNeg) p y f L).2 L) L := by
  unfold sX8_sumGroups_h10
  rw [spl_d, if_pos hd, spl_d, spl_d, spl2_d, spl_d]
  obtain ⟨o, eo⟩ : ∃ w : Int32 × sg_F, w = sX0_lossAt (f 20 z.toNatClampNeg) p y f L := ⟨_, rfl⟩
  rw [← eo]
  obtain ⟨v, ev⟩ : ∃ w : Int32, w = f 12 (f 20 z.toNatClampNeg).toNatClampNeg * o.1 := ⟨_, rfl⟩
  rw [← ev]
  clear ev eo
  have hk8 : k = 0 ∨ k = 1 ∨ k = 2 ∨ k = 3 ∨ k = 4 ∨ k = 5 ∨ k = 6 ∨ k = 7 := by omega
  by_cases hy : y.toInt = 0
  · rw [if_pos hy, if_pos hy]
    rcases hk8 with rfl | rfl | rfl | rfl | rfl | rfl | rfl | rfl
    · rw [if_pos (show z.toInt = 0 from by omega), spl_d, spl_d]; rfl
    · rw [if_neg (show ¬ z.toInt = 0 from by omega), if_pos (show z.toInt = 1 from by omega), spl_d, spl_d]; rfl
    · rw [if_neg (show ¬ z.toInt = 0 from by omega), if_neg (show ¬ z.toInt = 1 from by omega), if_pos (show z.toInt = 2 from by omega), spl_d, spl_d]; rfl
    · rw [if_neg (show ¬ z.toInt = 0 from by omega), if_neg (show ¬ z.toInt = 1 from by omega), if_neg (show ¬ z.toInt = 2 from by omega), if_pos (show z.toInt = 3 from by omega), spl_d, spl_d]; rfl
    · rw [if_neg (show ¬ z.toInt = 0 from by omega), if_neg (show ¬ z.toInt = 1 from by omega), if_neg (show ¬ z.toInt = 2 from by omega), if_neg (show ¬ z.toInt = 3 from by omega), if_pos (show z.toInt = 4 from by omega), spl_d, spl_d]; rfl
    · rw [if_neg (show ¬ z.toInt = 0 from by omega), if_neg (show ¬ z.toInt = 1 from by omega), if_neg (show ¬ z.toInt = 2 from by omega), if_neg (show ¬ z.toInt = 3 from by omega), if_neg (show ¬ z.toInt = 4 from by omega), if_pos (show z.toInt = 5 from by omega), spl_d, spl_d]; rfl
    · rw [if_neg (show ¬ z.toInt = 0 from by omega), if_neg (show ¬ z.toInt = 1 from by omega), if_neg (show ¬ z.toInt = 2 from by omega), if_neg (show ¬ z.toInt = 3 from by omega), if_neg (show ¬ z.toInt = 4 from by omega), if_neg (show ¬ z.toInt = 5 from by omega), if_pos (show z.toInt = 6 from by omega), spl_d, spl_d]; rfl
    · rw [if_neg (show ¬ z.toInt = 0 from by omega), if_neg (show ¬ z.toInt = 1 from by omega), if_neg (show ¬ z.toInt = 2 from by omega), if_neg (show ¬ z.toInt = 3 from by omega), if_neg (show ¬ z.toInt = 4 from by omega), if_neg (show ¬ z.toInt = 5 from by omega), if_neg (show ¬ z.toInt = 6 from by omega), spl_d, spl_d]; rfl
  · rw [if_neg hy, if_neg hy]
    rcases hk8 with rfl | rfl | rfl | rfl | rfl | rfl | rfl | rfl
    · rw [if_pos (show z.toInt = 0 from by omega), spl_d, spl_d]; rfl
    · rw [if_neg (show ¬ z.toInt = 0 from by omega), if_pos (show z.toInt = 1 from by omega), spl_d, spl_d]; rfl
    · rw [if_neg (show ¬ z.toInt = 0 from by omega), if_neg (show ¬ z.toInt = 1 from by omega), if_pos (show z.toInt = 2 from by omega), spl_d, spl_d]; rfl
    · rw [if_neg (show ¬ z.toInt = 0 from by omega), if_neg (show ¬ z.toInt = 1 from by omega), if_neg (show ¬ z.toInt = 2 from by omega), if_pos (show z.toInt = 3 from by omega), spl_d, spl_d]; rfl
    · rw [if_neg (show ¬ z.toInt = 0 from by omega), if_neg (show ¬ z.toInt = 1 from by omega), if_neg (show ¬ z.toInt = 2 from by omega), if_neg (show ¬ z.toInt = 3 from by omega), if_pos (show z.toInt = 4 from by omega), spl_d, spl_d]; rfl
    · rw [if_neg (show ¬ z.toInt = 0 from by omega), if_neg (show ¬ z.toInt = 1 from by omega), if_neg (show ¬ z.toInt = 2 from by omega), if_neg (show ¬ z.toInt = 3 from by omega), if_neg (show ¬ z.toInt = 4 from by omega), if_pos (show z.toInt = 5 from by omega), spl_d, spl_d]; rfl
    · rw [if_neg (show ¬ z.toInt = 0 from by omega), if_neg (show ¬ z.toInt = 1 from by omega), if_neg (show ¬ z.toInt = 2 from by omega), if_neg (show ¬ z.toInt = 3 from by omega), if_neg (show ¬ z.toInt = 4 from by omega), if_neg (show ¬ z.toInt = 5 from by omega), if_pos (show z.toInt = 6 from by omega), spl_d, spl_d]; rfl
    · rw [if_neg (show ¬ z.toInt = 0 from by omega), if_neg (show ¬ z.toInt = 1 from by omega), if_neg (show ¬ z.toInt = 2 from by omega), if_neg (show ¬ z.toInt = 3 from by omega), if_neg (show ¬ z.toInt = 4 from by omega), if_neg (show ¬ z.toInt = 5 from by omega), if_neg (show ¬ z.toInt = 6 from by omega), spl_d, spl_d]; rfl
theorem kG.sum {m : Nat → Int32} {S : Int} {hl : Bool} {T : Nat → Int32} {n : Nat} {f : sg_F} {p : Int32} (h : kG m S hl T n f) (hS : S ≤ 8) (hp : 0 ≤ p.toInt ∧ p.toInt ≤ 2) (L : sg_L) : kG m S hl T n (sX8_sumGroups p f L) := by
  have l2 : ∀ (q i : Nat) (y : Int32) (f : sg_F), y.toInt = i → kG m S hl T n f → kG m S hl T n (sX8_sumGroups_l2 p q y f L) := by
    intro q
    induction q with
    | zero => intro i y f _ h; exact h
    | succ q ih =>
      intro i y f ey h
      have e9 : sX8_sumGroups_l2 p (q + 1) y f L = sX8_sumGroups_h2 p (sX8_sumGroups_l2 p q) y f L := rfl
      rw [e9]
      unfold sX8_sumGroups_h2
      by_cases c : 60 < y.toInt
      · rw [if_pos c]; exact h
      rw [if_neg c]
      have l10 : ∀ (r j : Nat) (z : Int32) (g : sg_F), z.toInt = j → kG m S hl T n g → kG m S hl T n (sX8_sumGroups_l10 (sX8_sumGroups_l2 p q) p r y z g L) := by
        intro r
        induction r with
        | zero => intro j z g _ hg; exact hg
        | succ r ihr =>
          intro j z g ez hg
          have e8 : sX8_sumGroups_l10 (sX8_sumGroups_l2 p q) p (r + 1) y z g L = sX8_sumGroups_h10 (sX8_sumGroups_l2 p q) p (sX8_sumGroups_l10 (sX8_sumGroups_l2 p q) p r) y z g L := rfl
          by_cases d : z.toInt < (g 17 9).toInt
          case neg => rw [e8, sgh_end _ _ _ _ _ _ _ d]; exact ih (i + 1) (y + 1) g (inc1 ey (by omega)) hg
          obtain ⟨h1, h2, h3⟩ := hg
          rw [e8, sgh_at _ _ _ _ _ _ _ j ez (by omega) d]
          have cz := bn_clI (x := z) (by omega)
          obtain ⟨x1, x2, x3⟩ := xloss h1 hS (h3 z.toNatClampNeg (by omega)) hp (v := y) ⟨by omega, by omega⟩ L
          obtain ⟨o, eo⟩ : ∃ w : Int32 × sg_F, w = sX0_lossAt (g 20 z.toNatClampNeg) p y g L := ⟨_, rfl⟩
          rw [← eo] at x1 x2 x3 ⊢
          have hk : kG m S hl T n o.2 := ⟨x2, by rw [x3 17 (by decide) (by decide)]; exact h2, fun k hk => by
            rw [x3 17 (by decide) (by decide)] at hk
            rw [x3 20 (by decide) (by decide)]; exact h3 k hk⟩
          exact ihr (j + 1) (z + 1) _ (inc1 ez (by omega)) (hk.K (upTo_K _ _ _ _ _))
      exact l10 9 0 0 f (by decide) h
  exact l2 62 0 0 f (by decide) h
theorem k_chairs {fX fX1 fM : sg_F} {LX LM : sg_L} {hl : Bool} {T : Nat → Int32} {n : Nat} {d p k r1 : Int32} (h : rAll fX fM LX LM) (hc : xCx (fX 2) (fX 1 3).toInt hl T n fX) (hC : mCx (fX 2) hl T n fM) (e1 : (r1, fX1) = sX11_chairs d p k fX LX) : xLo (fX 2) (fX 1 3).toInt hl T n (fX1 9) := by
  have hb : 0 ≤ (fX 1 3).toInt ∧ (fX 1 3).toInt ≤ 8 := h.2.2.2.2.2.2 1 3
  have no : ∀ x : Int32, (r1, fX1) = (x, fX) → xLo (fX 2) (fX 1 3).toInt hl T n (fX1 9) := fun x e1 => by
    obtain ⟨a1, b1⟩ := Prod.mk.inj e1
    rw [b1]; exact hc.2.2.2
  unfold sX11_chairs at e1; (repeat first | rw [spl_d] at e1 | rw [spl2_d] at e1)
  rw [pX_isShelf, pX_isPart, has_X] at e1
  by_cases q1 : 0 ≤ d.toInt ∧ d.toInt ≤ 5
  case neg => rw [if_neg q1, if_neg zk0] at e1; exact no _ e1
  rw [if_pos q1, if_pos rfl] at e1
  by_cases q2 : p.toInt < 0
  · rw [if_pos q2] at e1; exact no _ e1
  rw [if_neg q2] at e1
  by_cases q3 : 0 ≤ (p / 10).toInt ∧ (p / 10).toInt ≤ 2
  case neg => rw [if_neg q3, if_neg zk0] at e1; exact no _ e1
  rw [if_pos q3, if_pos rfl] at e1
  by_cases q4 : (p - p / 10 * 10).toInt < 1
  · rw [if_pos q4] at e1; exact no _ e1
  rw [if_neg q4] at e1
  by_cases q5 : 3 < (p - p / 10 * 10).toInt
  · rw [if_pos q5] at e1; exact no _ e1
  rw [if_neg q5] at e1
  have main : (r1, fX1) = sX11_chairs_b59 d p k (p - p / 10 * 10) fX LX → xLo (fX 2) (fX 1 3).toInt hl T n (fX1 9) := by
    intro e1
    unfold sX11_chairs_b59 at e1; (repeat first | rw [spl_d] at e1 | rw [spl2_d] at e1)
    rcases h.week (LM := LM) hc hC q1 with ⟨a, b⟩ | ⟨a, b⟩ | ⟨b, W, N, f1, a, hN, hw, e, hr, -⟩
    · rw [a] at e1; dsimp only at e1; rw [if_neg (by decide)] at e1; exact no _ e1
    · rw [a] at e1; dsimp only at e1; rw [if_neg (by decide)] at e1; exact no _ e1
    · rw [a] at e1; dsimp only at e1; rw [if_pos (by decide)] at e1
      have hg := kG.sum (p := p / 10) (kG.gather hw.1 hb.2 hN (hw.2.2.2.2.2.1.W hN) hr.2.2.2.1 LX) hb.2 q3 LX
      unfold sX8_parted at e1; (repeat first | rw [spl_d] at e1 | rw [spl2_d] at e1)
      obtain ⟨F, eF⟩ : ∃ z : sg_F, z = sX8_sumGroups (p / 10) (sX8_gather f1 LX) LX := ⟨_, rfl⟩
      rw [← eF] at e1 hg
      obtain ⟨G, eG⟩ : ∃ z : sg_F, z = sg_up (sg_up F 17 (sgu (F 17) 12 0)) 17 (sgu (sg_up F 17 (sgu (F 17) 12 0) 17) 10 (p - p / 10 * 10)) := ⟨_, rfl⟩
      rw [← eG] at e1
      have hG : xCx (fX 2) (fX 1 3).toInt hl T n G := by
        rw [eG]
        exact hg.1.fr (by rw [sg_up_n (by decide), sg_up_n (by decide)]) (by rw [sg_up_n (by decide), sg_up_n (by decide)]) (by rw [sg_up_n (by decide), sg_up_n (by decide)]) (by rw [sg_up_n (by decide), sg_up_n (by decide)]) (by rw [sg_up_n (by decide), sg_up_n (by decide)])
      have hP : xCx (fX 2) (fX 1 3).toInt hl T n (sX8_part_0 G LX) := hG.K (fk_sX8_part_0 G LX) (fun _ => rfl) (fun _ => rfl) (fun _ => rfl) (fun _ => rfl) (fun _ => rfl)
      by_cases z : k.toInt = -1
      · rw [if_pos z] at e1
        obtain ⟨a1, b1⟩ := Prod.mk.inj e1
        rw [b1]; exact hP.2.2.2
      · rw [if_neg z] at e1
        obtain ⟨a1, b1⟩ := Prod.mk.inj e1
        rw [b1]; exact hP.2.2.2
  by_cases q6 : k.toInt = -1
  · rw [if_pos q6] at e1; exact main e1
  rw [if_neg q6] at e1
  by_cases q7 : 0 ≤ k.toInt ∧ k.toInt < (fX 1 3).toInt
  · rw [if_pos q7, if_pos rfl] at e1; exact main e1
  · rw [if_neg q7, if_neg zk0] at e1; exact no _ e1
theorem rIm.by_ {fX fX1 fM fM1 : sg_F} (h : rIm fX fM) (a : fX1 29 0 = fM1 0 38) (b : fX1 28 5 = fX 28 5) (c : fX1 30 0 = fX 30 0) (d : ∀ j : Nat, fX1 31 j = fX 31 j) (i : fM1 0 43 = fM 0 43) (k : ∀ j : Nat, fM1 19 j = fM 19 j) : rIm fX1 fM1 := by
  refine ⟨a, ?_⟩
  rw [b, c, i, show fX1 31 = fX 31 from funext d, show fM1 19 = fM 19 from funext k]
  exact h.2
