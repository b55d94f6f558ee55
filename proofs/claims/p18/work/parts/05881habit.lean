/-! HABITS, a sitter who comes -/
def slp (a v : Int32) : Int32 := if (0 : Int32) < v - a then v - a else 0
def tvn (nr w v : Int32) : Int32 := if nr.toInt < (ab (v - w)).toInt then w else v
def mxc (c fe : Int32) : Int32 := if (0 : Int32) < c - fe then c - fe else 0
/-- the parts' numbers are within what they may be -/
def pOk (m : Nat → Int32) : Prop := ∀ p : Nat, 64 ≤ p → p < 71 → 0 ≤ (m p).toInt ∧ (m p).toInt ≤ 99
theorem adI {a p : Int32} {k j : Nat} (hk : a.toInt = k) (hk1 : k ≤ 100) (hp : p.toInt = j) (hj : j ≤ 100) : (a + p).toNatClampNeg = k + j := by
  have e : (a + p).toInt = a.toInt + p.toInt := bn_addI (by omega) (by omega)
  have c := bn_clI (x := a + p) (by omega)
  omega
theorem slpX {p : Int32} {k : Nat} (hp : p.toInt = k) (hk : k < 3) (v : Int32) (f : sg_F) (L : sg_L) : sX0_slipped p v f L = slp (f 2 (64 + k)) v := by
  unfold sX0_slipped slp; (repeat first | rw [spl_d] | rw [spl2_d])
  rw [adI (k := 64) (by decide) (by omega) hp (by omega)]
theorem slp_b {a v : Int32} (ha : 0 ≤ a.toInt ∧ a.toInt ≤ 99) (hv : 0 ≤ v.toInt ∧ v.toInt ≤ 60) : 0 ≤ (slp a v).toInt ∧ (slp a v).toInt ≤ 60 ∧ ((v - a).toInt < 0 ∧ slp a v = 0 ∨ 0 ≤ (v - a).toInt ∧ slp a v = v - a) := by
  have k0 : (0 : Int32).toInt = 0 := by decide
  have e : (v - a).toInt = v.toInt - a.toInt := bn_subI (by omega) (by omega)
  unfold slp
  by_cases c : (0 : Int32) < v - a
  · have d := bn_lt c
    rw [if_pos c]
    exact ⟨by omega, by omega, Or.inr ⟨by omega, rfl⟩⟩
  · have d := bn_nlt c
    rw [if_neg c]
    refine ⟨by decide, by decide, ?_⟩
    by_cases z : (v - a).toInt < 0
    · exact Or.inl ⟨z, rfl⟩
    · exact Or.inr ⟨by omega, Int32.toInt_inj.mp (by omega)⟩
theorem slpM {p : Int32} {k : Nat} (hp : p.toInt = k) (hk : k < 3) {v : Int32} {g : sg_F} (ha : 0 ≤ (g 1 (64 + k)).toInt ∧ (g 1 (64 + k)).toInt ≤ 99) (hv : 0 ≤ v.toInt ∧ v.toInt ≤ 60) (L : sg_L) : sX12_slipped p v g L = slp (g 1 (64 + k)) v := by
  unfold sX12_slipped; (repeat first | rw [spl_d] | rw [spl2_d])
  rw [adI (k := 64) (by decide) (by omega) hp (by omega)]
  obtain ⟨-, -, h⟩ := slp_b ha hv
  rcases h with ⟨a, b⟩ | ⟨a, b⟩
  · rw [if_pos a, b]
  · rw [if_neg (by omega), b]
theorem tvn_b {nr w v : Int32} (hw : 0 ≤ w.toInt ∧ w.toInt ≤ 60) (hv : 0 ≤ v.toInt ∧ v.toInt ≤ 60) : 0 ≤ (tvn nr w v).toInt ∧ (tvn nr w v).toInt ≤ 60 := by
  unfold tvn
  by_cases c : nr.toInt < (ab (v - w)).toInt
  · rw [if_pos c]; exact hw
  · rw [if_neg c]; exact hv
theorem ab_sw {v w : Int32} (hv : 0 ≤ v.toInt ∧ v.toInt ≤ 60) (hw : 0 ≤ w.toInt ∧ w.toInt ≤ 60) : ab (w - v) = ab (v - w) := by
  have a := ab_le hv hw
  have b := ab_le hw hv
  exact Int32.toInt_inj.mp (by omega)
theorem ab_0 (v : Int32) : ab (v - v) = 0 := by
  have e : v - v = 0 := by rw [Int32.sub_self]
  rw [e]; decide
/-- turning a part -/
theorem xturn {y : Int32} {p : Nat} (ey : y.toInt = p) (hp : p < 3) (v1 : Int32) (f : sg_F) (L : sg_L) : ∃ g : sg_F, sX4_turnTo y v1 f L = (ab (v1 - f 14 p) * f 2 (67 + p), g) ∧ g 14 = sgu (f 14) p v1 ∧ g 15 = sgu (f 15) p (f 15 p + ab (v1 - f 14 p)) ∧ g 13 6 = f 13 6 + ab (v1 - f 14 p) * f 2 (67 + p) ∧ (∀ j : Nat, j ≠ 6 → g 13 j = f 13 j) ∧ ∀ q : Nat, q ≠ 13 → q ≠ 14 → q ≠ 15 → g q = f q := by
  have cy := bn_clI (x := y) (by omega)
  have ep : y.toNatClampNeg = p := by omega
  unfold sX4_turnTo sX0_priceOf; (repeat first | rw [spl_d] | rw [spl2_d])
  rw [adI (k := 67) (by decide) (by omega) ey (by omega), ep]
  refine ⟨_, rfl, ?_, ?_, ?_, fun j hj => ?_, fun q h1 h2 h3 => ?_⟩
  · rw [sg_up_s, sg_up_n (show (14 : Nat) ≠ 13 by decide), sg_up_n (show (14 : Nat) ≠ 15 by decide)]
  · rw [sg_up_n (show (15 : Nat) ≠ 14 by decide), sg_up_n (show (15 : Nat) ≠ 13 by decide), sg_up_s]; rfl
  · rw [sg_up_n (show (13 : Nat) ≠ 14 by decide), sg_up_s, sgu_s, sg_up_n (show (13 : Nat) ≠ 15 by decide)]; rfl
  · rw [sg_up_n (show (13 : Nat) ≠ 14 by decide), sg_up_s, sgu_n hj, sg_up_n (show (13 : Nat) ≠ 15 by decide)]
  · rw [sg_up_n h2, sg_up_n h1, sg_up_n h3]
theorem xtvn {s y : Int32} {p : Nat} (hs : 0 ≤ s.toInt ∧ s.toInt ≤ 7) (ey : y.toInt = p) (hp : p < 3) (v nr : Int32) (f : sg_F) (L : sg_L) : sX0_turned s y v nr f L = tvn nr (f 2 (8 * s.toNatClampNeg + p)) v := by
  have cy := bn_clI (x := y) (by omega)
  unfold sX0_turned; (repeat first | rw [spl_d] | rw [spl2_d])
  rw [numX hs ⟨by omega, by omega⟩, show y.toNatClampNeg = p from by omega]
  rfl
/-- one part of a sitter's coming -/
theorem xcm1 {m : Nat → Int32} {S : Int} {hl : Bool} {T : Nat → Int32} {n : Nat} {s y nr : Int32} {p : Nat} {f : sg_F} (h : xCx m S hl T n f) (hS : S ≤ 8) (hm : mOk m) (hs : 0 ≤ s.toInt ∧ s.toInt < S) (ey : y.toInt = p) (hp : p < 3) (hv : 0 ≤ (f 14 p).toInt ∧ (f 14 p).toInt ≤ 60) (k : Nat) (L : sg_L) : ∃ f1 : sg_F, sX4_comes_l28 s (k + 1) nr y f L = sX4_comes_l28 s k nr (y + 1) f1 L ∧ xCx m S hl T n f1 ∧ (∀ q : Nat, q ≠ 8 → q ≠ 9 → q ≠ 13 → q ≠ 14 → q ≠ 15 → q ≠ 16 → f1 q = f q) ∧ (∀ j : Nat, j ≠ 5 → j ≠ 6 → f1 13 j = f 13 j) ∧ f1 14 = sgu (f 14) p (tvn nr (m (8 * s.toNatClampNeg + p)) (f 14 p)) ∧ f1 15 = sgu (f 15) p (f 15 p + ab (tvn nr (m (8 * s.toNatClampNeg + p)) (f 14 p) - f 14 p)) ∧ f1 16 = sgu (f 16) s.toNatClampNeg (f 16 s.toNatClampNeg + mxc (ab (tvn nr (m (8 * s.toNatClampNeg + p)) (f 14 p) - f 14 p) * m (67 + p)) (m 70)) ∧ f1 13 5 = f 13 5 + lsv m hl T n s y (tvn nr (m (8 * s.toNatClampNeg + p)) (f 14 p)) ∧ f1 13 6 = f 13 6 + ab (tvn nr (m (8 * s.toNatClampNeg + p)) (f 14 p) - f 14 p) * m (67 + p) + lsv m hl T n s y (tvn nr (m (8 * s.toNatClampNeg + p)) (f 14 p)) := by
  have hs7 : 0 ≤ s.toInt ∧ s.toInt ≤ 7 := by omega
  have cs := bn_clI hs.1
  have cy := bn_clI (x := y) (by omega)
  have ep : y.toNatClampNeg = p := by omega
  have e9 : sX4_comes_l28 s (k + 1) nr y f L = sX4_comes_h28 s (sX4_comes_l28 s k) nr y f L := rfl
  rw [e9]
  unfold sX4_comes_h28
  rw [if_pos (show y.toInt < 3 from by omega), spl_d, ep, xtvn hs7 ey hp, h.1, spl_d]
  obtain ⟨t, et⟩ : ∃ z : Int32, z = tvn nr (m (8 * s.toNatClampNeg + p)) (f 14 p) := ⟨_, rfl⟩
  rw [← et]
  have bw := (hm s.toNatClampNeg (by omega)).1 p hp
  have bt : 0 ≤ t.toInt ∧ t.toInt ≤ 60 := by rw [et]; exact tvn_b bw hv
  obtain ⟨g, g0, g1, g2, g3, g4, g5⟩ := xturn ey hp t f L
  rw [g0, h.1] at *
  unfold sX0_fetch
  rw [spl2_d]
  dsimp only
  rw [spl_d, spl_d, spl_d, spl_d, spl_d, spl_d, spl_d, spl_d]
  have q2 : g 2 = m := by rw [g5 2 (by decide) (by decide) (by decide)]; exact h.1
  have q16 : g 16 = f 16 := g5 16 (by decide) (by decide) (by decide)
  rw [show (70 : Int32).toNatClampNeg = 70 from by decide, q2, q16]
  obtain ⟨g6, e6⟩ : ∃ z : sg_F, z = sg_up g 16 (sgu (f 16) s.toNatClampNeg (f 16 s.toNatClampNeg + (if (0 : Int32) < ab (t - f 14 p) * m (67 + p) - m 70 then ab (t - f 14 p) * m (67 + p) - m 70 else 0))) := ⟨_, rfl⟩
  rw [← e6]
  have r14 : g6 14 p = t := by rw [e6, sg_up_n (by decide), g1, sgu_s]
  have c6 : xCx m S hl T n g6 := h.fr (by rw [e6, sg_up_n (by decide), g5 1 (by decide) (by decide) (by decide)]) (by rw [e6, sg_up_n (by decide), g5 2 (by decide) (by decide) (by decide)]) (by rw [e6, sg_up_n (by decide), g5 4 (by decide) (by decide) (by decide)]) (by rw [e6, sg_up_n (by decide), g5 7 (by decide) (by decide) (by decide)]) (by rw [e6, sg_up_n (by decide), g5 9 (by decide) (by decide) (by decide)])
  rw [r14]
  obtain ⟨l1, l2, l3⟩ := xloss c6 hS hs (p := y) ⟨by omega, by omega⟩ bt L
  obtain ⟨o, eo⟩ : ∃ z : Int32 × sg_F, z = sX0_lossAt s y t g6 L := ⟨_, rfl⟩
  rw [← eo] at l1 l2 l3 ⊢
  rw [spl2_d, spl_d, spl_d, spl_d, spl_d, spl_d, spl_d, spl_d, l1]
  obtain ⟨w, ew⟩ : ∃ z : Int32, z = lsv m hl T n s y t := ⟨_, rfl⟩
  rw [← ew]
  have o13 : o.2 13 = g 13 := by rw [l3 13 (by decide) (by decide), e6, sg_up_n (by decide)]
  refine ⟨_, rfl, ?_, fun q a1 a2 a3 a4 a5 a6 => ?_, fun j a1 a2 => ?_, ?_, ?_, ?_, ?_, ?_⟩
  · exact l2.fr (by rw [sg_up_n (by decide), sg_up_n (by decide)]) (by rw [sg_up_n (by decide), sg_up_n (by decide)]) (by rw [sg_up_n (by decide), sg_up_n (by decide)]) (by rw [sg_up_n (by decide), sg_up_n (by decide)]) (by rw [sg_up_n (by decide), sg_up_n (by decide)])
  · rw [sg_up_n a3, sg_up_n a3, l3 q a1 a2, e6, sg_up_n a6, g5 q a3 a4 a5]
  · rw [sg_up_s, sgu_n a2, sg_up_s, sgu_n a1, o13, g4 j a2]
  · rw [sg_up_n (show (14 : Nat) ≠ 13 by decide), sg_up_n (show (14 : Nat) ≠ 13 by decide), l3 14 (by decide) (by decide), e6, sg_up_n (by decide), g1]
  · rw [sg_up_n (show (15 : Nat) ≠ 13 by decide), sg_up_n (show (15 : Nat) ≠ 13 by decide), l3 15 (by decide) (by decide), e6, sg_up_n (by decide), g2]
  · rw [sg_up_n (show (16 : Nat) ≠ 13 by decide), sg_up_n (show (16 : Nat) ≠ 13 by decide), l3 16 (by decide) (by decide), e6, sg_up_s]
    rfl
  · rw [sg_up_s, sgu_n (show (5 : Nat) ≠ 6 by decide), sg_up_s, sgu_s, o13, g4 5 (by decide)]
  · rw [sg_up_s, sgu_s, sg_up_s, sgu_n (show (6 : Nat) ≠ 5 by decide), o13, g3]
/-- how a sitter's coming changes the class -/
def xCm (m : Nat → Int32) (hl : Bool) (T : Nat → Int32) (n : Nat) (s nr : Int32) (f f1 : sg_F) : Prop := (∀ q : Nat, q ≠ 8 → q ≠ 9 → q ≠ 13 → q ≠ 14 → q ≠ 15 → q ≠ 16 → f1 q = f q) ∧ (∀ j : Nat, j ≠ 5 → j ≠ 6 → f1 13 j = f 13 j) ∧ (∀ p : Nat, p < 3 → f1 14 p = tvn nr (m (8 * s.toNatClampNeg + p)) (f 14 p) ∧ f1 15 p = f 15 p + ab (tvn nr (m (8 * s.toNatClampNeg + p)) (f 14 p) - f 14 p)) ∧ f1 16 = sgu (f 16) s.toNatClampNeg (f 16 s.toNatClampNeg + mxc (ab (tvn nr (m (8 * s.toNatClampNeg + 0)) (f 14 0) - f 14 0) * m (67 + 0)) (m 70) + mxc (ab (tvn nr (m (8 * s.toNatClampNeg + 1)) (f 14 1) - f 14 1) * m (67 + 1)) (m 70) + mxc (ab (tvn nr (m (8 * s.toNatClampNeg + 2)) (f 14 2) - f 14 2) * m (67 + 2)) (m 70)) ∧ f1 13 5 = f 13 5 + lsv m hl T n s 0 (tvn nr (m (8 * s.toNatClampNeg + 0)) (f 14 0)) + lsv m hl T n s 1 (tvn nr (m (8 * s.toNatClampNeg + 1)) (f 14 1)) + lsv m hl T n s 2 (tvn nr (m (8 * s.toNatClampNeg + 2)) (f 14 2)) ∧ f1 13 6 = f 13 6 + ab (tvn nr (m (8 * s.toNatClampNeg + 0)) (f 14 0) - f 14 0) * m (67 + 0) + lsv m hl T n s 0 (tvn nr (m (8 * s.toNatClampNeg + 0)) (f 14 0)) + ab (tvn nr (m (8 * s.toNatClampNeg + 1)) (f 14 1) - f 14 1) * m (67 + 1) + lsv m hl T n s 1 (tvn nr (m (8 * s.toNatClampNeg + 1)) (f 14 1)) + ab (tvn nr (m (8 * s.toNatClampNeg + 2)) (f 14 2) - f 14 2) * m (67 + 2) + lsv m hl T n s 2 (tvn nr (m (8 * s.toNatClampNeg + 2)) (f 14 2))
theorem xcm {m : Nat → Int32} {S : Int} {hl : Bool} {T : Nat → Int32} {n : Nat} {s : Int32} {f : sg_F} (h : xCx m S hl T n f) (hS : S ≤ 8) (hm : mOk m) (hs : 0 ≤ s.toInt ∧ s.toInt < S) (hv : ∀ p : Nat, p < 3 → 0 ≤ (f 14 p).toInt ∧ (f 14 p).toInt ≤ 60) (L : sg_L) : xCx m S hl T n (sX4_comes s f L) ∧ xCm m hl T n s (if s.toInt = (f 13 7).toInt then f 13 8 else m (8 * s.toNatClampNeg + 6)) f (sX4_comes s f L) := by
  have k6 : (6 : Int32).toInt = 6 := by decide
  have e0 : sX4_comes s f L = sX4_comes_l28 s 4 (if s.toInt = (f 13 7).toInt then f 13 8 else m (8 * s.toNatClampNeg + 6)) 0 f L := by
    unfold sX4_comes; (repeat first | rw [spl_d] | rw [spl2_d])
    rw [numX (w := 6) (by omega) (by rw [k6]; decide), h.1, show (6 : Int32).toNatClampNeg = 6 from by decide]
    by_cases c : s.toInt = (f 13 7).toInt
    · rw [if_pos c, if_pos c]
    · rw [if_neg c, if_neg c]
  obtain ⟨nr, en⟩ : ∃ z : Int32, z = (if s.toInt = (f 13 7).toInt then f 13 8 else m (8 * s.toNatClampNeg + 6)) := ⟨_, rfl⟩
  rw [← en] at e0 ⊢
  have a1 : (0 : Int32) + 1 = 1 := by decide
  have a2 : (1 : Int32) + 1 = 2 := by decide
  have a3 : (2 : Int32) + 1 = 3 := by decide
  obtain ⟨f1, u1, u2, u3, u4, u5, u6, u7, u8, u9⟩ := xcm1 (nr := nr) (y := 0) (p := 0) h hS hm hs (by decide) (by decide) (hv 0 (by decide)) 3 L
  have v1 : f1 14 1 = f 14 1 := by rw [u5, sgu_n (by decide)]
  have v2 : f1 14 2 = f 14 2 := by rw [u5, sgu_n (by decide)]
  obtain ⟨f2, w1, w2, w3, w4, w5, w6, w7, w8, w9⟩ := xcm1 (nr := nr) (y := 1) (p := 1) u2 hS hm hs (by decide) (by decide) (by rw [v1]; exact hv 1 (by decide)) 2 L
  have v3 : f2 14 2 = f 14 2 := by rw [w5, sgu_n (by decide), v2]
  obtain ⟨f3, x1, x2, x3, x4, x5, x6, x7, x8, x9⟩ := xcm1 (nr := nr) (y := 2) (p := 2) w2 hS hm hs (by decide) (by decide) (by rw [v3]; exact hv 2 (by decide)) 1 L
  have e4 : sX4_comes_l28 s 1 nr 3 f3 L = f3 := by
    show sX4_comes_h28 s (sX4_comes_l28 s 0) nr 3 f3 L = f3
    unfold sX4_comes_h28
    rw [if_neg (by decide)]
  rw [v1] at w5 w6 w7 w8 w9
  rw [v3] at x5 x6 x7 x8 x9
  rw [e0, u1, a1, w1, a2, x1, a3, e4]
  refine ⟨x2, fun q b1 b2 b3 b4 b5 b6 => ?_, fun j b1 b2 => ?_, fun p hp => ?_, ?_, ?_, ?_⟩
  · rw [x3 q b1 b2 b3 b4 b5 b6, w3 q b1 b2 b3 b4 b5 b6, u3 q b1 b2 b3 b4 b5 b6]
  · rw [x4 j b1 b2, w4 j b1 b2, u4 j b1 b2]
  · rcases (show p = 0 ∨ p = 1 ∨ p = 2 from by omega) with rfl | rfl | rfl
    · refine ⟨?_, ?_⟩
      · rw [x5, sgu_n (by decide), w5, sgu_n (by decide), u5, sgu_s]
      · rw [x6, sgu_n (by decide), w6, sgu_n (by decide), u6, sgu_s]
    · refine ⟨?_, ?_⟩
      · rw [x5, sgu_n (by decide), w5, sgu_s]
      · rw [x6, sgu_n (by decide), w6, sgu_s, u6, sgu_n (by decide)]
    · refine ⟨?_, ?_⟩
      · rw [x5, sgu_s]
      · rw [x6, sgu_s, w6, sgu_n (by decide), u6, sgu_n (by decide)]
  · rw [x7, w7, u7, sgu_s, sgu_s]
    funext j
    by_cases z : j = s.toNatClampNeg
    · rw [z, sgu_s, sgu_s]
    · rw [sgu_n z, sgu_n z, sgu_n z, sgu_n z]
  · rw [x8, w8, u8]
  · rw [x9, w9, u9]
/-! the reference -/
def bt (k s : Int32) : Bool := decide (((k >>> (s &&& 31)) &&& 1).toInt = 1)
def mcs (b : Bool) (fe c : Int32) : Int32 := if b = true ∧ fe.toInt < c.toInt then fe else c
/-- all but what a week uses is as it was -/
def mH (g g1 : sg_F) : Prop := ∀ k j : Nat, k ≠ 8 → k ≠ 12 → k ≠ 13 → (k ≠ 0 ∨ (j ≠ 12 ∧ j ≠ 13 ∧ j ≠ 14 ∧ j ≠ 15 ∧ j ≠ 16 ∧ j ≠ 29 ∧ j ≠ 30 ∧ j ≠ 31)) → g1 k j = g k j
theorem mH.rf {g : sg_F} : mH g g := fun _ _ _ _ _ _ => rfl
theorem mH.tr {g g1 g2 : sg_F} (h : mH g g1) (h1 : mH g1 g2) : mH g g2 := fun k j a b c d => (h1 k j a b c d).trans (h k j a b c d)
theorem mX.H {g g1 : sg_F} (h : mX g g1) : mH g g1 := fun k j a _ _ d => h k j a (by omega)
theorem mH.put {g : sg_F} {j : Nat} {x : Int32} (hj : j = 29 ∨ j = 30 ∨ j = 31) : mH g (sg_up g 0 (sgu (g 0) j x)) := by
  intro k i _ _ _ hk
  by_cases c : k = 0
  · subst c
    rw [sg_up_s, sgu_n (by omega)]
  · rw [sg_up_n c]
theorem mH.p12 {g : sg_F} {x : Nat → Int32} : mH g (sg_up g 12 x) := fun k j _ hk _ _ => by rw [sg_up_n hk]
theorem mH.p13 {g : sg_F} {x : Nat → Int32} : mH g (sg_up g 13 x) := fun k j _ _ hk _ => by rw [sg_up_n hk]
theorem mCx.H {m : Nat → Int32} {hl : Bool} {T : Nat → Int32} {n : Nat} {g g1 : sg_F} (h : mCx m hl T n g) (k : mH g g1) : mCx m hl T n g1 := h.fr (fun j => k 1 j (by decide) (by decide) (by decide) (Or.inl (by decide))) (fun j => k 7 j (by decide) (by decide) (by decide) (Or.inl (by decide))) (k 0 11 (by decide) (by decide) (by decide) (Or.inr (by decide)))
/-- a turn's price, to the reference -/
def mpr (m : Nat → Int32) (g : sg_F) (p : Nat) : Int32 := if (g 0 23).toInt = 0 then m (67 + p) else m (67 + p) / 2
theorem mprM {m : Nat → Int32} {hl : Bool} {T : Nat → Int32} {n : Nat} {g : sg_F} {y : Int32} {p : Nat} (h : mCx m hl T n g) (ey : y.toInt = p) (hp : p < 3) (L : sg_L) : sX12_priceOf y g L = mpr m g p := by
  unfold sX12_priceOf mpr; (repeat first | rw [spl_d] | rw [spl2_d])
  rw [adI (k := 67) (by decide) (by omega) ey (by omega), h.2.1 (67 + p) (by omega) (by omega)]
theorem mpr_H {m : Nat → Int32} {g g1 : sg_F} {p : Nat} (k : mH g g1) : mpr m g1 p = mpr m g p := by
  unfold mpr
  rw [k 0 23 (by decide) (by decide) (by decide) (Or.inr (by decide))]
theorem isInM (k s : Int32) (f : sg_F) (L : sg_L) : sX12_isIn k s f L = if bt k s = true then 1 else 0 := by
  unfold sX12_isIn bt; (repeat first | rw [spl_d] | rw [spl2_d])
  by_cases c : ((k >>> (s &&& 31)) &&& 1).toInt = 1
  · rw [if_pos c, if_pos (decide_eq_true c)]
  · rw [if_neg c, if_neg (fun w => c (of_decide_eq_true w))]
/-- turning a part: b: a memory helps -/
theorem mturn {m : Nat → Int32} {hl : Bool} {T : Nat → Int32} {n : Nat} {g : sg_F} {y v1 s : Int32} {p : Nat} (h : mCx m hl T n g) (ey : y.toInt = p) (hp : p < 3) (hd : -2147483648 < (v1 - g 12 p).toInt) (L : sg_L) : (sX12_turnsTo y v1 s g L) 12 = sgu (g 12) p v1 ∧ (sX12_turnsTo y v1 s g L) 0 29 = g 0 29 + ab (v1 - g 12 p) ∧ (sX12_turnsTo y v1 s g L) 0 31 = g 0 31 + (if s.toInt < 0 then ab (v1 - g 12 p) * mpr m g p else mcs (bt (g 0 22) s) (m 70) (ab (v1 - g 12 p) * mpr m g p)) ∧ (sX12_turnsTo y v1 s g L) 0 30 = g 0 30 ∧ (sX12_turnsTo y v1 s g L) 13 = g 13 ∧ mH g (sX12_turnsTo y v1 s g L) := by
  have cy := bn_clI (x := y) (by omega)
  have ep : y.toNatClampNeg = p := by omega
  have c70 : (70 : Int32).toNatClampNeg = 70 := by decide
  unfold sX12_turnsTo; (repeat first | rw [spl_d] | rw [spl2_d])
  rw [ep, siz_ab hd, mprM h ey hp, c70]
  obtain ⟨a, ea⟩ : ∃ z : Int32, z = ab (v1 - g 12 p) := ⟨_, rfl⟩
  rw [← ea]
  obtain ⟨c, ec⟩ : ∃ z : Int32, z = a * mpr m g p := ⟨_, rfl⟩
  rw [← ec]
  -- the common end
  have fin : ∀ x : Int32, (sg_up (sg_up (sg_up g 0 (sgu (g 0) 29 (g 0 29 + a))) 0 (sgu (sg_up g 0 (sgu (g 0) 29 (g 0 29 + a)) 0) 31 (sg_up g 0 (sgu (g 0) 29 (g 0 29 + a)) 0 31 + x))) 12 (sgu (sg_up (sg_up g 0 (sgu (g 0) 29 (g 0 29 + a))) 0 (sgu (sg_up g 0 (sgu (g 0) 29 (g 0 29 + a)) 0) 31 (sg_up g 0 (sgu (g 0) 29 (g 0 29 + a)) 0 31 + x)) 12) p v1)) 12 = sgu (g 12) p v1 ∧ (sg_up (sg_up (sg_up g 0 (sgu (g 0) 29 (g 0 29 + a))) 0 (sgu (sg_up g 0 (sgu (g 0) 29 (g 0 29 + a)) 0) 31 (sg_up g 0 (sgu (g 0) 29 (g 0 29 + a)) 0 31 + x))) 12 (sgu (sg_up (sg_up g 0 (sgu (g 0) 29 (g 0 29 + a))) 0 (sgu (sg_up g 0 (sgu (g 0) 29 (g 0 29 + a)) 0) 31 (sg_up g 0 (sgu (g 0) 29 (g 0 29 + a)) 0 31 + x)) 12) p v1)) 0 29 = g 0 29 + a ∧ (sg_up (sg_up (sg_up g 0 (sgu (g 0) 29 (g 0 29 + a))) 0 (sgu (sg_up g 0 (sgu (g 0) 29 (g 0 29 + a)) 0) 31 (sg_up g 0 (sgu (g 0) 29 (g 0 29 + a)) 0 31 + x))) 12 (sgu (sg_up (sg_up g 0 (sgu (g 0) 29 (g 0 29 + a))) 0 (sgu (sg_up g 0 (sgu (g 0) 29 (g 0 29 + a)) 0) 31 (sg_up g 0 (sgu (g 0) 29 (g 0 29 + a)) 0 31 + x)) 12) p v1)) 0 31 = g 0 31 + x ∧ (sg_up (sg_up (sg_up g 0 (sgu (g 0) 29 (g 0 29 + a))) 0 (sgu (sg_up g 0 (sgu (g 0) 29 (g 0 29 + a)) 0) 31 (sg_up g 0 (sgu (g 0) 29 (g 0 29 + a)) 0 31 + x))) 12 (sgu (sg_up (sg_up g 0 (sgu (g 0) 29 (g 0 29 + a))) 0 (sgu (sg_up g 0 (sgu (g 0) 29 (g 0 29 + a)) 0) 31 (sg_up g 0 (sgu (g 0) 29 (g 0 29 + a)) 0 31 + x)) 12) p v1)) 0 30 = g 0 30 ∧ (sg_up (sg_up (sg_up g 0 (sgu (g 0) 29 (g 0 29 + a))) 0 (sgu (sg_up g 0 (sgu (g 0) 29 (g 0 29 + a)) 0) 31 (sg_up g 0 (sgu (g 0) 29 (g 0 29 + a)) 0 31 + x))) 12 (sgu (sg_up (sg_up g 0 (sgu (g 0) 29 (g 0 29 + a))) 0 (sgu (sg_up g 0 (sgu (g 0) 29 (g 0 29 + a)) 0) 31 (sg_up g 0 (sgu (g 0) 29 (g 0 29 + a)) 0 31 + x)) 12) p v1)) 13 = g 13 ∧ mH g (sg_up (sg_up (sg_up g 0 (sgu (g 0) 29 (g 0 29 + a))) 0 (sgu (sg_up g 0 (sgu (g 0) 29 (g 0 29 + a)) 0) 31 (sg_up g 0 (sgu (g 0) 29 (g 0 29 + a)) 0 31 + x))) 12 (sgu (sg_up (sg_up g 0 (sgu (g 0) 29 (g 0 29 + a))) 0 (sgu (sg_up g 0 (sgu (g 0) 29 (g 0 29 + a)) 0) 31 (sg_up g 0 (sgu (g 0) 29 (g 0 29 + a)) 0 31 + x)) 12) p v1)) := by
    intro x
    refine ⟨rfl, rfl, rfl, rfl, rfl, ?_⟩
    exact ((mH.put (Or.inl rfl)).tr (mH.put (Or.inr (Or.inr rfl)))).tr mH.p12
  by_cases c1 : s.toInt < 0
  · rw [if_pos c1, if_pos c1]
    exact fin c
  rw [if_neg c1, if_neg c1, isInM]
  have e22 : sg_up g 0 (sgu (g 0) 29 (g 0 29 + a)) 0 22 = g 0 22 := by rw [sg_up_s, sgu_n (by decide)]
  have e70 : sg_up g 0 (sgu (g 0) 29 (g 0 29 + a)) 1 70 = m 70 := by rw [sg_up_n (by decide)]; exact h.2.1 70 (by decide) (by decide)
  rw [e22, e70]
  have k1 : (1 : Int32).toInt = 1 := by decide
  have k0 : (0 : Int32).toInt = 0 := by decide
  unfold mcs
  by_cases c2 : bt (g 0 22) s = true
  · rw [if_pos c2, if_neg (show ¬ (1 : Int32).toInt = 0 from by decide)]
    by_cases c3 : (m 70).toInt < c.toInt
    · rw [if_pos c3, if_pos ⟨c2, c3⟩]
      exact fin (m 70)
    · rw [if_neg c3, if_neg (fun z => c3 z.2)]
      exact fin c
  · rw [if_neg c2, if_pos k0, if_neg (fun z => c2 z.1)]
    exact fin c
