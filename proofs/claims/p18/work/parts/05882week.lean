/-! HABITS, a week -/
theorem mcs_0 {b : Bool} {fe : Int32} (hf : 0 ≤ fe.toInt) : mcs b fe 0 = 0 := by
  have k0 : (0 : Int32).toInt = 0 := by decide
  unfold mcs
  rw [if_neg (fun z => by have := z.2; omega)]
theorem msl1 {y : Int32} {p : Nat} (ey : y.toInt = p) (hp : p < 3) : y.toNatClampNeg = p := by
  have := bn_clI (x := y) (by omega)
  omega
/-- the near of a sitter, to the reference -/
def mnr (m : Nat → Int32) (g : sg_F) (s : Int32) : Int32 := if s.toInt = (g 0 20).toInt then g 0 21 else m (8 * s.toNatClampNeg + 6)
/-- one part of a sitter's coming: the turn -/
theorem mcm1 {m : Nat → Int32} {hl : Bool} {T : Nat → Int32} {n : Nat} {g : sg_F} {s y : Int32} {p : Nat} (h : mCx m hl T n g) (hm : mOk m) (hq : pOk m) (hs : 0 ≤ s.toInt ∧ s.toInt ≤ 7) (ey : y.toInt = p) (hp : p < 3) (hv : 0 ≤ (g 12 p).toInt ∧ (g 12 p).toInt ≤ 60) (k : Nat) (L : sg_L) : ∃ g1 : sg_F, sX12_comes_l2 s (k + 1) y g L = sX12_comes_l2 s k (y + 1) g1 L ∧ mH g g1 ∧ g1 12 = sgu (g 12) p (tvn (mnr m g s) (m (8 * s.toNatClampNeg + p)) (g 12 p)) ∧ g1 0 29 = g 0 29 + ab (tvn (mnr m g s) (m (8 * s.toNatClampNeg + p)) (g 12 p) - g 12 p) ∧ g1 0 31 = g 0 31 + mcs (bt (g 0 22) s) (m 70) (ab (tvn (mnr m g s) (m (8 * s.toNatClampNeg + p)) (g 12 p) - g 12 p) * mpr m g p) ∧ g1 0 30 = g 0 30 ∧ g1 13 = g 13 := by
  have cs := bn_clI hs.1
  have ep := msl1 ey hp
  have k6 : (6 : Int32).toInt = 6 := by decide
  have bw := (hm s.toNatClampNeg (by omega)).1 p hp
  have e9 : sX12_comes_l2 s (k + 1) y g L = sX12_comes_h2 s (sX12_comes_l2 s k) y g L := rfl
  rw [e9]
  unfold sX12_comes_h2 sX12_nearBy sX12_comes_b40; (repeat first | rw [spl_d] | rw [spl2_d])
  rw [if_pos (show y.toInt < 3 from by omega), numM (w := y) hs ⟨by omega, by omega⟩, numM (w := 6) hs (by rw [k6]; decide), ep, h.1 _ p (by omega) (by omega), show (6 : Int32).toNatClampNeg = 6 from by decide, h.1 _ 6 (by omega) (by decide)]
  obtain ⟨w, ew⟩ : ∃ z : Int32, z = m (8 * s.toNatClampNeg + p) := ⟨_, rfl⟩
  rw [← ew] at bw ⊢
  have a1 := ab_le hv bw
  have a2 := ab_le bw hv
  rw [siz_ab (x := w - g 12 p) (by omega), ab_sw hv bw]
  have en : (if s.toInt = (g 0 20).toInt then g 0 21 else m (8 * s.toNatClampNeg + 6)) = mnr m g s := rfl
  rw [en]
  by_cases c : (mnr m g s).toInt < (ab (g 12 p - w)).toInt
  · rw [if_pos c]
    have et : tvn (mnr m g s) w (g 12 p) = w := by unfold tvn; rw [if_pos c]
    rw [et]
    obtain ⟨t1, t2, t3, t4, t5, t6⟩ := mturn (s := s) (v1 := w) h ey hp (by omega) L
    rw [if_neg (show ¬ s.toInt < 0 from by omega)] at t3
    exact ⟨_, rfl, t6, t1, t2, t3, t4, t5⟩
  · rw [if_neg c]
    have et : tvn (mnr m g s) w (g 12 p) = g 12 p := by unfold tvn; rw [if_neg c]
    rw [et, ab_0, Int32.zero_mul, mcs_0 (hq 70 (by decide) (by decide)).1, Int32.add_zero, Int32.add_zero]
    refine ⟨g, rfl, mH.rf, ?_, rfl, rfl, rfl, rfl⟩
    funext j
    by_cases z : j = p
    · rw [z, sgu_s]
    · rw [sgu_n z]
/-- one part of a sitter's coming: the loss -/
theorem mcm2 {m : Nat → Int32} {hl : Bool} {T : Nat → Int32} {n : Nat} {g : sg_F} {s y : Int32} {p : Nat} (h : mCx m hl T n g) (hm : mOk m) (hs : 0 ≤ s.toInt ∧ s.toInt ≤ 7) (ey : y.toInt = p) (hp : p < 3) (hv : 0 ≤ (g 12 p).toInt ∧ (g 12 p).toInt ≤ 60) (k : Nat) (L : sg_L) : ∃ g1 : sg_F, sX12_comes_l48 s (k + 1) y g L = sX12_comes_l48 s k (y + 1) g1 L ∧ mH g g1 ∧ g1 12 = g 12 ∧ g1 0 29 = g 0 29 ∧ g1 0 31 = g 0 31 ∧ g1 0 30 = g 0 30 + lsv m hl T n s y (g 12 p) ∧ g1 13 = g 13 := by
  have ep := msl1 ey hp
  have e9 : sX12_comes_l48 s (k + 1) y g L = sX12_comes_h48 s (sX12_comes_l48 s k) y g L := rfl
  rw [e9]
  unfold sX12_comes_h48; (repeat first | rw [spl_d] | rw [spl2_d])
  obtain ⟨l1, l2⟩ := mloss (p := y) (v := g 12 p) h hm hs ⟨by omega, by omega⟩ hv L
  rw [if_pos (show y.toInt < 3 from by omega), ep]
  obtain ⟨o, eo⟩ : ∃ z : Int32 × sg_F, z = sX12_lossOf s y (g 12 p) g L := ⟨_, rfl⟩
  rw [← eo] at l1 l2 ⊢
  rw [l1]
  refine ⟨_, rfl, l2.H.tr (mH.put (Or.inr (Or.inl rfl))), ?_, ?_, ?_, ?_, ?_⟩
  · rw [sg_up_n (by decide)]; exact funext fun j => l2 12 j (by decide) (Or.inl (by decide))
  · rw [sg_up_s, sgu_n (by decide)]; exact l2 0 29 (by decide) (Or.inr (by decide))
  · rw [sg_up_s, sgu_n (by decide)]; exact l2 0 31 (by decide) (Or.inr (by decide))
  · rw [sg_up_s, sgu_s]
  · rw [sg_up_n (by decide)]; exact funext fun j => l2 13 j (by decide) (Or.inl (by decide))
/-- one part of a sitter's leaving on purpose -/
theorem mcm3 {m : Nat → Int32} {hl : Bool} {T : Nat → Int32} {n : Nat} {g : sg_F} {s y : Int32} {p : Nat} (h : mCx m hl T n g) (he : s.toInt = (g 0 24).toInt) (ey : y.toInt = p) (hp : p < 3) (hv : 0 ≤ (g 12 p).toInt ∧ (g 12 p).toInt ≤ 60) (hw : 0 ≤ (g 0 25).toInt ∧ (g 0 25).toInt ≤ 60) (k : Nat) (L : sg_L) : ∃ g1 : sg_F, sX12_comes_l82 s (k + 1) y g L = sX12_comes_l82 s k (y + 1) g1 L ∧ mH g g1 ∧ g1 12 = sgu (g 12) p (g 0 25) ∧ g1 0 29 = g 0 29 + ab (g 0 25 - g 12 p) ∧ g1 0 31 = g 0 31 + ab (g 0 25 - g 12 p) * mpr m g p ∧ g1 0 30 = g 0 30 ∧ g1 13 = g 13 := by
  have e9 : sX12_comes_l82 s (k + 1) y g L = sX12_comes_h82 s (sX12_comes_l82 s k) y g L := rfl
  rw [e9]
  unfold sX12_comes_h82; (repeat first | rw [spl_d] | rw [spl2_d])
  rw [if_pos (show y.toInt < 3 from by omega), if_pos he]
  have a1 := ab_le hw hv
  obtain ⟨t1, t2, t3, t4, t5, t6⟩ := mturn (s := -1) (v1 := g 0 25) h ey hp (by omega) L
  rw [if_pos (show (-1 : Int32).toInt < 0 from by decide)] at t3
  exact ⟨_, rfl, t6, t1, t2, t3, t4, t5⟩
/-- how a sitter's coming changes the reference; W: it leaves on purpose -/
def mCm (m : Nat → Int32) (hl : Bool) (T : Nat → Int32) (n : Nat) (s : Int32) (g g1 : sg_F) : Prop := mH g g1 ∧ (∀ p : Nat, p < 3 → g1 12 p = tvn (mnr m g s) (m (8 * s.toNatClampNeg + p)) (g 12 p)) ∧ g1 0 29 = g 0 29 + ab (tvn (mnr m g s) (m (8 * s.toNatClampNeg + 0)) (g 12 0) - g 12 0) + ab (tvn (mnr m g s) (m (8 * s.toNatClampNeg + 1)) (g 12 1) - g 12 1) + ab (tvn (mnr m g s) (m (8 * s.toNatClampNeg + 2)) (g 12 2) - g 12 2) ∧ g1 0 31 = g 0 31 + mcs (bt (g 0 22) s) (m 70) (ab (tvn (mnr m g s) (m (8 * s.toNatClampNeg + 0)) (g 12 0) - g 12 0) * mpr m g 0) + mcs (bt (g 0 22) s) (m 70) (ab (tvn (mnr m g s) (m (8 * s.toNatClampNeg + 1)) (g 12 1) - g 12 1) * mpr m g 1) + mcs (bt (g 0 22) s) (m 70) (ab (tvn (mnr m g s) (m (8 * s.toNatClampNeg + 2)) (g 12 2) - g 12 2) * mpr m g 2) ∧ g1 0 30 = g 0 30 + lsv m hl T n s 0 (tvn (mnr m g s) (m (8 * s.toNatClampNeg + 0)) (g 12 0)) + lsv m hl T n s 1 (tvn (mnr m g s) (m (8 * s.toNatClampNeg + 1)) (g 12 1)) + lsv m hl T n s 2 (tvn (mnr m g s) (m (8 * s.toNatClampNeg + 2)) (g 12 2)) ∧ g1 13 = g 13
/-- turns and losses; the leaving is still to come -/
theorem mcm {m : Nat → Int32} {hl : Bool} {T : Nat → Int32} {n : Nat} {g : sg_F} {s : Int32} (h : mCx m hl T n g) (hm : mOk m) (hq : pOk m) (hs : 0 ≤ s.toInt ∧ s.toInt ≤ 7) (hv : ∀ p : Nat, p < 3 → 0 ≤ (g 12 p).toInt ∧ (g 12 p).toInt ≤ 60) (L : sg_L) : ∃ g1 : sg_F, sX12_comes s g L = sX12_comes_l82 s 4 0 g1 L ∧ mCm m hl T n s g g1 := by
  have cs := bn_clI hs.1
  have a1 : (0 : Int32) + 1 = 1 := by decide
  have a2 : (1 : Int32) + 1 = 2 := by decide
  have a3 : (2 : Int32) + 1 = 3 := by decide
  have bw := (hm s.toNatClampNeg (by omega)).1
  have e0 : sX12_comes s g L = sX12_comes_l2 s 4 0 g L := rfl
  obtain ⟨g1, u1, u2, u3, u4, u5, u6, u7⟩ := mcm1 (s := s) (y := 0) (p := 0) h hm hq hs (by decide) (by decide) (hv 0 (by decide)) 3 L
  have v1 : g1 12 1 = g 12 1 := by rw [u3, sgu_n (by decide)]
  have v2 : g1 12 2 = g 12 2 := by rw [u3, sgu_n (by decide)]
  have n1 : mnr m g1 s = mnr m g s := by unfold mnr; rw [u2 0 20 (by decide) (by decide) (by decide) (Or.inr (by decide)), u2 0 21 (by decide) (by decide) (by decide) (Or.inr (by decide))]
  have m1 : g1 0 22 = g 0 22 := u2 0 22 (by decide) (by decide) (by decide) (Or.inr (by decide))
  obtain ⟨g2, w1, w2, w3, w4, w5, w6, w7⟩ := mcm1 (s := s) (y := 1) (p := 1) (h.H u2) hm hq hs (by decide) (by decide) (by rw [v1]; exact hv 1 (by decide)) 2 L
  rw [n1, v1] at w3 w4 w5
  rw [m1, mpr_H u2] at w5
  have v3 : g2 12 2 = g 12 2 := by rw [w3, sgu_n (by decide), v2]
  have n2 : mnr m g2 s = mnr m g s := by unfold mnr; rw [w2 0 20 (by decide) (by decide) (by decide) (Or.inr (by decide)), w2 0 21 (by decide) (by decide) (by decide) (Or.inr (by decide))]; exact n1
  have m2 : g2 0 22 = g 0 22 := (w2 0 22 (by decide) (by decide) (by decide) (Or.inr (by decide))).trans m1
  obtain ⟨g3, x1, x2, x3, x4, x5, x6, x7⟩ := mcm1 (s := s) (y := 2) (p := 2) (h.H (u2.tr w2)) hm hq hs (by decide) (by decide) (by rw [v3]; exact hv 2 (by decide)) 1 L
  rw [n2, v3] at x3 x4 x5
  rw [m2, mpr_H (u2.tr w2)] at x5
  have H3 := (u2.tr w2).tr x2
  have e4 : sX12_comes_l2 s 1 3 g3 L = sX12_comes_l48 s 4 0 g3 L := by
    show sX12_comes_h2 s (sX12_comes_l2 s 0) 3 g3 L = _
    unfold sX12_comes_h2
    rw [if_neg (by decide)]
  have t0 : g3 12 0 = tvn (mnr m g s) (m (8 * s.toNatClampNeg + 0)) (g 12 0) := by rw [x3, sgu_n (by decide), w3, sgu_n (by decide), u3, sgu_s]
  have t1 : g3 12 1 = tvn (mnr m g s) (m (8 * s.toNatClampNeg + 1)) (g 12 1) := by rw [x3, sgu_n (by decide), w3, sgu_s]
  have t2 : g3 12 2 = tvn (mnr m g s) (m (8 * s.toNatClampNeg + 2)) (g 12 2) := by rw [x3, sgu_s]
  have b0 : 0 ≤ (g3 12 0).toInt ∧ (g3 12 0).toInt ≤ 60 := by rw [t0]; exact tvn_b (bw 0 (by decide)) (hv 0 (by decide))
  have b1 : 0 ≤ (g3 12 1).toInt ∧ (g3 12 1).toInt ≤ 60 := by rw [t1]; exact tvn_b (bw 1 (by decide)) (hv 1 (by decide))
  have b2 : 0 ≤ (g3 12 2).toInt ∧ (g3 12 2).toInt ≤ 60 := by rw [t2]; exact tvn_b (bw 2 (by decide)) (hv 2 (by decide))
  obtain ⟨g4, y1, y2, y3, y4, y5, y6, y7⟩ := mcm2 (s := s) (y := 0) (p := 0) (h.H H3) hm hs (by decide) (by decide) b0 3 L
  obtain ⟨g5, z1, z2, z3, z4, z5, z6, z7⟩ := mcm2 (s := s) (y := 1) (p := 1) (h.H (H3.tr y2)) hm hs (by decide) (by decide) (by rw [y3]; exact b1) 2 L
  obtain ⟨g6, q1, q2, q3, q4, q5, q6, q7⟩ := mcm2 (s := s) (y := 2) (p := 2) (h.H ((H3.tr y2).tr z2)) hm hs (by decide) (by decide) (by rw [z3, y3]; exact b2) 1 L
  have e5 : sX12_comes_l48 s 1 3 g6 L = sX12_comes_l82 s 4 0 g6 L := by
    show sX12_comes_h48 s (sX12_comes_l48 s 0) 3 g6 L = _
    unfold sX12_comes_h48
    rw [if_neg (by decide)]
  refine ⟨g6, by rw [e0, u1, a1, w1, a2, x1, a3, e4, y1, a1, z1, a2, q1, a3, e5], ((H3.tr y2).tr z2).tr q2, fun p hp => ?_, ?_, ?_, ?_, ?_⟩
  · rw [q3, z3, y3]
    rcases (show p = 0 ∨ p = 1 ∨ p = 2 from by omega) with rfl | rfl | rfl
    · exact t0
    · exact t1
    · exact t2
  · rw [q4, z4, y4, x4, w4, u4]
  · rw [q5, z5, y5, x5, w5, u5]
  · rw [q6, z6, y6, z3, y3, t0, t1, t2, x6, w6, u6]
  · rw [q7, z7, y7, x7, w7, u7]
/-- who doesn't leave on purpose -/
theorem mcm_n {s : Int32} {g : sg_F} (he : s.toInt ≠ (g 0 24).toInt) (L : sg_L) : sX12_comes_l82 s 4 0 g L = g := by
  show sX12_comes_h82 s (sX12_comes_l82 s 3) 0 g L = g
  unfold sX12_comes_h82; (repeat first | rw [spl_d] | rw [spl2_d])
  rw [if_pos (by decide), if_neg he]
/-- who leaves on purpose -/
theorem mcm_w {m : Nat → Int32} {hl : Bool} {T : Nat → Int32} {n : Nat} {g : sg_F} {s : Int32} (h : mCx m hl T n g) (he : s.toInt = (g 0 24).toInt) (hv : ∀ p : Nat, p < 3 → 0 ≤ (g 12 p).toInt ∧ (g 12 p).toInt ≤ 60) (hw : 0 ≤ (g 0 25).toInt ∧ (g 0 25).toInt ≤ 60) (L : sg_L) : mH g (sX12_comes_l82 s 4 0 g L) ∧ (∀ p : Nat, p < 3 → (sX12_comes_l82 s 4 0 g L) 12 p = g 0 25) ∧ (sX12_comes_l82 s 4 0 g L) 0 29 = g 0 29 + ab (g 0 25 - g 12 0) + ab (g 0 25 - g 12 1) + ab (g 0 25 - g 12 2) ∧ (sX12_comes_l82 s 4 0 g L) 0 31 = g 0 31 + ab (g 0 25 - g 12 0) * mpr m g 0 + ab (g 0 25 - g 12 1) * mpr m g 1 + ab (g 0 25 - g 12 2) * mpr m g 2 ∧ (sX12_comes_l82 s 4 0 g L) 0 30 = g 0 30 ∧ (sX12_comes_l82 s 4 0 g L) 13 = g 13 := by
  have a1 : (0 : Int32) + 1 = 1 := by decide
  have a2 : (1 : Int32) + 1 = 2 := by decide
  have a3 : (2 : Int32) + 1 = 3 := by decide
  obtain ⟨g1, u1, u2, u3, u4, u5, u6, u7⟩ := mcm3 (s := s) (y := 0) (p := 0) h he (by decide) (by decide) (hv 0 (by decide)) hw 3 L
  have f24 : g1 0 24 = g 0 24 := u2 0 24 (by decide) (by decide) (by decide) (Or.inr (by decide))
  have f25 : g1 0 25 = g 0 25 := u2 0 25 (by decide) (by decide) (by decide) (Or.inr (by decide))
  have v1 : g1 12 1 = g 12 1 := by rw [u3, sgu_n (by decide)]
  obtain ⟨g2, w1, w2, w3, w4, w5, w6, w7⟩ := mcm3 (s := s) (y := 1) (p := 1) (h.H u2) (by rw [f24]; exact he) (by decide) (by decide) (by rw [v1]; exact hv 1 (by decide)) (by rw [f25]; exact hw) 2 L
  rw [f25, v1] at w4 w5
  rw [f25] at w3
  rw [mpr_H u2] at w5
  have h24 : g2 0 24 = g 0 24 := (w2 0 24 (by decide) (by decide) (by decide) (Or.inr (by decide))).trans f24
  have h25 : g2 0 25 = g 0 25 := (w2 0 25 (by decide) (by decide) (by decide) (Or.inr (by decide))).trans f25
  have v2 : g2 12 2 = g 12 2 := by rw [w3, sgu_n (by decide), u3, sgu_n (by decide)]
  obtain ⟨g3, x1, x2, x3, x4, x5, x6, x7⟩ := mcm3 (s := s) (y := 2) (p := 2) (h.H (u2.tr w2)) (by rw [h24]; exact he) (by decide) (by decide) (by rw [v2]; exact hv 2 (by decide)) (by rw [h25]; exact hw) 1 L
  rw [h25, v2] at x4 x5
  rw [h25] at x3
  rw [mpr_H (u2.tr w2)] at x5
  have e4 : sX12_comes_l82 s 1 3 g3 L = g3 := by
    show sX12_comes_h82 s (sX12_comes_l82 s 0) 3 g3 L = g3
    unfold sX12_comes_h82
    rw [if_neg (by decide)]
  rw [u1, a1, w1, a2, x1, a3, e4]
  refine ⟨(u2.tr w2).tr x2, fun p hp => ?_, ?_, ?_, ?_, ?_⟩
  · rcases (show p = 0 ∨ p = 1 ∨ p = 2 from by omega) with rfl | rfl | rfl
    · rw [x3, sgu_n (by decide), w3, sgu_n (by decide), u3, sgu_s]
    · rw [x3, sgu_n (by decide), w3, sgu_s]
    · rw [x3, sgu_s]
  · rw [x4, w4, u4]
  · rw [x5, w5, u5]
  · rw [x6, w6, u6]
  · rw [x7, w7, u7]
/-! the class leaves, slips, passes -/
theorem xle1 {m : Nat → Int32} {y : Int32} {p : Nat} {f : sg_F} (h2 : f 2 = m) (ey : y.toInt = p) (hp : p < 3) (k : Nat) (L : sg_L) : ∃ f1 : sg_F, sX4_leaves_l2 (k + 1) y f L = sX4_leaves_l2 k (y + 1) f1 L ∧ (∀ q : Nat, q ≠ 13 → q ≠ 14 → q ≠ 15 → f1 q = f q) ∧ (∀ j : Nat, j ≠ 6 → f1 13 j = f 13 j) ∧ f1 14 = sgu (f 14) p (f 13 10) ∧ f1 15 = sgu (f 15) p (f 15 p + ab (f 13 10 - f 14 p)) ∧ f1 13 6 = f 13 6 + ab (f 13 10 - f 14 p) * m (67 + p) := by
  have e9 : sX4_leaves_l2 (k + 1) y f L = sX4_leaves_h2 (sX4_leaves_l2 k) y f L := rfl
  rw [e9]
  unfold sX4_leaves_h2; (repeat first | rw [spl_d] | rw [spl2_d])
  rw [if_pos (show y.toInt < 3 from by omega)]
  obtain ⟨g, g0, g1, g2, g3, g4, g5⟩ := xturn ey hp (f 13 10) f L
  rw [g0]
  rw [h2] at g3
  exact ⟨g, rfl, g5, g4, g1, g2, g3⟩
theorem xle {m : Nat → Int32} {f : sg_F} (h2 : f 2 = m) (L : sg_L) : (∀ q : Nat, q ≠ 13 → q ≠ 14 → q ≠ 15 → sX4_leaves f L q = f q) ∧ (∀ j : Nat, j ≠ 6 → sX4_leaves f L 13 j = f 13 j) ∧ (∀ p : Nat, p < 3 → sX4_leaves f L 14 p = f 13 10 ∧ sX4_leaves f L 15 p = f 15 p + ab (f 13 10 - f 14 p)) ∧ sX4_leaves f L 13 6 = f 13 6 + ab (f 13 10 - f 14 0) * m (67 + 0) + ab (f 13 10 - f 14 1) * m (67 + 1) + ab (f 13 10 - f 14 2) * m (67 + 2) := by
  have a1 : (0 : Int32) + 1 = 1 := by decide
  have a2 : (1 : Int32) + 1 = 2 := by decide
  have a3 : (2 : Int32) + 1 = 3 := by decide
  obtain ⟨f1, u1, u2, u3, u4, u5, u6⟩ := xle1 (y := 0) (p := 0) h2 (by decide) (by decide) 3 L
  have i1 : f1 13 10 = f 13 10 := u3 10 (by decide)
  have v1 : f1 14 1 = f 14 1 := by rw [u4, sgu_n (by decide)]
  obtain ⟨f2, w1, w2, w3, w4, w5, w6⟩ := xle1 (m := m) (y := 1) (p := 1) (f := f1) (by rw [u2 2 (by decide) (by decide) (by decide)]; exact h2) (by decide) (by decide) 2 L
  rw [i1, v1] at w5 w6
  rw [i1] at w4
  have i2 : f2 13 10 = f 13 10 := (w3 10 (by decide)).trans i1
  have v2 : f2 14 2 = f 14 2 := by rw [w4, sgu_n (by decide), u4, sgu_n (by decide)]
  obtain ⟨f3, x1, x2, x3, x4, x5, x6⟩ := xle1 (m := m) (y := 2) (p := 2) (f := f2) (by rw [w2 2 (by decide) (by decide) (by decide), u2 2 (by decide) (by decide) (by decide)]; exact h2) (by decide) (by decide) 1 L
  rw [i2, v2] at x5 x6
  rw [i2] at x4
  have e4 : sX4_leaves_l2 1 3 f3 L = f3 := by
    show sX4_leaves_h2 (sX4_leaves_l2 0) 3 f3 L = f3
    unfold sX4_leaves_h2
    rw [if_neg (by decide)]
  have e0 : sX4_leaves f L = sX4_leaves_l2 4 0 f L := rfl
  rw [e0, u1, a1, w1, a2, x1, a3, e4]
  refine ⟨fun q b1 b2 b3 => ?_, fun j b => ?_, fun p hp => ?_, ?_⟩
  · rw [x2 q b1 b2 b3, w2 q b1 b2 b3, u2 q b1 b2 b3]
  · rw [x3 j b, w3 j b, u3 j b]
  · rcases (show p = 0 ∨ p = 1 ∨ p = 2 from by omega) with rfl | rfl | rfl
    · refine ⟨?_, ?_⟩
      · rw [x4, sgu_n (by decide), w4, sgu_n (by decide), u4, sgu_s]
      · rw [x5, sgu_n (by decide), w5, sgu_n (by decide), u5, sgu_s]
    · refine ⟨?_, ?_⟩
      · rw [x4, sgu_n (by decide), w4, sgu_s]
      · rw [x5, sgu_n (by decide), w5, sgu_s, u5, sgu_n (by decide)]
    · refine ⟨?_, ?_⟩
      · rw [x4, sgu_s]
      · rw [x5, sgu_s, w5, sgu_n (by decide), u5, sgu_n (by decide)]
  · rw [x6, w6, u6]
theorem xsl1 {m : Nat → Int32} {y : Int32} {p : Nat} {f : sg_F} (h2 : f 2 = m) (ey : y.toInt = p) (hp : p < 3) (k : Nat) (L : sg_L) : sX4_slip_l2 (k + 1) y f L = sX4_slip_l2 k (y + 1) (sg_up f 14 (sgu (f 14) p (slp (m (64 + p)) (f 14 p)))) L := by
  have ep := msl1 ey hp
  show sX4_slip_h2 (sX4_slip_l2 k) y f L = _
  unfold sX4_slip_h2; (repeat first | rw [spl_d] | rw [spl2_d])
  rw [if_pos (show y.toInt < 3 from by omega), slpX ey hp, ep, h2]
theorem xsl {m : Nat → Int32} {f : sg_F} (h2 : f 2 = m) (L : sg_L) : (∀ q : Nat, q ≠ 14 → sX4_slip f L q = f q) ∧ ∀ p : Nat, p < 3 → sX4_slip f L 14 p = slp (m (64 + p)) (f 14 p) := by
  have a1 : (0 : Int32) + 1 = 1 := by decide
  have a2 : (1 : Int32) + 1 = 2 := by decide
  have a3 : (2 : Int32) + 1 = 3 := by decide
  have e4 : ∀ g : sg_F, sX4_slip_l2 1 3 g L = g := fun g => by
    show sX4_slip_h2 (sX4_slip_l2 0) 3 g L = g
    unfold sX4_slip_h2
    rw [if_neg (by decide)]
  have e0 : sX4_slip f L = sX4_slip_l2 4 0 f L := rfl
  rw [e0, xsl1 (y := 0) (p := 0) h2 (by decide) (by decide), a1, xsl1 (m := m) (y := 1) (p := 1) (by rw [sg_up_n (by decide)]; exact h2) (by decide) (by decide), a2, xsl1 (m := m) (y := 2) (p := 2) (by rw [sg_up_n (by decide), sg_up_n (by decide)]; exact h2) (by decide) (by decide), a3, e4]
  refine ⟨fun q hq => by rw [sg_up_n hq, sg_up_n hq, sg_up_n hq], fun p hp => ?_⟩
  rcases (show p = 0 ∨ p = 1 ∨ p = 2 from by omega) with rfl | rfl | rfl <;> rfl
