/-! A WEEK, both sides: a shift -/
/-- what a mask spares -/
noncomputable def spN (k : Int32) (h : Nat → Int32) : Nat → Int32
  | 0 => 0
  | n + 1 => spN k h n + (if bt k (Int32.ofNat n) = true then h n else 0)
theorem spN_ge {k : Int32} {h : Nat → Int32} {s : Nat} {x : Int32} : ∀ n : Nat, n ≤ s → spN k (sgu h s x) n = spN k h n := by
  intro n
  induction n with
  | zero => intro _; rfl
  | succ n ih =>
    intro hn
    show spN k (sgu h s x) n + (if bt k (Int32.ofNat n) = true then sgu h s x n else 0) = spN k h n + (if bt k (Int32.ofNat n) = true then h n else 0)
    rw [ih (by omega), sgu_n (show n ≠ s by omega)]
theorem spN_up {k : Int32} {h : Nat → Int32} {s : Nat} {d : Int32} : ∀ n : Nat, s < n → spN k (sgu h s (h s + d)) n = spN k h n + (if bt k (Int32.ofNat s) = true then d else 0) := by
  intro n
  induction n with
  | zero => intro hn; exact absurd hn (by omega)
  | succ n ih =>
    intro hn
    show spN k (sgu h s (h s + d)) n + (if bt k (Int32.ofNat n) = true then sgu h s (h s + d) n else 0) = spN k h n + (if bt k (Int32.ofNat n) = true then h n else 0) + (if bt k (Int32.ofNat s) = true then d else 0)
    by_cases c : n = s
    · subst c
      rw [spN_ge n (Nat.le_refl n), sgu_s]
      by_cases b : bt k (Int32.ofNat n) = true
      · rw [if_pos b, if_pos b, if_pos b, Int32.add_assoc]
      · rw [if_neg b, if_neg b, if_neg b, Int32.add_zero, Int32.add_zero]
    · rw [ih (by omega), sgu_n c, Int32.add_assoc, Int32.add_assoc, Int32.add_comm (if bt k (Int32.ofNat s) = true then d else 0)]
theorem spN_0 {k : Int32} {h : Nat → Int32} (z : ∀ j : Nat, j < 8 → h j = 0) : ∀ n : Nat, n ≤ 8 → spN k h n = 0 := by
  intro n
  induction n with
  | zero => intro _; rfl
  | succ n ih =>
    intro hn
    show spN k h n + (if bt k (Int32.ofNat n) = true then h n else 0) = 0
    rw [ih (by omega), z n (by omega)]
    by_cases b : bt k (Int32.ofNat n) = true
    · rw [if_pos b]; rfl
    · rw [if_neg b]; rfl
theorem ofNat8 {s : Int32} (h : 0 ≤ s.toInt ∧ s.toInt ≤ 7) : Int32.ofNat s.toNatClampNeg = s := by
  have c := bn_clI h.1
  rcases (show s.toNatClampNeg = 0 ∨ s.toNatClampNeg = 1 ∨ s.toNatClampNeg = 2 ∨ s.toNatClampNeg = 3 ∨ s.toNatClampNeg = 4 ∨ s.toNatClampNeg = 5 ∨ s.toNatClampNeg = 6 ∨ s.toNatClampNeg = 7 from by omega) with e | e | e | e | e | e | e | e
  · rw [e]; exact Int32.toInt_inj.mp (by rw [show (Int32.ofNat 0).toInt = 0 from by decide]; omega)
  · rw [e]; exact Int32.toInt_inj.mp (by rw [show (Int32.ofNat 1).toInt = 1 from by decide]; omega)
  · rw [e]; exact Int32.toInt_inj.mp (by rw [show (Int32.ofNat 2).toInt = 2 from by decide]; omega)
  · rw [e]; exact Int32.toInt_inj.mp (by rw [show (Int32.ofNat 3).toInt = 3 from by decide]; omega)
  · rw [e]; exact Int32.toInt_inj.mp (by rw [show (Int32.ofNat 4).toInt = 4 from by decide]; omega)
  · rw [e]; exact Int32.toInt_inj.mp (by rw [show (Int32.ofNat 5).toInt = 5 from by decide]; omega)
  · rw [e]; exact Int32.toInt_inj.mp (by rw [show (Int32.ofNat 6).toInt = 6 from by decide]; omega)
  · rw [e]; exact Int32.toInt_inj.mp (by rw [show (Int32.ofNat 7).toInt = 7 from by decide]; omega)
theorem mcs_mxc {b : Bool} {a pr fe q : Int32} (ha : 0 ≤ a.toInt ∧ a.toInt ≤ 60) (hp : 0 ≤ pr.toInt ∧ pr.toInt ≤ 99) (hf : 0 ≤ fe.toInt ∧ fe.toInt ≤ 99) (hb : b = true → q = pr) : mcs b fe (a * q) + (if b = true then mxc (a * pr) fe else 0) = a * q := by
  have k0 : (0 : Int32).toInt = 0 := by decide
  by_cases c : b = true
  case neg =>
    rw [if_neg c, Int32.add_zero]
    unfold mcs
    rw [if_neg (fun z => c z.1)]
  rw [if_pos c, hb c]
  obtain ⟨m1, m2, m3⟩ := mul_le (x := 60) (y := 99) ha hp (by decide)
  obtain ⟨w, ew⟩ : ∃ z : Int32, z = a * pr := ⟨_, rfl⟩
  rw [← ew] at m2 m3 ⊢
  have e : (w - fe).toInt = w.toInt - fe.toInt := bn_subI (by omega) (by omega)
  unfold mcs mxc
  by_cases d : fe.toInt < w.toInt
  · have e2 : (fe + (w - fe)).toInt = fe.toInt + (w - fe).toInt := bn_addI (by omega) (by omega)
    rw [if_pos ⟨c, d⟩, if_pos (show (0 : Int32) < w - fe from Int32.lt_iff_toInt_lt.mpr (by omega))]
    exact Int32.toInt_inj.mp (by omega)
  · rw [if_neg (fun z => d z.2), if_neg (fun z => by have := bn_lt z; omega), Int32.add_zero]
/-! sums -/
theorem as4 (a x y z : Int32) : a + x + y + z = a + (x + y + z) := by ac_rfl
theorem rg3 {x b F0 F1 F2 a0 a1 a2 : Int32} (h : x + b = F0 + F1 + F2) : x + a0 + a1 + a2 + b = (F0 + a0) + (F1 + a1) + (F2 + a2) := by
  have e : x + a0 + a1 + a2 + b = (x + b) + (a0 + a1 + a2) := by ac_rfl
  rw [e, h]; ac_rfl
theorem rg4 {x b F l0 l1 l2 : Int32} (h : x + b = F) : x + l0 + l1 + l2 + b = F + l0 + l1 + l2 := by
  rw [← h]; ac_rfl
theorem rg5 {x b SP M0 M1 M2 Y0 Y1 Y2 F0 F1 F2 a0 a1 a2 q0 q1 q2 : Int32} (h : x + b + SP = F0 * q0 + F1 * q1 + F2 * q2) (K0 : M0 + Y0 = a0 * q0) (K1 : M1 + Y1 = a1 * q1) (K2 : M2 + Y2 = a2 * q2) : x + M0 + M1 + M2 + b + (SP + (Y0 + Y1 + Y2)) = (F0 + a0) * q0 + (F1 + a1) * q1 + (F2 + a2) * q2 := by
  rw [Int32.add_mul, Int32.add_mul, Int32.add_mul, ← K0, ← K1, ← K2]
  have e : x + M0 + M1 + M2 + b + (SP + (Y0 + Y1 + Y2)) = (x + b + SP) + ((M0 + Y0) + (M1 + Y1) + (M2 + Y2)) := by ac_rfl
  rw [e, h]; ac_rfl
theorem rg5l {x b SP F0 F1 F2 a0 a1 a2 q0 q1 q2 : Int32} (h : x + b + SP = F0 * q0 + F1 * q1 + F2 * q2) : x + a0 * q0 + a1 * q1 + a2 * q2 + b + SP = (F0 + a0) * q0 + (F1 + a1) * q1 + (F2 + a2) * q2 := by
  rw [Int32.add_mul, Int32.add_mul, Int32.add_mul]
  have e : x + a0 * q0 + a1 * q1 + a2 * q2 + b + SP = (x + b + SP) + (a0 * q0 + a1 * q1 + a2 * q2) := by ac_rfl
  rw [e, h]; ac_rfl
theorem rg6 {x y F0 F1 F2 a0 a1 a2 l0 l1 l2 q0 q1 q2 : Int32} (h : x = y + (F0 * q0 + F1 * q1 + F2 * q2)) : x + a0 * q0 + l0 + a1 * q1 + l1 + a2 * q2 + l2 = y + l0 + l1 + l2 + ((F0 + a0) * q0 + (F1 + a1) * q1 + (F2 + a2) * q2) := by
  rw [Int32.add_mul, Int32.add_mul, Int32.add_mul, h]; ac_rfl
theorem rg6l {x y F0 F1 F2 a0 a1 a2 q0 q1 q2 : Int32} (h : x = y + (F0 * q0 + F1 * q1 + F2 * q2)) : x + a0 * q0 + a1 * q1 + a2 * q2 = y + ((F0 + a0) * q0 + (F1 + a1) * q1 + (F2 + a2) * q2) := by
  rw [Int32.add_mul, Int32.add_mul, Int32.add_mul, h]; ac_rfl
/-- what the two have in common within a week -/
noncomputable def wR (m : Nat → Int32) (b1 b2 b3 : Int32) (f g : sg_F) : Prop := (∀ p : Nat, p < 3 → f 14 p = g 12 p) ∧ (∀ p : Nat, p < 3 → 0 ≤ (f 14 p).toInt ∧ (f 14 p).toInt ≤ 60) ∧ g 0 29 + b1 = f 15 0 + f 15 1 + f 15 2 ∧ g 0 30 + b2 = f 13 5 ∧ g 0 31 + b3 + spN (g 0 22) (f 16) 8 = f 15 0 * mpr m g 0 + f 15 1 * mpr m g 1 + f 15 2 * mpr m g 2 ∧ f 13 6 = f 13 5 + (f 15 0 * m (67 + 0) + f 15 1 * m (67 + 1) + f 15 2 * m (67 + 2))
/-- what is asked of the habits and what is changed for the sake of a question -/
def hF (f g : sg_F) : Prop := f 13 7 = g 0 20 ∧ (0 ≤ (f 13 7).toInt → f 13 8 = g 0 21) ∧ f 13 9 = g 0 24 ∧ (0 ≤ (f 13 9).toInt → f 13 10 = g 0 25 ∧ 0 ≤ (g 0 25).toInt ∧ (g 0 25).toInt ≤ 60) ∧ ∀ s : Int32, bt (g 0 22) s = true → (g 0 23).toInt = 0
/-- what a shift leaves alone in the class -/
def xP (f f1 : sg_F) : Prop := (∀ q : Nat, q ≠ 8 → q ≠ 9 → q ≠ 13 → q ≠ 14 → q ≠ 15 → q ≠ 16 → f1 q = f q) ∧ ∀ j : Nat, j ≠ 5 → j ≠ 6 → f1 13 j = f 13 j
theorem xP.rf {f : sg_F} : xP f f := ⟨fun _ _ _ _ _ _ _ => rfl, fun _ _ _ => rfl⟩
theorem xP.tr {f f1 f2 : sg_F} (h : xP f f1) (h1 : xP f1 f2) : xP f f2 := ⟨fun q a b c d e i => (h1.1 q a b c d e i).trans (h.1 q a b c d e i), fun j a b => (h1.2 j a b).trans (h.2 j a b)⟩
theorem hF.K {f f1 g g1 : sg_F} (h : hF f g) (k : xP f f1) (k1 : mH g g1) : hF f1 g1 := by
  unfold hF
  rw [k.2 7 (by decide) (by decide), k.2 8 (by decide) (by decide), k.2 9 (by decide) (by decide), k.2 10 (by decide) (by decide), k1 0 20 (by decide) (by decide) (by decide) (Or.inr (by decide)), k1 0 21 (by decide) (by decide) (by decide) (Or.inr (by decide)), k1 0 22 (by decide) (by decide) (by decide) (Or.inr (by decide)), k1 0 23 (by decide) (by decide) (by decide) (Or.inr (by decide)), k1 0 24 (by decide) (by decide) (by decide) (Or.inr (by decide)), k1 0 25 (by decide) (by decide) (by decide) (Or.inr (by decide))]
  exact h
theorem wR.comes {m : Nat → Int32} {hl : Bool} {T : Nat → Int32} {n : Nat} {b1 b2 b3 s nr : Int32} {f g f1 g1 : sg_F} (h : wR m b1 b2 b3 f g) (hm : mOk m) (hq : pOk m) (hs : 0 ≤ s.toInt ∧ s.toInt ≤ 7) (hn : nr = mnr m g s) (hk : bt (g 0 22) s = true → (g 0 23).toInt = 0) (hx : xCm m hl T n s nr f f1) (hy : mCm m hl T n s g g1) : wR m b1 b2 b3 f1 g1 := by
  subst hn
  obtain ⟨e1, e2, e3, e4, e5, e6⟩ := h
  obtain ⟨x1, x2, x3, x4, x5, x6⟩ := hx
  obtain ⟨y1, y2, y3, y4, y5, y6⟩ := hy
  have cs := bn_clI hs.1
  have bw := (hm s.toNatClampNeg (by omega)).1
  have p0 := hq 67 (by decide) (by decide)
  have p1 := hq 68 (by decide) (by decide)
  have p2 := hq 69 (by decide) (by decide)
  have pf := hq 70 (by decide) (by decide)
  have z0 := y2 0 (by decide)
  have z1 := y2 1 (by decide)
  have z2 := y2 2 (by decide)
  obtain ⟨u0, w0⟩ := x3 0 (by decide)
  obtain ⟨u1, w1⟩ := x3 1 (by decide)
  obtain ⟨u2, w2⟩ := x3 2 (by decide)
  rw [← e1 0 (by decide)] at z0 y3 y4 y5
  rw [← e1 1 (by decide)] at z1 y3 y4 y5
  rw [← e1 2 (by decide)] at z2 y3 y4 y5
  have T0 := tvn_b (nr := mnr m g s) (bw 0 (by decide)) (e2 0 (by decide))
  have T1 := tvn_b (nr := mnr m g s) (bw 1 (by decide)) (e2 1 (by decide))
  have T2 := tvn_b (nr := mnr m g s) (bw 2 (by decide)) (e2 2 (by decide))
  obtain ⟨t0, et0⟩ : ∃ z : Int32, z = tvn (mnr m g s) (m (8 * s.toNatClampNeg + 0)) (f 14 0) := ⟨_, rfl⟩
  obtain ⟨t1, et1⟩ : ∃ z : Int32, z = tvn (mnr m g s) (m (8 * s.toNatClampNeg + 1)) (f 14 1) := ⟨_, rfl⟩
  obtain ⟨t2, et2⟩ : ∃ z : Int32, z = tvn (mnr m g s) (m (8 * s.toNatClampNeg + 2)) (f 14 2) := ⟨_, rfl⟩
  rw [← et0] at T0 z0 u0 w0 y3 y4 y5 x4 x5 x6
  rw [← et1] at T1 z1 u1 w1 y3 y4 y5 x4 x5 x6
  rw [← et2] at T2 z2 u2 w2 y3 y4 y5 x4 x5 x6
  have A0 := ab_le T0 (e2 0 (by decide))
  have A1 := ab_le T1 (e2 1 (by decide))
  have A2 := ab_le T2 (e2 2 (by decide))
  obtain ⟨a0, ea0⟩ : ∃ z : Int32, z = ab (t0 - f 14 0) := ⟨_, rfl⟩
  obtain ⟨a1, ea1⟩ : ∃ z : Int32, z = ab (t1 - f 14 1) := ⟨_, rfl⟩
  obtain ⟨a2, ea2⟩ : ∃ z : Int32, z = ab (t2 - f 14 2) := ⟨_, rfl⟩
  rw [← ea0] at A0 w0 y3 y4 x4 x6
  rw [← ea1] at A1 w1 y3 y4 x4 x6
  rw [← ea2] at A2 w2 y3 y4 x4 x6
  have hqp : ∀ p : Nat, bt (g 0 22) s = true → mpr m g p = m (67 + p) := fun p hb => by
    unfold mpr
    rw [if_pos (hk hb)]
  have g22 : g1 0 22 = g 0 22 := y1 0 22 (by decide) (by decide) (by decide) (Or.inr (by decide))
  rw [as4] at x4
  refine ⟨fun p hp => ?_, fun p hp => ?_, ?_, ?_, ?_, ?_⟩
  · rcases (show p = 0 ∨ p = 1 ∨ p = 2 from by omega) with rfl | rfl | rfl
    · rw [u0, z0]
    · rw [u1, z1]
    · rw [u2, z2]
  · rcases (show p = 0 ∨ p = 1 ∨ p = 2 from by omega) with rfl | rfl | rfl
    · rw [u0]; exact T0
    · rw [u1]; exact T1
    · rw [u2]; exact T2
  · rw [y3, w0, w1, w2]; exact rg3 e3
  · rw [y5, x5]; exact rg4 e4
  · rw [y4, w0, w1, w2, g22, mpr_H y1, mpr_H y1, mpr_H y1, x4, spN_up 8 (by omega), ofNat8 hs]
    have es : (if bt (g 0 22) s = true then mxc (a0 * m (67 + 0)) (m 70) + mxc (a1 * m (67 + 1)) (m 70) + mxc (a2 * m (67 + 2)) (m 70) else 0) = (if bt (g 0 22) s = true then mxc (a0 * m (67 + 0)) (m 70) else 0) + (if bt (g 0 22) s = true then mxc (a1 * m (67 + 1)) (m 70) else 0) + (if bt (g 0 22) s = true then mxc (a2 * m (67 + 2)) (m 70) else 0) := by
      by_cases c : bt (g 0 22) s = true
      · rw [if_pos c, if_pos c, if_pos c, if_pos c]
      · rw [if_neg c, if_neg c, if_neg c, if_neg c]; rfl
    rw [es]
    exact rg5 e5 (mcs_mxc ⟨A0.2.1, A0.2.2.1⟩ p0 pf (hqp 0)) (mcs_mxc ⟨A1.2.1, A1.2.2.1⟩ p1 pf (hqp 1)) (mcs_mxc ⟨A2.2.1, A2.2.2.1⟩ p2 pf (hqp 2))
  · rw [x5, x6, w0, w1, w2]; exact rg6 e6
theorem wR.leaves {m : Nat → Int32} {b1 b2 b3 : Int32} {f g f1 g1 : sg_F} (h : wR m b1 b2 b3 f g) (e : f 13 10 = g 0 25) (hw : 0 ≤ (g 0 25).toInt ∧ (g 0 25).toInt ≤ 60) (x2 : ∀ j : Nat, j ≠ 6 → f1 13 j = f 13 j) (x16 : f1 16 = f 16) (x3 : ∀ p : Nat, p < 3 → f1 14 p = f 13 10 ∧ f1 15 p = f 15 p + ab (f 13 10 - f 14 p)) (x4 : f1 13 6 = f 13 6 + ab (f 13 10 - f 14 0) * m (67 + 0) + ab (f 13 10 - f 14 1) * m (67 + 1) + ab (f 13 10 - f 14 2) * m (67 + 2)) (y1 : mH g g1) (y2 : ∀ p : Nat, p < 3 → g1 12 p = g 0 25) (y3 : g1 0 29 = g 0 29 + ab (g 0 25 - g 12 0) + ab (g 0 25 - g 12 1) + ab (g 0 25 - g 12 2)) (y4 : g1 0 31 = g 0 31 + ab (g 0 25 - g 12 0) * mpr m g 0 + ab (g 0 25 - g 12 1) * mpr m g 1 + ab (g 0 25 - g 12 2) * mpr m g 2) (y5 : g1 0 30 = g 0 30) : wR m b1 b2 b3 f1 g1 := by
  obtain ⟨e1, e2, e3, e4, e5, e6⟩ := h
  have g22 : g1 0 22 = g 0 22 := y1 0 22 (by decide) (by decide) (by decide) (Or.inr (by decide))
  rw [← e1 0 (by decide), ← e1 1 (by decide), ← e1 2 (by decide), ← e] at y3 y4
  refine ⟨fun p hp => ?_, fun p hp => ?_, ?_, ?_, ?_, ?_⟩
  · rw [(x3 p hp).1, y2 p hp, e]
  · rw [(x3 p hp).1, e]; exact hw
  · rw [y3, (x3 0 (by decide)).2, (x3 1 (by decide)).2, (x3 2 (by decide)).2]; exact rg3 e3
  · rw [y5, x2 5 (by decide)]; exact e4
  · rw [y4, (x3 0 (by decide)).2, (x3 1 (by decide)).2, (x3 2 (by decide)).2, g22, mpr_H y1, mpr_H y1, mpr_H y1, x16]; exact rg5l e5
  · rw [x4, x2 5 (by decide), (x3 0 (by decide)).2, (x3 1 (by decide)).2, (x3 2 (by decide)).2]; exact rg6l e6
/-- who sits comes, and may leave on purpose -/
theorem hsits {m : Nat → Int32} {S : Int} {hl : Bool} {T : Nat → Int32} {n : Nat} {b1 b2 b3 s : Int32} {f g : sg_F} (hc : xCx m S hl T n f) (hS : S ≤ 8) (hm : mOk m) (hq : pOk m) (hC : mCx m hl T n g) (hr : wR m b1 b2 b3 f g) (hf : hF f g) (hs : 0 ≤ s.toInt ∧ s.toInt < S) (L LM : sg_L) : ∃ f1 : sg_F, sX4_pass s f L = sX4_slip f1 L ∧ xCx m S hl T n f1 ∧ xP f f1 ∧ wR m b1 b2 b3 f1 (sX12_comes s g LM) ∧ mH g (sX12_comes s g LM) ∧ (sX12_comes s g LM) 13 = g 13 := by
  obtain ⟨e1, e2, e3, e4, e5, e6⟩ := hr
  have hs7 : 0 ≤ s.toInt ∧ s.toInt ≤ 7 := by omega
  obtain ⟨c1, c2⟩ := xcm (s := s) hc hS hm hs e2 L
  obtain ⟨g1, d1, d2⟩ := mcm (s := s) hC hm hq hs7 (fun p hp => by rw [← e1 p hp]; exact e2 p hp) LM
  obtain ⟨f1, ef⟩ : ∃ z : sg_F, z = sX4_comes s f L := ⟨_, rfl⟩
  rw [← ef] at c1 c2
  have en : (if s.toInt = (f 13 7).toInt then f 13 8 else m (8 * s.toNatClampNeg + 6)) = mnr m g s := by
    unfold mnr
    rw [← hf.1]
    by_cases z : s.toInt = (f 13 7).toInt
    · rw [if_pos z, if_pos z, hf.2.1 (by omega)]
    · rw [if_neg z, if_neg z]
  rw [en] at c2
  have r1 : wR m b1 b2 b3 f1 g1 := wR.comes ⟨e1, e2, e3, e4, e5, e6⟩ hm hq hs7 rfl (hf.2.2.2.2 s) c2 d2
  have k1 : xP f f1 := ⟨c2.1, c2.2.1⟩
  have hf1 : hF f1 g1 := hf.K k1 d2.1
  have ep : sX4_pass s f L = sX4_slip (if s.toInt = (f1 13 9).toInt then sX4_leaves f1 L else f1) L := by
    unfold sX4_pass sX4_pass_b22; (repeat first | rw [spl_d] | rw [spl2_d])
    rw [if_neg (show ¬ s.toInt = -1 from by omega), ← ef]
    by_cases z : s.toInt = (f1 13 9).toInt
    · rw [if_pos z, if_pos z]
    · rw [if_neg z, if_neg z]
  rw [ep, d1]
  by_cases z : s.toInt = (f1 13 9).toInt
  · rw [if_pos z]
    obtain ⟨o1, o2, o3⟩ := hf1.2.2.2.1 (by omega)
    obtain ⟨x1, x2, x3, x4⟩ := xle (m := m) (f := f1) c1.1 L
    obtain ⟨y1, y2, y3, y4, y5, y6⟩ := mcm_w (s := s) (hC.H d2.1) (by rw [← hf1.2.2.1]; exact z) (fun p hp => by rw [← r1.1 p hp]; exact r1.2.1 p hp) ⟨o2, o3⟩ LM
    refine ⟨_, rfl, c1.fr (x1 1 (by decide) (by decide) (by decide)) (x1 2 (by decide) (by decide) (by decide)) (x1 4 (by decide) (by decide) (by decide)) (x1 7 (by decide) (by decide) (by decide)) (x1 9 (by decide) (by decide) (by decide)), k1.tr ⟨fun q _ _ a b c _ => x1 q a b c, fun j _ b => x2 j b⟩, wR.leaves r1 o1 ⟨o2, o3⟩ x2 (x1 16 (by decide) (by decide) (by decide)) x3 x4 y1 y2 y3 y4 y5, d2.1.tr y1, ?_⟩
    rw [y6, d2.2.2.2.2.2]
  · rw [if_neg z, mcm_n (s := s) (g := g1) (fun w => z (by rw [hf1.2.2.1]; exact w)) LM]
    exact ⟨f1, rfl, c1, k1, r1, d2.1, d2.2.2.2.2.2⟩
