/-! NUMBERS within what they may be, losses that are kept: the class alone -/
/-- most of the number at a place -/
def mpl (p : Nat) : Int := if p < 64 then mhi ((p % 8 : Nat) : Int) else if p < 67 then 3 else if p < 70 then 9 else 99
def xMo (f : sg_F) : Prop := (∀ p : Nat, p < 71 → 0 ≤ (f 2 p).toInt ∧ (f 2 p).toInt ≤ mpl p) ∧ ∀ d : Nat, (d : Int) < (f 32 4).toInt → (0 ≤ (f 34 d).toInt ∧ (f 34 d).toInt ≤ mpl (f 33 d).toNatClampNeg) ∧ 0 ≤ (f 35 d).toInt ∧ (f 35 d).toInt ≤ mpl (f 33 d).toNatClampNeg
theorem mhi_n : mhi 0 = 60 ∧ mhi 1 = 60 ∧ mhi 2 = 60 ∧ mhi 3 = 9 ∧ mhi 4 = 9 ∧ mhi 5 = 12 ∧ mhi 6 = 60 ∧ mhi 7 = 12 ∧ mhi 8 = 3 ∧ mhi 9 = 9 ∧ mhi 10 = 99 := by decide
theorem mpl_s {s w : Nat} (hs : s < 8) (hw : w < 8) : mpl (8 * s + w) = mhi (w : Int) := by
  unfold mpl
  rw [if_pos (by omega), show (8 * s + w) % 8 = w from by omega]
theorem xMo.ok {f : sg_F} (h : xMo f) : mOk (f 2) ∧ pOk (f 2) := by
  obtain ⟨m0, m1, m2, m3, m4, m5, m6, m7, -, -, -⟩ := mhi_n
  have z : ∀ s w : Nat, s < 8 → w < 8 → 0 ≤ (f 2 (8 * s + w)).toInt ∧ (f 2 (8 * s + w)).toInt ≤ mhi (w : Int) := fun s w hs hw => by
    rw [← mpl_s hs hw]
    exact h.1 _ (by omega)
  refine ⟨fun s hs => ⟨fun p hp => ?_, ?_, ?_, ?_, ?_, ?_⟩, fun p h1 h2 => ?_⟩
  · have := z s p hs (by omega)
    rcases (show p = 0 ∨ p = 1 ∨ p = 2 from by omega) with rfl | rfl | rfl
    · exact ⟨this.1, Int.le_trans this.2 (by decide)⟩
    · exact ⟨this.1, Int.le_trans this.2 (by decide)⟩
    · exact ⟨this.1, Int.le_trans this.2 (by decide)⟩
  · have := z s 3 hs (by decide)
    exact ⟨this.1, Int.le_trans this.2 (by decide)⟩
  · have := z s 4 hs (by decide)
    exact ⟨this.1, Int.le_trans this.2 (by decide)⟩
  · have := z s 5 hs (by decide)
    exact ⟨this.1, Int.le_trans this.2 (by decide)⟩
  · have := z s 6 hs (by decide)
    exact ⟨this.1, Int.le_trans this.2 (by decide)⟩
  · have := z s 7 hs (by decide)
    exact ⟨this.1, Int.le_trans this.2 (by decide)⟩
  · have := h.1 p h2
    refine ⟨this.1, Int.le_trans this.2 ?_⟩
    unfold mpl
    rw [if_neg (by omega)]
    by_cases c : p < 67
    · rw [if_pos c]; decide
    · rw [if_neg c]
      by_cases d : p < 70
      · rw [if_pos d]; decide
      · rw [if_neg d]; decide
theorem xMo.fr {f f1 : sg_F} (h : xMo f) (a : ∀ j : Nat, f1 2 j = f 2 j) (b : f1 32 4 = f 32 4) (c : ∀ j : Nat, f1 33 j = f 33 j) (d : ∀ j : Nat, f1 34 j = f 34 j) (e : ∀ j : Nat, f1 35 j = f 35 j) : xMo f1 := by
  refine ⟨fun p hp => by rw [a]; exact h.1 p hp, fun i hi => ?_⟩
  rw [b] at hi
  rw [c, d, e]
  exact h.2 i hi
/-! forgetting -/
theorem fgt_l (x : Int32) (L : sg_L) : ∀ (k : Nat) (a b : Int32) (f : sg_F), 0 ≤ b.toInt → b.toInt ≤ a.toInt → a.toInt ≤ 1464 → a.toInt - b.toInt < (k : Int) → ∀ j : Nat, sX0_forget_l14 x k a b f L 9 j = if b.toNatClampNeg ≤ j ∧ j < a.toNatClampNeg then -1 else f 9 j := by
  have k1 : (1 : Int32).toInt = 1 := by decide
  intro k
  induction k with
  | zero => intro a b f _ _ _ h; exact absurd h (by omega)
  | succ k ih =>
    intro a b f h0 h1 h2 h3 j
    have ca := bn_clI (x := a) (by omega)
    have cb := bn_clI h0
    have e9 : sX0_forget_l14 x (k + 1) a b f L = sX0_forget_h14 x (sX0_forget_l14 x k) a b f L := rfl
    rw [e9]
    unfold sX0_forget_h14; (repeat first | rw [spl_d] | rw [spl2_d])
    by_cases c : b.toInt < a.toInt
    · obtain ⟨i1, i2⟩ := cl_inc (x := b) (by omega) (by omega)
      rw [if_pos c, ih a (b + 1) _ (by omega) (by omega) h2 (by omega) j, sg_up_s, i2]
      by_cases z : j = b.toNatClampNeg
      · rw [if_neg (by omega), z, sgu_s, if_pos (by omega)]
      · rw [sgu_n z]
        by_cases y : b.toNatClampNeg ≤ j ∧ j < a.toNatClampNeg
        · rw [if_pos y, if_pos (by omega)]
        · rw [if_neg y, if_neg (by omega)]
    · rw [if_neg c, if_neg (by omega)]
theorem fgt {s : Int32} (hs : 0 ≤ s.toInt ∧ s.toInt ≤ 7) (f : sg_F) (L : sg_L) (j : Nat) : sX0_forget s f L 9 j = if 183 * s.toNatClampNeg ≤ j ∧ j < 183 * s.toNatClampNeg + 183 then -1 else f 9 j := by
  have k183 : (183 : Int32).toInt = 183 := by decide
  have k1 : (1 : Int32).toInt = 1 := by decide
  have e1 : (s + 1).toInt = s.toInt + 1 := (bn_addI (by omega) (by omega)).trans (by omega)
  have e2 : ((s + 1) * 183).toInt = (s + 1).toInt * 183 := bn_mulI k183 (by omega) (by omega)
  have e3 : (s * 183).toInt = s.toInt * 183 := bn_mulI k183 (by omega) (by omega)
  have c0 := bn_clI hs.1
  have c2 := bn_clI (x := (s + 1) * 183) (by omega)
  have c3 := bn_clI (x := s * 183) (by omega)
  unfold sX0_forget; (repeat first | rw [spl_d] | rw [spl2_d])
  rw [fgt_l s L 1465 _ _ f (by omega) (by omega) (by omega) (by omega) j]
  by_cases y : 183 * s.toNatClampNeg ≤ j ∧ j < 183 * s.toNatClampNeg + 183
  · rw [if_pos y, if_pos (by omega)]
  · rw [if_neg y, if_neg (by omega)]
theorem fgtA_l (L : sg_L) : ∀ (k : Nat) (y : Int32) (f : sg_F), 0 ≤ y.toInt → y.toInt ≤ 8 → 8 - y.toInt < (k : Int) → (∀ j : Nat, (j : Int) < 183 * y.toInt → f 9 j = -1) → ∀ j : Nat, j < 1464 → sX0_forgetAll_l2 k y f L 9 j = -1 := by
  intro k
  induction k with
  | zero => intro y f _ _ h; exact absurd h (by omega)
  | succ k ih =>
    intro y f h0 h1 h2 h3 j hj
    have cy := bn_clI h0
    have e9 : sX0_forgetAll_l2 (k + 1) y f L = sX0_forgetAll_h2 (sX0_forgetAll_l2 k) y f L := rfl
    rw [e9]
    unfold sX0_forgetAll_h2; (repeat first | rw [spl_d] | rw [spl2_d])
    by_cases c : y.toInt < 8
    · obtain ⟨i1, i2⟩ := cl_inc (x := y) (by omega) (by omega)
      rw [if_pos c]
      refine ih (y + 1) _ (by omega) (by omega) (by omega) (fun i hi => ?_) j hj
      rw [fgt ⟨h0, by omega⟩]
      by_cases z : 183 * y.toNatClampNeg ≤ i ∧ i < 183 * y.toNatClampNeg + 183
      · rw [if_pos z]
      · rw [if_neg z]; exact h3 i (by omega)
    · rw [if_neg c]; exact h3 j (by omega)
theorem fgtA (f : sg_F) (L : sg_L) (j : Nat) (hj : j < 1464) : sX0_forgetAll f L 9 j = -1 := by
  refine fgtA_l L 9 0 f (by decide) (by decide) (by decide) (fun i hi => ?_) j hj
  rw [show (0 : Int32).toInt = 0 from by decide] at hi
  exact absurd hi (by omega)
theorem lsv_cg {m m1 : Nat → Int32} {hl : Bool} {T : Nat → Int32} {n : Nat} {s p v : Int32} (hp : p.toNatClampNeg < 3) (h : ∀ w : Nat, w < 8 → m1 (8 * s.toNatClampNeg + w) = m (8 * s.toNatClampNeg + w)) : lsv m1 hl T n s p v = lsv m hl T n s p v := by
  unfold lsv lsr
  rw [h p.toNatClampNeg (by omega), h 3 (by decide), h 4 (by decide), h 5 (by decide)]
theorem xLo.all {m : Nat → Int32} {S : Int} {hl : Bool} {T : Nat → Int32} {n : Nat} {g : Nat → Int32} (hS : S ≤ 8) (h : ∀ j : Nat, j < 1464 → g j = -1) : xLo m S hl T n g := by
  intro s p v a1 a2 a3 a4 a5 a6
  have b1 := bn_clI a1
  have b2 := bn_clI a3
  have b3 := bn_clI a5
  left
  rw [h _ (by omega)]; decide
theorem xLo.forgets {m m1 : Nat → Int32} {S S1 : Int} {hl : Bool} {T : Nat → Int32} {n k : Nat} {g g1 : Nat → Int32} (h : xLo m S hl T n g) (hg : ∀ j : Nat, g1 j = if 183 * k ≤ j ∧ j < 183 * k + 183 then -1 else g j) (hS8 : S1 ≤ 8) (hm : ∀ s : Nat, s < 8 → s ≠ k → ∀ w : Nat, w < 8 → m1 (8 * s + w) = m (8 * s + w)) (hS : ∀ s : Nat, s ≠ k → (s : Int) < S1 → (s : Int) < S) : xLo m1 S1 hl T n g1 := by
  intro s p v a1 a2 a3 a4 a5 a6
  have b1 := bn_clI a1
  have b2 := bn_clI a3
  have b3 := bn_clI a5
  rw [hg]
  by_cases z : s.toNatClampNeg = k
  · left
    rw [if_pos (by omega)]; decide
  · rw [if_neg (by omega), lsv_cg (m := m) (by omega) (hm _ (by omega) z)]
    exact h s p v a1 (by have := hS s.toNatClampNeg z (by omega); omega) a3 a4 a5 a6
theorem xLo.becomes {m : Nat → Int32} {S : Int} {hl : Bool} {T : Nat → Int32} {n : Nat} {p v : Int32} {f : sg_F} (h : xLo m S hl T n (f 9)) (hp : 0 ≤ p.toInt ∧ p.toInt < 71) (hS : S ≤ 8) (L : sg_L) : xLo (sgu m p.toNatClampNeg v) S hl T n (sX0_becomes p v f L 9) := by
  have k8 : (8 : Int32).toInt = 8 := by decide
  have cp := bn_clI hp.1
  unfold sX0_becomes; (repeat first | rw [spl_d] | rw [spl2_d])
  by_cases c : p.toInt < 64
  · rw [if_pos c]
    have e : (p / 8).toInt = p.toInt / 8 := bn_divI hp.1 k8 (by decide)
    have c8 := bn_clI (x := p / 8) (by omega)
    refine h.forgets (k := (p / 8).toNatClampNeg) (fun j => ?_) hS (fun s hs hsk w hw => ?_) (fun s _ h => h)
    · rw [fgt ⟨by omega, by omega⟩, sg_up_n (by decide)]
    · rw [sgu_n (by omega)]
  · rw [if_neg c, sg_up_n (by decide)]
    intro s q u a1 a2 a3 a4 a5 a6
    have b1 := bn_clI a1
    have b2 := bn_clI a3
    rw [lsv_cg (m := m) (by omega) (fun w hw => sgu_n (by omega))]
    exact h s q u a1 a2 a3 a4 a5 a6
/-- numbers and losses of the class -/
def xH (hl : Bool) (T : Nat → Int32) (n : Nat) (f : sg_F) : Prop := xMo f ∧ xLo (f 2) (f 1 3).toInt hl T n (f 9)
theorem xH.fr {hl : Bool} {T : Nat → Int32} {n : Nat} {f f1 : sg_F} (h : xH hl T n f) (z : f1 1 3 = f 1 3) (a : ∀ j : Nat, f1 2 j = f 2 j) (b : f1 32 4 = f 32 4) (c : ∀ j : Nat, f1 33 j = f 33 j) (d : ∀ j : Nat, f1 34 j = f 34 j) (e : ∀ j : Nat, f1 35 j = f 35 j) (k : ∀ j : Nat, f1 9 j = f 9 j) : xH hl T n f1 := by
  refine ⟨h.1.fr a b c d e, ?_⟩
  rw [z, show f1 2 = f 2 from funext a, show f1 9 = f 9 from funext k]
  exact h.2
theorem xMo.put {f f1 : sg_F} {p v : Int32} (h : xMo f) (e2 : f1 2 = sgu (f 2) p.toNatClampNeg v) (hv : 0 ≤ v.toInt ∧ v.toInt ≤ mpl p.toNatClampNeg) (b : (f1 32 4).toInt ≤ (f 32 4).toInt) (c : ∀ j : Nat, f1 33 j = f 33 j) (d : ∀ j : Nat, f1 34 j = f 34 j) (e : ∀ j : Nat, f1 35 j = f 35 j) : xMo f1 := by
  refine ⟨fun i hi => ?_, fun i hi => ?_⟩
  · rw [e2]
    by_cases z : i = p.toNatClampNeg
    · rw [z, sgu_s]; exact hv
    · rw [sgu_n z]; exact h.1 i hi
  · rw [c, d, e]
    exact h.2 i (by omega)
theorem xH.mend {hl : Bool} {T : Nat → Int32} {n : Nat} {fX fX1 : sg_F} {LX : sg_L} {a w v r1 : Int32} (h : xH hl T n fX) (hI : sgI loX hiX fX) (hdk : (fX 32 3).toInt ≤ (fX 32 4).toInt) (e1 : (r1, fX1) = sX11_mend a w v fX LX) : xH hl T n fX1 := by
  have hb : 0 ≤ (fX 1 3).toInt ∧ (fX 1 3).toInt ≤ 8 := hI 1 3
  have hd : 0 ≤ (fX 32 3).toInt ∧ (fX 32 3).toInt ≤ 40 := hI 32 3
  have k1 : (1 : Int32).toInt = 1 := by decide
  have k8 : (8 : Int32).toInt = 8 := by decide
  have km1 : (-1 : Int32).toInt = -1 := by decide
  have pl := bX_placeOf a w fX LX hb
  obtain ⟨-, -, -, -, -, -, -, -, m8, m9, m10⟩ := mhi_n
  obtain ⟨p, ep⟩ : ∃ z : Int32, z = sX0_placeOf a w fX LX := ⟨_, rfl⟩
  unfold sX11_mend at e1; (repeat first | rw [spl_d] at e1 | rw [spl2_d] at e1)
  rw [← ep] at pl e1
  by_cases p1 : p.toInt < 0
  · rw [if_pos p1] at e1
    obtain ⟨a1, b1⟩ := Prod.mk.inj e1
    rw [b1]; exact h
  have cp := bn_clI (x := p) (by omega)
  have hw : (0 ≤ w.toInt ∧ w.toInt ≤ 10) ∧ p.toInt < 71 ∧ mpl p.toNatClampNeg = mhi w.toInt := by
    rcases pl with ⟨x1, x2, x3, x4, x5⟩ | ⟨x1, x2, x3⟩ | ⟨x1, x2, x3, x4⟩ | ⟨x1, x2, x3, x4⟩ | ⟨x1, x2, x3, x4⟩
    · have ca := bn_clI x3
      have cw := bn_clI x1
      refine ⟨by omega, by omega, ?_⟩
      rw [show p.toNatClampNeg = 8 * a.toNatClampNeg + w.toNatClampNeg from by omega, mpl_s (by omega) (by omega), cw]
    · refine ⟨by omega, by omega, ?_⟩
      unfold mpl
      rw [if_neg (by omega), if_neg (by omega), if_neg (by omega), x1, m10]
    · refine ⟨by omega, by omega, ?_⟩
      unfold mpl
      rw [if_neg (by omega), if_neg (by omega), if_pos (by omega), x1, m9]
    · refine ⟨by omega, by omega, ?_⟩
      unfold mpl
      rw [if_neg (by omega), if_pos (by omega), x1, m8]
    · exfalso
      rw [x4] at p1
      exact p1 (by decide)
  obtain ⟨w1, w2, w3⟩ := hw
  rw [if_neg p1, pX_fits v fX LX w1] at e1
  by_cases g : mlo w.toInt ≤ v.toInt ∧ v.toInt ≤ mhi w.toInt
  case neg =>
    rw [if_neg g, if_neg zk0] at e1
    obtain ⟨a1, b1⟩ := Prod.mk.inj e1
    rw [b1]; exact h
  rw [if_pos g, if_pos rfl] at e1
  have v0 : 0 ≤ v.toInt := by
    have : 0 ≤ mlo w.toInt := by
      unfold mlo
      by_cases z : w.toInt = 5
      · rw [if_pos z]; decide
      · rw [if_neg z]; decide
    omega
  by_cases c : (fX 2 p.toNatClampNeg).toInt = v.toInt
  · rw [if_pos c] at e1
    obtain ⟨a1, b1⟩ := Prod.mk.inj e1
    rw [b1]; exact h
  rw [if_neg c] at e1
  obtain ⟨a1, b1⟩ := Prod.mk.inj e1
  obtain ⟨g3, g4, g5, d, x0, x1, x2, x3, x4, x5, x6⟩ := bX_comes p (fX 2 p.toNatClampNeg) v fX LX hd
  obtain ⟨f0, ef⟩ : ∃ z : sg_F, z = sX1_comes p (fX 2 p.toNatClampNeg) v fX LX := ⟨_, rfl⟩
  rw [← ef] at x1 x2 x3 x4 x5 x6 b1
  obtain ⟨u1, u2⟩ := bX_becomes p v f0 LX
  have h9 := xLo.becomes (v := v) (f := f0) (p := p) (by rw [x6 9 (by decide) (by decide) (by decide) (by decide)]; exact h.2) ⟨by omega, w2⟩ hb.2 LX
  rw [← b1] at u1 u2 h9
  have d0 : 0 ≤ d.toInt ∧ d.toInt ≤ 39 ∧ d.toInt ≤ (fX 32 4).toInt := by
    rcases x0 with ⟨y1, y2, -⟩ | ⟨y1, y2, -⟩
    · omega
    · rw [y2]; omega
  have ed : (d + 1).toInt = d.toInt + 1 := (bn_addI (by omega) (by omega)).trans (by omega)
  have cd := bn_clI d0.1
  have e2 : fX1 2 = sgu (fX 2) p.toNatClampNeg v := by rw [u1, x6 2 (by decide) (by decide) (by decide) (by decide)]
  refine ⟨⟨fun i hi => ?_, fun i hi => ?_⟩, ?_⟩
  · rw [e2]
    by_cases z : i = p.toNatClampNeg
    · rw [z, sgu_s, w3]; exact ⟨v0, g.2⟩
    · rw [sgu_n z]; exact h.1.1 i hi
  · rw [u2 32 (by decide) (by decide), x5, ed] at hi
    rw [u2 33 (by decide) (by decide), u2 34 (by decide) (by decide), u2 35 (by decide) (by decide), x1, x2, x3]
    by_cases z : i = d.toNatClampNeg
    · rw [z, sgu_s, sgu_s, sgu_s, w3]
      have := h.1.1 p.toNatClampNeg (by omega)
      rw [w3] at this
      exact ⟨this, v0, g.2⟩
    · rw [sgu_n z, sgu_n z, sgu_n z]
      rcases x0 with ⟨y1, y2, y3, y4, y5⟩ | ⟨y1, y2, y3, y4, y5⟩
      · have wz : ∀ g : Nat → Int32, va_cpy g g 1 0 39 i = g (1 + i) := by
          intro g
          unfold va_cpy
          rw [if_pos ⟨Nat.zero_le _, by omega⟩]
          rfl
        rw [y3, y4, y5, wz, wz, wz]
        exact h.1.2 (1 + i) (by omega)
      · rw [y3, y4, y5]
        have : d.toInt = (fX 32 3).toInt := by rw [y2]
        exact h.1.2 i (by omega)
  · rw [e2, show fX1 1 3 = fX 1 3 from by rw [u2 1 (by decide) (by decide), x6 1 (by decide) (by decide) (by decide) (by decide)]]
    exact h9
theorem xH.undo {hl : Bool} {T : Nat → Int32} {n : Nat} {fX fX1 : sg_F} {LX : sg_L} {r1 : Int32} (h : xH hl T n fX) (hI : sgI loX hiX fX) (hdk : (fX 32 3).toInt ≤ (fX 32 4).toInt) (e1 : (r1, fX1) = sX11_undo fX LX) : xH hl T n fX1 := by
  have hb : 0 ≤ (fX 1 3).toInt ∧ (fX 1 3).toInt ≤ 8 := hI 1 3
  have hd : 0 ≤ (fX 32 3).toInt ∧ (fX 32 3).toInt ≤ 40 := hI 32 3
  have k1 : (1 : Int32).toInt = 1 := by decide
  unfold sX11_undo at e1; (repeat first | rw [spl_d] at e1 | rw [spl2_d] at e1)
  by_cases c : (fX 32 3).toInt = 0
  · rw [if_pos c] at e1
    obtain ⟨a1, b1⟩ := Prod.mk.inj e1
    rw [b1]; exact h
  rw [if_neg c] at e1
  obtain ⟨d, ed⟩ : ∃ z : Int32, z = fX 32 3 - 1 := ⟨_, rfl⟩
  have dt : d.toInt = (fX 32 3).toInt - 1 := by rw [ed]; exact (bn_subI (by omega) (by omega)).trans (by omega)
  have cd := bn_clI (x := d) (by omega)
  rw [← ed] at e1
  rw [sg_up_n (show 33 ≠ 32 by decide), sg_up_n (show 34 ≠ 32 by decide)] at e1
  have pb : 0 ≤ (fX 33 d.toNatClampNeg).toInt ∧ (fX 33 d.toNatClampNeg).toInt ≤ 70 := hI 33 _
  obtain ⟨a1, b1⟩ := Prod.mk.inj e1
  obtain ⟨u1, u2⟩ := bX_becomes (fX 33 d.toNatClampNeg) (fX 34 d.toNatClampNeg) (sg_up fX 32 (sgu (fX 32) 3 d)) LX
  have h9 := xLo.becomes (p := fX 33 d.toNatClampNeg) (v := fX 34 d.toNatClampNeg) (f := sg_up fX 32 (sgu (fX 32) 3 d)) (by rw [sg_up_n (by decide)]; exact h.2) ⟨pb.1, by omega⟩ hb.2 LX
  rw [← b1] at u1 u2 h9
  have e2 : fX1 2 = sgu (fX 2) (fX 33 d.toNatClampNeg).toNatClampNeg (fX 34 d.toNatClampNeg) := by rw [u1, sg_up_n (by decide)]
  refine ⟨h.1.put e2 (h.1.2 _ (by omega)).1 ?_ (fun j => ?_) (fun j => ?_) (fun j => ?_), ?_⟩
  · rw [u2 32 (by decide) (by decide), sg_up_s, sgu_n (by decide)]; exact Int.le_refl _
  · rw [u2 33 (by decide) (by decide), sg_up_n (by decide)]
  · rw [u2 34 (by decide) (by decide), sg_up_n (by decide)]
  · rw [u2 35 (by decide) (by decide), sg_up_n (by decide)]
  · rw [e2, show fX1 1 3 = fX 1 3 from by rw [u2 1 (by decide) (by decide), sg_up_n (by decide)]]
    exact h9
theorem xH.redo {hl : Bool} {T : Nat → Int32} {n : Nat} {fX fX1 : sg_F} {LX : sg_L} {r1 : Int32} (h : xH hl T n fX) (hI : sgI loX hiX fX) (e1 : (r1, fX1) = sX11_redo fX LX) : xH hl T n fX1 := by
  have hb : 0 ≤ (fX 1 3).toInt ∧ (fX 1 3).toInt ≤ 8 := hI 1 3
  have hd : 0 ≤ (fX 32 3).toInt ∧ (fX 32 3).toInt ≤ 40 := hI 32 3
  unfold sX11_redo at e1; (repeat first | rw [spl_d] at e1 | rw [spl2_d] at e1)
  by_cases c : (fX 32 3).toInt < (fX 32 4).toInt
  case neg =>
    rw [if_neg c] at e1
    obtain ⟨a1, b1⟩ := Prod.mk.inj e1
    rw [b1]; exact h
  rw [if_pos c] at e1
  have cd := bn_clI hd.1
  have pb : 0 ≤ (fX 33 (fX 32 3).toNatClampNeg).toInt ∧ (fX 33 (fX 32 3).toNatClampNeg).toInt ≤ 70 := hI 33 _
  obtain ⟨a1, b1⟩ := Prod.mk.inj e1
  obtain ⟨u1, u2⟩ := bX_becomes (fX 33 (fX 32 3).toNatClampNeg) (fX 35 (fX 32 3).toNatClampNeg) fX LX
  have h9 := xLo.becomes (p := fX 33 (fX 32 3).toNatClampNeg) (v := fX 35 (fX 32 3).toNatClampNeg) (f := fX) h.2 ⟨pb.1, by omega⟩ hb.2 LX
  have e2 : fX1 2 = sgu (fX 2) (fX 33 (fX 32 3).toNatClampNeg).toNatClampNeg (fX 35 (fX 32 3).toNatClampNeg) := by rw [b1, sg_up_n (by decide), u1]
  refine ⟨h.1.put e2 (h.1.2 _ (by omega)).2 ?_ (fun j => ?_) (fun j => ?_) (fun j => ?_), ?_⟩
  · rw [b1, sg_up_s, sgu_n (by decide), u2 32 (by decide) (by decide)]; exact Int.le_refl _
  · rw [b1, sg_up_n (by decide), u2 33 (by decide) (by decide)]
  · rw [b1, sg_up_n (by decide), u2 34 (by decide) (by decide)]
  · rw [b1, sg_up_n (by decide), u2 35 (by decide) (by decide)]
  · rw [e2, show fX1 1 3 = fX 1 3 from by rw [b1, sg_up_n (by decide), u2 1 (by decide) (by decide)], show fX1 9 = sX0_becomes (fX 33 (fX 32 3).toNatClampNeg) (fX 35 (fX 32 3).toNatClampNeg) fX LX 9 from by rw [b1, sg_up_n (by decide)]]
    exact h9
/-- one who comes -/
theorem xH.come {hl : Bool} {T : Nat → Int32} {n : Nat} {a b c t : Int32} {f : sg_F} (h : xH hl T n f) (hs : 0 ≤ (f 1 3).toInt ∧ (f 1 3).toInt < 8) (ha : 0 ≤ a.toInt ∧ a.toInt ≤ 60) (hb : 0 ≤ b.toInt ∧ b.toInt ≤ 60) (hc : 0 ≤ c.toInt ∧ c.toInt ≤ 60) (ht : 0 ≤ t.toInt ∧ t.toInt ≤ 12) (L : sg_L) : xH hl T n (sX0_comes a b c t f L).2 := by
  obtain ⟨f1, q1, q2, q3, q4⟩ := bX_come a b c t f L hs
  obtain ⟨m0, m1, m2, m3, m4, m5, -, -, -, -, -⟩ := mhi_n
  have k1 : (1 : Int32).toInt = 1 := by decide
  have cs := bn_clI hs.1
  have e9 : (f 1 3 + 1).toInt = (f 1 3).toInt + 1 := (bn_addI (by omega) (by omega)).trans (by omega)
  obtain ⟨S, eS⟩ : ∃ z : Nat, z = (f 1 3).toNatClampNeg := ⟨_, rfl⟩
  rw [← eS] at q2 cs
  have g9 : ∀ j : Nat, f1 9 j = if 183 * S ≤ j ∧ j < 183 * S + 183 then -1 else f 9 j := by
    intro j
    have e : (sX0_comes a b c t f L).2 9 j = if 183 * S ≤ j ∧ j < 183 * S + 183 then -1 else f 9 j := by
      unfold sX0_comes; (repeat first | rw [spl_d] | rw [spl2_d])
      rw [if_pos hs.2]
      dsimp only
      rw [sg_up_n (by decide), fgt ⟨hs.1, by omega⟩, ← eS]
      rfl
    rw [q1] at e
    exact e
  rw [q1]
  show xH hl T n f1
  refine ⟨⟨fun i hi => ?_, fun i hi => ?_⟩, ?_⟩
  · rw [q2]
    by_cases z5 : i = 8 * S + 5
    · rw [z5, sgu_s, mpl_s (by omega) (by decide)]; exact ⟨ht.1, Int.le_trans ht.2 (by decide)⟩
    rw [sgu_n z5]
    by_cases z4 : i = 8 * S + 4
    · rw [z4, sgu_s, mpl_s (by omega) (by decide)]; exact ⟨by decide, by decide⟩
    rw [sgu_n z4]
    by_cases z3 : i = 8 * S + 3
    · rw [z3, sgu_s, mpl_s (by omega) (by decide)]; exact ⟨by decide, by decide⟩
    rw [sgu_n z3]
    by_cases z2 : i = 8 * S + 2
    · rw [z2, sgu_s, mpl_s (by omega) (by decide)]; exact ⟨hc.1, Int.le_trans hc.2 (by decide)⟩
    rw [sgu_n z2]
    by_cases z1 : i = 8 * S + 1
    · rw [z1, sgu_s, mpl_s (by omega) (by decide)]; exact ⟨hb.1, Int.le_trans hb.2 (by decide)⟩
    rw [sgu_n z1]
    by_cases z0 : i = 8 * S
    · rw [z0, sgu_s, show 8 * S = 8 * S + 0 from rfl, mpl_s (by omega) (by decide)]; exact ⟨ha.1, Int.le_trans ha.2 (by decide)⟩
    rw [sgu_n z0]
    exact h.1.1 i hi
  · rw [q4 32 (by decide) (by decide) (by decide)] at hi
    rw [q4 33 (by decide) (by decide) (by decide), q4 34 (by decide) (by decide) (by decide), q4 35 (by decide) (by decide) (by decide)]
    exact h.1.2 i hi
  · rw [q3]
    refine h.2.forgets (k := S) g9 (by omega) (fun s hs8 hk w hw => ?_) (fun s hk hl => by omega)
    rw [q2, sgu_n (by omega), sgu_n (by omega), sgu_n (by omega), sgu_n (by omega), sgu_n (by omega), sgu_n (by omega)]
theorem xH.sitter {hl : Bool} {T : Nat → Int32} {n : Nat} {fX fX1 : sg_F} {LX : sg_L} {v t r1 : Int32} (h : xH hl T n fX) (hI : sgI loX hiX fX) (e1 : (r1, fX1) = sX11_sitter v t fX LX) : xH hl T n fX1 := by
  have hb : 0 ≤ (fX 1 3).toInt ∧ (fX 1 3).toInt ≤ 8 := hI 1 3
  have e5 : (5 : Int32).toInt = 5 := by decide
  have l5 : mlo 5 = 1 := by decide
  have h5 : mhi 5 = 12 := by decide
  unfold sX11_sitter at e1; (repeat first | rw [spl_d] at e1 | rw [spl2_d] at e1)
  rw [pX_isSetting, pX_fits t fX LX (by rw [e5]; decide), e5, l5, h5] at e1
  by_cases c1 : 0 ≤ v.toInt ∧ v.toInt ≤ 60
  case neg =>
    rw [if_neg c1, if_neg zk0] at e1
    obtain ⟨a1, b1⟩ := Prod.mk.inj e1
    rw [b1]; exact h
  rw [if_pos c1, if_pos rfl] at e1
  by_cases c2 : 1 ≤ t.toInt ∧ t.toInt ≤ 12
  case neg =>
    rw [if_neg c2, if_neg zk0] at e1
    obtain ⟨a1, b1⟩ := Prod.mk.inj e1
    rw [b1]; exact h
  rw [if_pos c2, if_pos rfl] at e1
  by_cases c3 : (fX 1 3).toInt < 8
  · have z := h.come ⟨hb.1, c3⟩ c1 c1 c1 (show 0 ≤ t.toInt ∧ t.toInt ≤ 12 from ⟨by omega, c2.2⟩) LX
    obtain ⟨a1, b1⟩ := Prod.mk.inj e1
    rw [b1]; exact z
  · have e1 : (r1, fX1) = sX0_comes v v v t fX LX := e1
    unfold sX0_comes at e1; (repeat first | rw [spl_d] at e1 | rw [spl2_d] at e1)
    rw [if_neg c3] at e1
    obtain ⟨a1, b1⟩ := Prod.mk.inj e1
    rw [b1]; exact h
theorem xH.from {hl : Bool} {T : Nat → Int32} {n : Nat} (t : Nat) (x1 x2 : Int32) (L : sg_L) (len : Int) (hlen : len ≤ 60) (hby : ∀ j : Nat, (j : Int) < len → -128 ≤ (L (41 + 2 * t) j).toInt ∧ (L (41 + 2 * t) j).toInt ≤ 127) (h2 : x2.toInt ≤ 8) : ∀ (k : Nat) (y z : Int32) (f : sg_F), 0 ≤ y.toInt → (0 ≤ y.toInt → z.toInt ≤ 1000) → xH hl T n f → (f (40 + 2 * t) 2).toInt = len → 0 ≤ len → 0 ≤ (f 1 3).toInt ∧ (f 1 3).toInt ≤ 8 → xH hl T n (sX11_fromRow_l6 t x1 x2 k y z f L).2 := by
  have k4 : (4 : Int32).toInt = 4 := by decide
  have k0 : (0 : Int32).toInt = 0 := by decide
  have k1 : (1 : Int32).toInt = 1 := by decide
  intro k
  induction k with
  | zero => intro y z f _ _ h _ _ _; exact h
  | succ k ih =>
    intro y z f hy hz h hf hl0 hb
    have e9 : sX11_fromRow_l6 t x1 x2 (k + 1) y z f L = sX11_fromRow_h6 t x1 x2 (sX11_fromRow_l6 t x1 x2 k) y z f L := rfl
    rw [e9]
    unfold sX11_fromRow_h6; (repeat first | rw [spl_d] | rw [spl2_d])
    by_cases c1 : y.toInt < x2.toInt
    case neg => rw [if_neg c1]; exact h
    rw [if_pos c1, pX_hasPlaces _ _ _ _ _ (by omega), hf, k4]
    by_cases c2 : 0 ≤ z.toInt ∧ (0 : Int) ≤ 4 ∧ z.toInt + 4 ≤ len
    case neg => rw [if_neg c2, if_neg zk0]; exact h
    rw [if_pos c2, if_pos rfl]
    have cz := bn_clI c2.1
    have q : ∀ w : Nat, w < 4 → -128 ≤ (L (41 + 2 * t) (z.toNatClampNeg + w)).toInt ∧ (L (41 + 2 * t) (z.toNatClampNeg + w)).toInt ≤ 127 := fun w hw => hby _ (by omega)
    rw [bX_from t z f L ⟨c2.1, by omega⟩ hb q]
    obtain ⟨A0, hA0⟩ : ∃ v : Int64, v = L (41 + 2 * t) z.toNatClampNeg := ⟨_, rfl⟩
    obtain ⟨A1, hA1⟩ : ∃ v : Int64, v = L (41 + 2 * t) (z.toNatClampNeg + 1) := ⟨_, rfl⟩
    obtain ⟨A2, hA2⟩ : ∃ v : Int64, v = L (41 + 2 * t) (z.toNatClampNeg + 2) := ⟨_, rfl⟩
    obtain ⟨A3, hA3⟩ : ∃ v : Int64, v = L (41 + 2 * t) (z.toNatClampNeg + 3) := ⟨_, rfl⟩
    rw [← hA0, ← hA1, ← hA2, ← hA3]
    by_cases c3 : ((0 ≤ A0.toInt ∧ A0.toInt ≤ 60) ∧ (0 ≤ A1.toInt ∧ A1.toInt ≤ 60) ∧ (0 ≤ A2.toInt ∧ A2.toInt ≤ 60) ∧ (1 ≤ A3.toInt ∧ A3.toInt ≤ 12)) ∧ (f 1 3).toInt < 8
    case neg => rw [if_neg c3, if_pos k0]; exact h
    rw [if_pos c3, if_neg (show ¬ (1 : Int32).toInt = 0 by decide)]
    obtain ⟨⟨s0, s1, s2, s3⟩, c4⟩ := c3
    have w0 : (Int64.toInt32 A0).toInt = A0.toInt := bn_l2i (by omega) (by omega)
    have w1 : (Int64.toInt32 A1).toInt = A1.toInt := bn_l2i (by omega) (by omega)
    have w2 : (Int64.toInt32 A2).toInt = A2.toInt := bn_l2i (by omega) (by omega)
    have w3 : (Int64.toInt32 A3).toInt = A3.toInt := bn_l2i (by omega) (by omega)
    have z1 := h.come (a := Int64.toInt32 A0) (b := Int64.toInt32 A1) (c := Int64.toInt32 A2) (t := Int64.toInt32 A3) ⟨hb.1, c4⟩ (by omega) (by omega) (by omega) (by omega) L
    obtain ⟨f1, p1, p2, p3, p4⟩ := bX_come (Int64.toInt32 A0) (Int64.toInt32 A1) (Int64.toInt32 A2) (Int64.toInt32 A3) f L ⟨hb.1, c4⟩
    rw [p1] at z1 ⊢
    have e9 : (f 1 3 + 1).toInt = (f 1 3).toInt + 1 := (bn_addI (by omega) (by omega)).trans (by omega)
    have ey : (y + 1).toInt = y.toInt + 1 := (bn_addI (by omega) (by omega)).trans (by omega)
    have ez : (z + 4).toInt = z.toInt + 4 := (bn_addI (by omega) (by omega)).trans (by omega)
    exact ih (y + 1) (z + 4) f1 (by omega) (fun _ => by omega) z1 (by rw [p4 _ (by omega) (by omega) (by omega)]; exact hf) hl0 (by rw [p3]; omega)
theorem xH.sitters {hl : Bool} {T : Nat → Int32} {n : Nat} {fX fX1 : sg_F} {LX : sg_L} {d i k r1 : Int32} (h : xH hl T n fX) (hy : rByte fX LX) (hI : sgI loX hiX fX) (e1 : (r1, fX1) = sX11_sitters d i k fX LX) : xH hl T n fX1 := by
  have hb : 0 ≤ (fX 1 3).toInt ∧ (fX 1 3).toInt ≤ 8 := hI 1 3
  obtain ⟨hs1, hs2⟩ := shB hI
  have k0 : (0 : Int32).toInt = 0 := by decide
  unfold sX11_sitters at e1; (repeat first | rw [spl_d] at e1 | rw [spl2_d] at e1)
  rw [pX_isShelf] at e1
  by_cases q1 : 0 ≤ d.toInt ∧ d.toInt ≤ 5
  case neg =>
    rw [if_neg q1, if_neg zk0] at e1
    obtain ⟨a1, b1⟩ := Prod.mk.inj e1
    rw [b1]; exact h
  rw [if_pos q1, if_pos rfl] at e1
  by_cases q2 : k.toInt < 1
  · rw [if_pos q2] at e1
    obtain ⟨a1, b1⟩ := Prod.mk.inj e1
    rw [b1]; exact h
  rw [if_neg q2] at e1
  by_cases q3 : 8 < k.toInt
  · rw [if_pos q3] at e1
    obtain ⟨a1, b1⟩ := Prod.mk.inj e1
    rw [b1]; exact h
  rw [if_neg q3] at e1
  by_cases q4 : (fX (40 + 2 * d.toNatClampNeg) 1).toInt = -1
  · rw [if_pos q4] at e1
    obtain ⟨a1, b1⟩ := Prod.mk.inj e1
    rw [b1]; exact h
  rw [if_neg q4] at e1
  by_cases q5 : (fX (40 + 2 * d.toNatClampNeg) 1).toInt = 0
  · rw [if_pos q5] at e1
    have cd := bn_clI q1.1
    have kb := hs2 d.toNatClampNeg (by omega)
    obtain ⟨a1, b1⟩ := Prod.mk.inj e1
    rw [b1]
    by_cases z : i.toInt ≤ 1000
    · exact xH.from d.toNatClampNeg i k LX _ kb.2 (fun j hj => hy _ (by omega) q5 j hj) (by omega) 9 0 i fX (by decide) (fun _ => z) h rfl kb.1 hb
    · have e9 : sX11_fromRow d.toNatClampNeg i k fX LX = sX11_fromRow_h6 d.toNatClampNeg i k (sX11_fromRow_l6 d.toNatClampNeg i k 8) 0 i fX LX := rfl
      have k4 : (4 : Int32).toInt = 4 := by decide
      rw [e9]
      unfold sX11_fromRow_h6; (repeat first | rw [spl_d] | rw [spl2_d])
      rw [if_pos (by omega), pX_hasPlaces _ _ _ _ _ kb, if_neg (show ¬ (0 ≤ i.toInt ∧ 0 ≤ (4 : Int32).toInt ∧ i.toInt + (4 : Int32).toInt ≤ (fX (40 + 2 * d.toNatClampNeg) 2).toInt) from fun w => by omega), if_neg zk0]
      exact h
  · rw [if_neg q5] at e1
    obtain ⟨a1, b1⟩ := Prod.mk.inj e1
    rw [b1]; exact h
