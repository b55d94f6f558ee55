/-! MEMORIES: the best of them -/
/-- how many bits -/
noncomputable def pcI (k : Int32) : Int32 := sX12_bitsOf k f0M L0
theorem bits_l (k : Int32) (f : sg_F) (L : sg_L) : ∀ (n : Nat) (a y : Int32), sX12_bitsOf_l4 k n a y f L = sX12_bitsOf_l4 k n a y f0M L0 := by
  intro n
  induction n with
  | zero => intro a y; rfl
  | succ n ih =>
    intro a y
    show sX12_bitsOf_h4 k (sX12_bitsOf_l4 k n) a y f L = sX12_bitsOf_h4 k (sX12_bitsOf_l4 k n) a y f0M L0
    unfold sX12_bitsOf_h4; (repeat first | rw [spl_d] | rw [spl2_d])
    by_cases c : y.toInt = 0
    · rw [if_pos c, if_pos c]
    · rw [if_neg c, if_neg c, ih]
theorem bits_M (k : Int32) (f : sg_F) (L : sg_L) : sX12_bitsOf k f L = pcI k := bits_l k f L 300 0 k
theorem bits_fin : ∀ k : Fin 256, sJ6_bitCount_0f7a4 (Int32.ofNat k.1) f0M L0 = pcI (Int32.ofNat k.1) ∧ 0 ≤ (pcI (Int32.ofNat k.1)).toInt := by decide +kernel
theorem ofN {k : Int32} (h0 : 0 ≤ k.toInt) (h1 : k.toInt < 1000000) : Int32.ofNat k.toNatClampNeg = k := by
  have c := bn_clI h0
  exact Int32.toInt_inj.mp ((nI_toInt (n := k.toNatClampNeg) (by omega)).trans (by omega))
theorem bits_X {k : Int32} (h0 : 0 ≤ k.toInt) (h1 : k.toInt < 256) (f : sg_F) (L : sg_L) : sJ6_bitCount_0f7a4 k f L = pcI k := by
  have c := bn_clI h0
  have e := (bits_fin ⟨k.toNatClampNeg, by omega⟩).1
  rw [ofN h0 (by omega)] at e
  exact e
theorem bits_0 : (pcI (Int32.ofNat 0)).toInt = 0 := by decide +kernel
/-- what a mask spares, to the class -/
theorem sparedX (k : Int32) (F : sg_F) (L : sg_L) : sX4_sparedBy k F L = spN k (F 16) 8 := by
  have go : ∀ (q i : Nat) (y : Int32), y.toInt = i → i ≤ 8 → 8 - i < q → sX4_sparedBy_l4 k q (spN k (F 16) i) y F L = spN k (F 16) 8 := by
    intro q
    induction q with
    | zero => intro i y _ _ h; exact absurd h (by omega)
    | succ q ih =>
      intro i y ey hi hq
      have cy := bn_clI (x := y) (by omega)
      have eyn : y.toNatClampNeg = i := by omega
      have e9 : sX4_sparedBy_l4 k (q + 1) (spN k (F 16) i) y F L = sX4_sparedBy_h4 k (sX4_sparedBy_l4 k q) (spN k (F 16) i) y F L := rfl
      rw [e9]
      unfold sX4_sparedBy_h4 sX4_sparedBy_b27; (repeat first | rw [spl_d] | rw [spl2_d])
      by_cases c : i < 8
      case neg =>
        rw [if_neg (by omega)]
        exact congrArg _ (show i = 8 by omega)
      rw [if_pos (by omega), eyn]
      have ey1 := inc1 ey (by omega)
      have e8 : Int32.ofNat i = y := by rw [← eyn]; exact ofN (by omega) (by omega)
      have sp1 : spN k (F 16) (i + 1) = spN k (F 16) i + (if bt k (Int32.ofNat i) = true then F 16 i else 0) := rfl
      rw [e8] at sp1
      have hb := bn_and1c (k >>> (y &&& 31))
      by_cases d : ((k >>> (y &&& 31)) &&& 1).toInt = 0
      · rw [if_pos d]
        have nb : ¬ bt k y = true := fun z => by
          have := of_decide_eq_true z
          omega
        rw [if_neg nb, Int32.add_zero] at sp1
        rw [← sp1]
        exact ih (i + 1) (y + 1) ey1 (by omega) (by omega)
      · rw [if_neg d]
        have nb : bt k y = true := decide_eq_true (by omega)
        rw [if_pos nb] at sp1
        rw [← sp1]
        exact ih (i + 1) (y + 1) ey1 (by omega) (by omega)
  exact go 9 0 0 (by decide) (by omega) (by omega)
/-- sums as whole numbers -/
def sI (h : Nat → Int32) : Nat → Int
  | 0 => 0
  | n + 1 => sI h n + (h n).toInt
theorem sI_ge {h : Nat → Int32} {s : Nat} {x : Int32} : ∀ n : Nat, n ≤ s → sI (sgu h s x) n = sI h n := by
  intro n
  induction n with
  | zero => intro _; rfl
  | succ n ih =>
    intro hn
    show sI (sgu h s x) n + (sgu h s x n).toInt = sI h n + (h n).toInt
    rw [ih (by omega), sgu_n (by omega)]
theorem sI_up {h : Nat → Int32} {s : Nat} {x : Int32} : ∀ n : Nat, s < n → sI (sgu h s x) n = sI h n + x.toInt - (h s).toInt := by
  intro n
  induction n with
  | zero => intro hn; exact absurd hn (by omega)
  | succ n ih =>
    intro hn
    show sI (sgu h s x) n + (sgu h s x n).toInt = sI h n + (h n).toInt + x.toInt - (h s).toInt
    by_cases c : n = s
    · subst c
      rw [sI_ge n (Nat.le_refl n), sgu_s]; omega
    · rw [ih (by omega), sgu_n c]; omega
theorem sI_le {h : Nat → Int32} (z : ∀ j : Nat, j < 8 → 0 ≤ (h j).toInt) : ∀ n : Nat, n ≤ 8 → 0 ≤ sI h n ∧ ∀ s : Nat, s < n → (h s).toInt ≤ sI h n := by
  intro n
  induction n with
  | zero => intro _; exact ⟨Int.le_refl _, fun s hs => absurd hs (by omega)⟩
  | succ n ih =>
    intro hn
    obtain ⟨a, b⟩ := ih (by omega)
    have zn := z n (by omega)
    have e : sI h (n + 1) = sI h n + (h n).toInt := rfl
    refine ⟨by omega, fun s hs => ?_⟩
    by_cases c : s = n
    · subst c; omega
    · have := b s (by omega); omega
theorem spN_I {k : Int32} {h : Nat → Int32} {K : Int} (z : ∀ j : Nat, j < 8 → 0 ≤ (h j).toInt) (hK : K ≤ 2000000000) : ∀ n : Nat, n ≤ 8 → sI h n ≤ K → 0 ≤ (spN k h n).toInt ∧ (spN k h n).toInt ≤ sI h n := by
  intro n
  induction n with
  | zero => intro _ _; exact ⟨show 0 ≤ (0 : Int32).toInt by decide, show (0 : Int32).toInt ≤ 0 by decide⟩
  | succ n ih =>
    intro hn hs
    have e : sI h (n + 1) = sI h n + (h n).toInt := rfl
    have zn := z n (by omega)
    obtain ⟨a, b⟩ := ih (by omega) (by omega)
    show 0 ≤ (spN k h n + (if bt k (Int32.ofNat n) = true then h n else 0)).toInt ∧ (spN k h n + (if bt k (Int32.ofNat n) = true then h n else 0)).toInt ≤ sI h (n + 1)
    by_cases c : bt k (Int32.ofNat n) = true
    · rw [if_pos c]
      have e2 : (spN k h n + h n).toInt = (spN k h n).toInt + (h n).toInt := bn_addI (by omega) (by omega)
      omega
    · rw [if_neg c, Int32.add_zero]; omega
theorem mxc_b {c fe : Int32} (hc : 0 ≤ c.toInt ∧ c.toInt ≤ 5940) (hf : 0 ≤ fe.toInt ∧ fe.toInt ≤ 99) : 0 ≤ (mxc c fe).toInt ∧ (mxc c fe).toInt ≤ c.toInt := by
  have k0 : (0 : Int32).toInt = 0 := by decide
  have e : (c - fe).toInt = c.toInt - fe.toInt := bn_subI (by omega) (by omega)
  unfold mxc
  by_cases z : (0 : Int32) < c - fe
  · have := bn_lt z
    rw [if_pos z]; omega
  · rw [if_neg z]; omega
/-- what is spared is no more than what is paid -/
def jS (f : sg_F) : Prop := (∀ s : Nat, s < 8 → 0 ≤ (f 16 s).toInt) ∧ sI (f 16) 8 ≤ (f 13 6).toInt
theorem jS.pass {m : Nat → Int32} {S : Int} {hl : Bool} {T : Nat → Int32} {n : Nat} {w : Int32} {f : sg_F} {K : Int} (hj : jS f) (hc : xCx m S hl T n f) (hS : S ≤ 8) (hm : mOk m) (hq : pOk m) (hv : ∀ p : Nat, p < 3 → 0 ≤ (f 14 p).toInt ∧ (f 14 p).toInt ≤ 60) (hw : w.toInt = -1 ∨ (0 ≤ w.toInt ∧ w.toInt < S)) (h9 : (f 13 9).toInt = -1) (B : 0 ≤ (f 13 6).toInt ∧ (f 13 6).toInt ≤ K) (hK : K ≤ 2000000000) (L : sg_L) : jS (sX4_pass w f L) := by
  obtain ⟨hj1, hj2⟩ := hj
  have slip : ∀ (g : sg_F), g 2 = m → jS g → jS (sX4_slip g L) := fun g e hg => by
    unfold jS
    rw [(xsl e L).1 13 (by decide), (xsl e L).1 16 (by decide)]
    exact hg
  rcases hw with hw | hw
  · have ep : sX4_pass w f L = sX4_slip f L := by
      unfold sX4_pass sX4_pass_b22; (repeat first | rw [spl_d] | rw [spl2_d])
      rw [if_pos hw]
    rw [ep]; exact slip f hc.1 ⟨hj1, hj2⟩
  obtain ⟨c1, c2⟩ := xcm (s := w) hc hS hm hw hv L
  obtain ⟨f1, ef⟩ : ∃ z : sg_F, z = sX4_comes w f L := ⟨_, rfl⟩
  rw [← ef] at c1 c2
  obtain ⟨nr, en⟩ : ∃ z : Int32, z = (if w.toInt = (f 13 7).toInt then f 13 8 else m (8 * w.toNatClampNeg + 6)) := ⟨_, rfl⟩
  rw [← en] at c2
  obtain ⟨y1, y2, y3, y4, y5, y6⟩ := c2
  have ep : sX4_pass w f L = sX4_slip f1 L := by
    have e9 : f1 13 9 = f 13 9 := y2 9 (by decide) (by decide)
    unfold sX4_pass sX4_pass_b22; (repeat first | rw [spl_d] | rw [spl2_d])
    rw [if_neg (show ¬ w.toInt = -1 from by omega), ← ef, if_neg (show ¬ w.toInt = (f1 13 9).toInt from by rw [e9]; omega)]
  rw [ep]
  refine slip f1 c1.1 ?_
  have cs := bn_clI hw.1
  have bw := (hm w.toNatClampNeg (by omega)).1
  have pf := hq 70 (by decide) (by decide)
  have pr : ∀ p : Nat, p < 3 → 0 ≤ (ab (tvn nr (m (8 * w.toNatClampNeg + p)) (f 14 p) - f 14 p) * m (67 + p)).toInt ∧ (ab (tvn nr (m (8 * w.toNatClampNeg + p)) (f 14 p) - f 14 p) * m (67 + p)).toInt ≤ 5940 := fun p hp => by
    have := ab_le (tvn_b (nr := nr) (bw p hp) (hv p hp)) (hv p hp)
    obtain ⟨-, z1, z2⟩ := mul_le (x := 60) (y := 99) ⟨this.2.1, this.2.2.1⟩ (hq (67 + p) (by omega) (by omega)) (by decide)
    exact ⟨z1, by omega⟩
  have p0 := pr 0 (by decide)
  have p1 := pr 1 (by decide)
  have p2 := pr 2 (by decide)
  have x0 := mxc_b p0 pf
  have x1 := mxc_b p1 pf
  have x2 := mxc_b p2 pf
  have l0 := lsv_b (m := m) (hl := hl) (T := T) (n := n) (s := w) (p := 0) (v := tvn nr (m (8 * w.toNatClampNeg + 0)) (f 14 0))
  have l1 := lsv_b (m := m) (hl := hl) (T := T) (n := n) (s := w) (p := 1) (v := tvn nr (m (8 * w.toNatClampNeg + 1)) (f 14 1))
  have l2 := lsv_b (m := m) (hl := hl) (T := T) (n := n) (s := w) (p := 2) (v := tvn nr (m (8 * w.toNatClampNeg + 2)) (f 14 2))
  obtain ⟨A0, eA0⟩ : ∃ z : Int32, z = ab (tvn nr (m (8 * w.toNatClampNeg + 0)) (f 14 0) - f 14 0) * m (67 + 0) := ⟨_, rfl⟩
  obtain ⟨A1, eA1⟩ : ∃ z : Int32, z = ab (tvn nr (m (8 * w.toNatClampNeg + 1)) (f 14 1) - f 14 1) * m (67 + 1) := ⟨_, rfl⟩
  obtain ⟨A2, eA2⟩ : ∃ z : Int32, z = ab (tvn nr (m (8 * w.toNatClampNeg + 2)) (f 14 2) - f 14 2) * m (67 + 2) := ⟨_, rfl⟩
  obtain ⟨B0, eB0⟩ : ∃ z : Int32, z = lsv m hl T n w 0 (tvn nr (m (8 * w.toNatClampNeg + 0)) (f 14 0)) := ⟨_, rfl⟩
  obtain ⟨B1, eB1⟩ : ∃ z : Int32, z = lsv m hl T n w 1 (tvn nr (m (8 * w.toNatClampNeg + 1)) (f 14 1)) := ⟨_, rfl⟩
  obtain ⟨B2, eB2⟩ : ∃ z : Int32, z = lsv m hl T n w 2 (tvn nr (m (8 * w.toNatClampNeg + 2)) (f 14 2)) := ⟨_, rfl⟩
  rw [← eA0] at p0 x0 y4 y6
  rw [← eA1] at p1 x1 y4 y6
  rw [← eA2] at p2 x2 y4 y6
  rw [← eB0] at l0 y6
  rw [← eB1] at l1 y6
  rw [← eB2] at l2 y6
  have s8 := (sI_le hj1 8 (Nat.le_refl 8)).2 w.toNatClampNeg (by omega)
  have s0 := hj1 w.toNatClampNeg (by omega)
  have a1 : (f 13 6 + A0).toInt = (f 13 6).toInt + A0.toInt := bn_addI (by omega) (by omega)
  have a2 : (f 13 6 + A0 + B0).toInt = (f 13 6 + A0).toInt + B0.toInt := bn_addI (by omega) (by omega)
  have a3 : (f 13 6 + A0 + B0 + A1).toInt = (f 13 6 + A0 + B0).toInt + A1.toInt := bn_addI (by omega) (by omega)
  have a4 : (f 13 6 + A0 + B0 + A1 + B1).toInt = (f 13 6 + A0 + B0 + A1).toInt + B1.toInt := bn_addI (by omega) (by omega)
  have a5 : (f 13 6 + A0 + B0 + A1 + B1 + A2).toInt = (f 13 6 + A0 + B0 + A1 + B1).toInt + A2.toInt := bn_addI (by omega) (by omega)
  have a6 : (f 13 6 + A0 + B0 + A1 + B1 + A2 + B2).toInt = (f 13 6 + A0 + B0 + A1 + B1 + A2).toInt + B2.toInt := bn_addI (by omega) (by omega)
  have b1 : (f 16 w.toNatClampNeg + mxc A0 (m 70)).toInt = (f 16 w.toNatClampNeg).toInt + (mxc A0 (m 70)).toInt := bn_addI (by omega) (by omega)
  have b2 : (f 16 w.toNatClampNeg + mxc A0 (m 70) + mxc A1 (m 70)).toInt = (f 16 w.toNatClampNeg + mxc A0 (m 70)).toInt + (mxc A1 (m 70)).toInt := bn_addI (by omega) (by omega)
  have b3 : (f 16 w.toNatClampNeg + mxc A0 (m 70) + mxc A1 (m 70) + mxc A2 (m 70)).toInt = (f 16 w.toNatClampNeg + mxc A0 (m 70) + mxc A1 (m 70)).toInt + (mxc A2 (m 70)).toInt := bn_addI (by omega) (by omega)
  refine ⟨fun t ht => ?_, ?_⟩
  · rw [y4]
    by_cases z : t = w.toNatClampNeg
    · rw [z, sgu_s]; omega
    · rw [sgu_n z]; exact hj1 t ht
  · rw [y4, y6, sI_up 8 (by omega)]; omega
