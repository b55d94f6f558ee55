/-! THE WEEK of a row: both sides from their beginnings -/
/-- where the settings stand for both -/
def rSt (fX fM : sg_F) : Prop := ∀ p : Nat, p < 3 → fX 3 p = fM 5 p
/-- nothing is changed for the sake of a question between two calls -/
def rIdle (fX fM : sg_F) : Prop := fX 13 7 = -1 ∧ fX 13 9 = -1 ∧ fM 0 20 = -1 ∧ fM 0 22 = 0 ∧ fM 0 23 = 0 ∧ fM 0 24 = -1 ∧ ∀ j : Nat, fM 11 j = 0
theorem rSt.zero : rSt f0X f0M := by
  intro p hp
  have hz : ∀ q : Fin 3, f0X 3 q.1 = f0M 5 q.1 := by decide
  exact hz ⟨p, hp⟩
theorem rSt.fr {fX fX1 fM fM1 : sg_F} (h : rSt fX fM) (a : ∀ j : Nat, fX1 3 j = fX 3 j) (b : ∀ j : Nat, fM1 5 j = fM 5 j) : rSt fX1 fM1 := fun p hp => by
  rw [a, b]
  exact h p hp
theorem rIdle.zero : rIdle f0X f0M := ⟨rfl, rfl, rfl, rfl, rfl, rfl, fun _ => rfl⟩
theorem rIdle.fr {fX fX1 fM fM1 : sg_F} (h : rIdle fX fM) (a7 : fX1 13 7 = fX 13 7) (a9 : fX1 13 9 = fX 13 9) (b0 : fM1 0 20 = fM 0 20) (b2 : fM1 0 22 = fM 0 22) (b3 : fM1 0 23 = fM 0 23) (b4 : fM1 0 24 = fM 0 24) (c : ∀ j : Nat, fM1 11 j = fM 11 j) : rIdle fX1 fM1 := by
  unfold rIdle
  rw [a7, a9, b0, b2, b3, b4, show fM1 11 = fM 11 from funext c]
  exact h
theorem bt_0 (s : Int32) : bt 0 s = false := by
  unfold bt
  have e : (0 : Int32) >>> (s &&& 31) = 0 := Int32.zero_shiftRight
  rw [e]; decide
theorem spN_k0 {h : Nat → Int32} : ∀ n : Nat, spN 0 h n = 0 := by
  intro n
  induction n with
  | zero => rfl
  | succ n ih =>
    show spN 0 h n + (if bt 0 (Int32.ofNat n) = true then h n else 0) = 0
    rw [ih, bt_0, if_neg Bool.false_ne_true]; rfl
theorem rIdle.hF {f g : sg_F} (h : rIdle f g) : hF f g := by
  obtain ⟨a, b, c, d, e, i, -⟩ := h
  refine ⟨by rw [a, c], fun z => ?_, by rw [b, i], fun z => ?_, fun s z => by rw [e]; decide⟩
  · rw [a] at z; exact absurd z (by decide)
  · rw [b] at z; exact absurd z (by decide)
/-- a week begins on both sides -/
theorem wbeg {m : Nat → Int32} {f g : sg_F} (hs : ∀ p : Nat, p < 3 → f 3 p = g 5 p) (hb : ∀ p : Nat, p < 3 → 0 ≤ (f 3 p).toInt ∧ (f 3 p).toInt ≤ 60) (L LM : sg_L) : wR m 0 0 0 (sX4_begin f L) (sX12_beginsWeek g LM) ∧ xP f (sX4_begin f L) ∧ mH g (sX12_beginsWeek g LM) := by
  obtain ⟨x1, x2, x3, x4, x5, x6⟩ := xbg f L
  obtain ⟨y1, y2, y3, y4, y5⟩ := mbg g LM
  refine ⟨⟨fun p hp => ?_, fun p hp => ?_, ?_, ?_, ?_, ?_⟩, ⟨fun q _ _ a b c d => x6 q a b c d, x5⟩, y5⟩
  · rw [(x1 p hp).1, y1 p hp, hs p hp]
  · rw [(x1 p hp).1]; exact hb p hp
  · rw [y2, (x1 0 (by decide)).2, (x1 1 (by decide)).2, (x1 2 (by decide)).2]; rfl
  · rw [y3, x3]; rfl
  · rw [y4, (x1 0 (by decide)).2, (x1 1 (by decide)).2, (x1 2 (by decide)).2, spN_0 x2 8 (Nat.le_refl 8), Int32.zero_mul, Int32.zero_mul, Int32.zero_mul]
  · rw [x3, x4, (x1 0 (by decide)).2, (x1 1 (by decide)).2, (x1 2 (by decide)).2, Int32.zero_mul, Int32.zero_mul, Int32.zero_mul]; rfl
/-- the class lives so many shifts -/
theorem xlive {W : Nat → Int32} {f : sg_F} {L : sg_L} {x0 : Int32} {n : Nat} (hn : x0.toInt = n) (h21 : n ≤ 21) (h11 : ∀ j : Nat, j ≤ n → ∀ i : Nat, i < n → xSq W (sX4_begin f L) L j 11 i = W i) : sX4_live x0 f L = xSq W (sX4_begin f L) L n := by
  have go : ∀ (k i : Nat) (y : Int32), y.toInt = i → i ≤ n → n - i < k → sX4_live_l6 x0 k y (xSq W (sX4_begin f L) L i) L = xSq W (sX4_begin f L) L n := by
    intro k
    induction k with
    | zero => intro i y _ _ h; exact absurd h (by omega)
    | succ k ih =>
      intro i y ey hi hk
      have e9 : sX4_live_l6 x0 (k + 1) y (xSq W (sX4_begin f L) L i) L = sX4_live_h6 x0 (sX4_live_l6 x0 k) y (xSq W (sX4_begin f L) L i) L := rfl
      have cy := bn_clI (x := y) (by omega)
      rw [e9]
      unfold sX4_live_h6; (repeat first | rw [spl_d] | rw [spl2_d])
      by_cases c : i < n
      case neg =>
        rw [if_neg (by omega)]
        exact congrArg _ (show i = n by omega)
      rw [if_pos (by omega), show y.toNatClampNeg = i from by omega, h11 i hi i c]
      exact ih (i + 1) (y + 1) (inc1 ey (by omega)) (by omega) (by omega)
  unfold sX4_live; (repeat first | rw [spl_d] | rw [spl2_d])
  exact go 22 0 0 (by decide) (Nat.zero_le _) (by omega)
/-- the reference's week and the class's shifts -/
theorem wtwo {m : Nat → Int32} {S : Int} {hl : Bool} {T : Nat → Int32} {n : Nat} {x0 : Int32} {f g : sg_F} {W : Nat → Int32} {N : Nat} (L LM : sg_L) (hS : S ≤ 8) (hm : mOk m) (hq : pOk m) (hN : N ≤ 21) (hc : xCx m S hl T n f) (hC : mCx m hl T n g) (hs : ∀ p : Nat, p < 3 → f 3 p = g 5 p) (hb : ∀ p : Nat, p < 3 → 0 ≤ (f 3 p).toInt ∧ (f 3 p).toInt ≤ 60) (hf : hF f g) (hw : hWho W S N x0 g LM) (hsh : (sX12_shiftsOf x0 g LM).toInt = N) : ∃ g1 : sg_F, sX12_weekOf x0 g LM = (g1 0 31 + g1 0 30, g1) ∧ wR m 0 0 0 (xSq W (sX4_begin f L) L N) g1 ∧ mH g g1 ∧ hHs W (sX4_begin f L) L N g1 ∧ ∀ j : Nat, j ≤ N → xCx m S hl T n (xSq W (sX4_begin f L) L j) ∧ xP f (xSq W (sX4_begin f L) L j) ∧ ∀ p : Nat, p < 3 → 0 ≤ (xSq W (sX4_begin f L) L j 14 p).toInt ∧ (xSq W (sX4_begin f L) L j 14 p).toInt ≤ 60 := by
  obtain ⟨b1, b2, b3⟩ := wbeg (m := m) hs hb L LM
  obtain ⟨x1, x2, x3, x4, x5, x6⟩ := xbg f L
  have hc1 : xCx m S hl T n (sX4_begin f L) := hc.fr (x6 1 (by decide) (by decide) (by decide) (by decide)) (x6 2 (by decide) (by decide) (by decide) (by decide)) (x6 4 (by decide) (by decide) (by decide) (by decide)) (x6 7 (by decide) (by decide) (by decide) (by decide)) (x6 9 (by decide) (by decide) (by decide) (by decide))
  have k23 : sX12_beginsWeek g LM 23 = g 23 := funext fun j => b3 23 j (by decide) (by decide) (by decide) (Or.inl (by decide))
  obtain ⟨g1, a1, a2, a3, a4, a5⟩ := hweek (x0 := x0) (f := sX4_begin f L) (W := W) (N := N) (b1 := 0) (b2 := 0) (b3 := 0) L LM hS hm hq hN 22 0 0 (sX12_beginsWeek g LM) (by decide) (Nat.zero_le _) (by omega) (hC.H b3) hc1 b1 (hf.K b2 b3) (hw.H (b3 0 6 (by decide) (by decide) (by decide) (Or.inr (by decide))) (fun j => b3 11 j (by decide) (by decide) (by decide) (Or.inl (by decide)))) (by rw [shfM_fr k23]; exact hsh) (fun j h1 h2 => absurd h1 (by omega))
  refine ⟨g1, ?_, a2, b3.tr a3, a4, fun j hj => ?_⟩
  · unfold sX12_weekOf; (repeat first | rw [spl_d] | rw [spl2_d])
    exact a1
  · obtain ⟨u1, u2, u3⟩ := a5 j (Nat.zero_le _) hj
    exact ⟨u1, b2.tr u2, u3⟩
/-- costs without memories and marks -/
theorem wR.cost {m : Nat → Int32} {f g : sg_F} (h : wR m 0 0 0 f g) (h2 : g 0 22 = 0) (h3 : g 0 23 = 0) : f 13 6 = g 0 31 + g 0 30 ∧ f 13 5 = g 0 30 ∧ f 15 0 + f 15 1 + f 15 2 = g 0 29 := by
  obtain ⟨e1, e2, e3, e4, e5, e6⟩ := h
  rw [h2, spN_k0, Int32.add_zero, Int32.add_zero] at e5
  rw [Int32.add_zero] at e3 e4
  have q : ∀ p : Nat, mpr m g p = m (67 + p) := fun p => by
    unfold mpr
    rw [h3, if_pos (by decide)]
  rw [q, q, q] at e5
  refine ⟨?_, e4.symm, e3.symm⟩
  rw [e6, ← e5, ← e4, Int32.add_comm]
/-- how both answer for a row that is no week's -/
theorem xref (d : Int32) (f : sg_F) (L : sg_L) : sX11_refusalOf d f L = if (f (40 + 2 * d.toNatClampNeg) 1).toInt = -1 then -11 else if (f (40 + 2 * d.toNatClampNeg) 1).toInt = 0 then 0 else -12 := by
  unfold sX11_refusalOf; (repeat first | rw [spl_d] | rw [spl2_d])
theorem mbytes (d : Int32) (g : sg_F) (L : sg_L) : sX12_bytesIs d g L = if 0 ≤ d.toInt ∧ d.toInt ≤ 5 then (if (g 22 d.toNatClampNeg).toInt < 0 then -11 else if (g 22 d.toNatClampNeg).toInt = 50 then 1 else -12) else -1 := by
  unfold sX12_bytesIs; (repeat first | rw [spl_d] | rw [spl2_d])
  rw [pM_isShelf]
  by_cases c : 0 ≤ d.toInt ∧ d.toInt ≤ 5
  · rw [if_pos c, if_pos rfl, if_pos c]
  · rw [if_neg c, if_neg zk0, if_neg c]
theorem mshf (d : Int32) (g : sg_F) (L : sg_L) (h : 0 ≤ (g 23 d.toNatClampNeg).toInt) : (sX12_shiftsOf d g L).toInt = nsh (g 23 d.toNatClampNeg).toInt := by
  have k21 : (21 : Int32).toInt = 21 := by decide
  unfold sX12_shiftsOf nsh; (repeat first | rw [spl_d] | rw [spl2_d])
  by_cases c : (g 23 d.toNatClampNeg).toInt < 21
  · rw [if_pos c, if_pos c]; omega
  · rw [if_neg c, if_neg c]; omega
theorem mwho {d y : Int32} {i : Nat} {g : sg_F} {L : sg_L} (hd : 0 ≤ d.toInt ∧ d.toInt ≤ 5) (ey : y.toInt = i) (hi : i < 60) (hs : 0 ≤ (g 0 6).toInt ∧ (g 0 6).toInt ≤ 8) : sX12_whoSits d y g L = wh (g 0 6).toInt (L 24 (60 * d.toNatClampNeg + i)) := by
  have k60 : (60 : Int32).toInt = 60 := by decide
  have k0 : (0 : Int64).toInt = 0 := by decide
  have e1 : (60 * d).toInt = 60 * d.toInt := bn_mulJ k60 (by omega) (by omega)
  have e2 : (60 * d + y).toInt = (60 * d).toInt + y.toInt := bn_addI (by omega) (by omega)
  have c1 := bn_clI hd.1
  have c2 := bn_clI (x := 60 * d + y) (by omega)
  have k1 : (1 : Int32).toInt = 1 := by decide
  have e3 : (g 0 6 - 1).toInt = (g 0 6).toInt - 1 := (bn_subI (by omega) (by omega)).trans (by omega)
  have e4 := Int32.toInt_toInt64 (g 0 6 - 1)
  unfold sX12_whoSits sX12_isSitter; (repeat first | rw [spl_d] | rw [spl2_d])
  rw [pM_within, ite_b, show (60 * d + y).toNatClampNeg = 60 * d.toNatClampNeg + i from by omega, k0, e4, e3]
  unfold wh
  by_cases c : 0 ≤ (L 24 (60 * d.toNatClampNeg + i)).toInt ∧ (L 24 (60 * d.toNatClampNeg + i)).toInt < (g 0 6).toInt
  · rw [if_pos c, if_pos (show 0 ≤ (L 24 (60 * d.toNatClampNeg + i)).toInt ∧ (L 24 (60 * d.toNatClampNeg + i)).toInt ≤ (g 0 6).toInt - 1 from by omega), if_pos rfl]
  · rw [if_neg c, if_neg (show ¬ (0 ≤ (L 24 (60 * d.toNatClampNeg + i)).toInt ∧ (L 24 (60 * d.toNatClampNeg + i)).toInt ≤ (g 0 6).toInt - 1) from by omega), if_neg zk0]
/-- a row that a week is read from: what both find -/
theorem rweek {fX fM : sg_F} {LX LM : sg_L} {d : Int32} (hn : rNum fX fM) (hs : rShelf fX fM) (he : rEl fX LX LM) (hy : rByte fX LX) (hi : rIdle fX fM) (hI : sgI loX hiX fX) (hd : 0 ≤ d.toInt ∧ d.toInt ≤ 5) (h9 : (fX 36 2).toInt ≤ 50) : ((fX (40 + 2 * d.toNatClampNeg) 1).toInt = -1 ∧ sX11_readWeek d fX LX = (-11, fX) ∧ sX12_bytesIs d fM LM = -11) ∨ ((fX (40 + 2 * d.toNatClampNeg) 1).toInt ≠ -1 ∧ (fX (40 + 2 * d.toNatClampNeg) 1).toInt ≠ 0 ∧ sX11_readWeek d fX LX = (-12, fX) ∧ sX12_bytesIs d fM LM = -12) ∨ ((fX (40 + 2 * d.toNatClampNeg) 1).toInt = 0 ∧ sX12_bytesIs d fM LM = 1 ∧ ∃ (W : Nat → Int32) (N : Nat) (f1 : sg_F), sX11_readWeek d fX LX = (0, f1) ∧ N ≤ 21 ∧ xRd W N fX f1 ∧ hWho W (fX 1 3).toInt N d fM LM ∧ (sX12_shiftsOf d fM LM).toInt = N ∧ (N : Int) ≤ (fX (40 + 2 * d.toNatClampNeg) 2).toInt ∧ (fX (40 + 2 * d.toNatClampNeg) 2).toInt = (fM 23 d.toNatClampNeg).toInt ∧ (∀ i : Nat, W i = wh (fX 1 3).toInt (LX (41 + 2 * d.toNatClampNeg) i)) ∧ N = nsh (fX (40 + 2 * d.toNatClampNeg) 2).toInt) := by
  have hb : 0 ≤ (fX 1 3).toInt ∧ (fX 1 3).toInt ≤ 8 := hI 1 3
  obtain ⟨hs1, hs2⟩ := shB hI
  have cd := bn_clI hd.1
  have kb := hs2 d.toNatClampNeg (by omega)
  have e13 : (fX 1 3).toInt = (fM 0 6).toInt := hn.1
  have xr : ∀ r : Int32, sX11_refusalOf d fX LX = r → r.toInt ≠ 0 → sX11_readWeek d fX LX = (r, fX) := fun r er h0 => by
    unfold sX11_readWeek; (repeat first | rw [spl_d] | rw [spl2_d])
    rw [er, if_neg h0]
  have k0 : (0 : Int32).toInt = 0 := by decide
  rcases hs.at hd.1 hd.2 with ⟨a, b⟩ | ⟨a, b, c1, c2⟩ | ⟨a, a4, b, c⟩
  · exact Or.inl ⟨a, xr (-11) (by rw [xref, if_pos a]) (by decide), by rw [mbytes, if_pos hd, if_pos (show (fM 22 d.toNatClampNeg).toInt < 0 from by omega)]⟩
  · exact Or.inr (Or.inl ⟨by omega, by omega, xr (-12) (by rw [xref, if_neg (show ¬ (fX (40 + 2 * d.toNatClampNeg) 1).toInt = -1 from by omega), if_neg (show ¬ (fX (40 + 2 * d.toNatClampNeg) 1).toInt = 0 from by omega)]) (by decide), by rw [mbytes, if_pos hd, if_neg (show ¬ (fM 22 d.toNatClampNeg).toInt < 0 from by omega), if_neg (show ¬ (fM 22 d.toNatClampNeg).toInt = 50 from by omega)]⟩)
  · by_cases z : (fX (40 + 2 * d.toNatClampNeg) 1).toInt = 0
    case neg => exact Or.inr (Or.inl ⟨by omega, z, xr (-12) (by rw [xref, if_neg (show ¬ (fX (40 + 2 * d.toNatClampNeg) 1).toInt = -1 from by omega), if_neg z]) (by decide), by rw [mbytes, if_pos hd, if_neg (show ¬ (fM 22 d.toNatClampNeg).toInt < 0 from by omega), if_neg (show ¬ (fM 22 d.toNatClampNeg).toInt = 50 from by omega)]⟩)
    have hby := hy d.toNatClampNeg (by omega) z
    have hel := he d.toNatClampNeg (by omega) a
    refine Or.inr (Or.inr ⟨z, by rw [mbytes, if_pos hd, if_neg (show ¬ (fM 22 d.toNatClampNeg).toInt < 0 from by omega), if_pos (show (fM 22 d.toNatClampNeg).toInt = 50 from by omega)], _, _, sX10_reads d.toNatClampNeg (fX 1 3) fX LX, ?_, nsh_le _, xrd kb.1 hb hby, fun y i ey hi' => ?_, ?_, ?_, c, fun _ => rfl, rfl⟩)
    · unfold sX11_readWeek; (repeat first | rw [spl_d] | rw [spl2_d])
      have er : sX11_refusalOf d fX LX = 0 := by rw [xref, if_neg (show ¬ (fX (40 + 2 * d.toNatClampNeg) 1).toInt = -1 from by omega), if_pos z]
      rw [er, if_pos k0]
    · have hil := nsh_lt hi'
      rw [mwho hd ey (by omega) (by omega), ← hel i hil, ← e13]
      obtain ⟨w, ew⟩ : ∃ v : Int32, v = wh (fX 1 3).toInt (LX (41 + 2 * d.toNatClampNeg) i) := ⟨_, rfl⟩
      have wb := wh_b (w := LX (41 + 2 * d.toNatClampNeg) i) hb.2
      dsimp only
      rw [← ew] at wb ⊢
      rcases wb with wb | ⟨w1, w2, w3⟩
      · exact Or.inl ⟨wb, Or.inl (by omega)⟩
      · exact Or.inr ⟨w1, w2, rfl, by rw [hi.2.2.2.2.2.2 i]; decide⟩
    · rw [mshf d fM LM (by omega), ← c]
    · unfold nsh
      by_cases q : (fX (40 + 2 * d.toNatClampNeg) 2).toInt < 21
      · rw [if_pos q]; omega
      · rw [if_neg q]; omega
