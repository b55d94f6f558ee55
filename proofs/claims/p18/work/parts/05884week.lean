/-! A WEEK, both sides: shift by shift -/
/-- the class after so many shifts -/
noncomputable def xSq (W : Nat → Int32) (f : sg_F) (L : sg_L) : Nat → sg_F
  | 0 => f
  | i + 1 => sX4_pass (W i) (xSq W f L i) L
theorem idx3 {y z : Int32} {i p : Nat} (ey : y.toInt = i) (hi : i ≤ 21) (ez : z.toInt = p) (hp : p < 3) : (3 * y + z).toNatClampNeg = 3 * i + p := by
  have k3 : (3 : Int32).toInt = 3 := by decide
  have e1 : (3 * y).toInt = 3 * y.toInt := bn_mulJ k3 (by omega) (by omega)
  have e2 : (3 * y + z).toInt = (3 * y).toInt + z.toInt := bn_addI (by omega) (by omega)
  have c := bn_clI (x := 3 * y + z) (by omega)
  omega
theorem inc1 {y : Int32} {i : Nat} (ey : y.toInt = i) (hi : i ≤ 1000000) : (y + 1).toInt = ((i + 1 : Nat) : Int) := by
  have k1 : (1 : Int32).toInt = 1 := by decide
  have e : (y + 1).toInt = y.toInt + (1 : Int32).toInt := bn_addI (by omega) (by omega)
  omega
theorem mslp1 {m : Nat → Int32} {hl : Bool} {T : Nat → Int32} {n : Nat} {g : sg_F} {x0 y z : Int32} {i p : Nat} (rec : Int32 → sg_F → sg_L → Int32 × sg_F) (h : mCx m hl T n g) (hq : pOk m) (ey : y.toInt = i) (hi : i ≤ 20) (ez : z.toInt = p) (hp : p < 3) (hv : 0 ≤ (g 12 p).toInt ∧ (g 12 p).toInt ≤ 60) (k : Nat) (L : sg_L) : ∃ g1 : sg_F, sX12_weekOf_l72 rec x0 (k + 1) y z g L = sX12_weekOf_l72 rec x0 k y (z + 1) g1 L ∧ g1 12 = sgu (g 12) p (slp (m (64 + p)) (g 12 p)) ∧ g1 13 = sgu (g 13) (3 * (i + 1) + p) (slp (m (64 + p)) (g 12 p)) ∧ ∀ q : Nat, q ≠ 12 → q ≠ 13 → g1 q = g q := by
  have ep := msl1 ez hp
  have e1 := inc1 ey (by omega)
  have e64 := h.2.1 (64 + p) (by omega) (by omega)
  have e9 : sX12_weekOf_l72 rec x0 (k + 1) y z g L = sX12_weekOf_h72 rec x0 (sX12_weekOf_l72 rec x0 k) y z g L := rfl
  rw [e9]
  unfold sX12_weekOf_h72; (repeat first | rw [spl_d] | rw [spl2_d])
  rw [if_pos (show z.toInt < 3 from by omega), ep, slpM ez hp (by rw [e64]; exact hq _ (by omega) (by omega)) hv, e64, idx3 e1 (by omega) ez hp]
  refine ⟨_, rfl, ?_, ?_, fun q a b => ?_⟩
  · rw [sg_up_n (by decide), sg_up_s]
  · rw [sg_up_s, sg_up_n (by decide)]
  · rw [sg_up_n b, sg_up_n a]
theorem mslp {m : Nat → Int32} {hl : Bool} {T : Nat → Int32} {n : Nat} {g : sg_F} {x0 y : Int32} {i : Nat} (rec : Int32 → sg_F → sg_L → Int32 × sg_F) (h : mCx m hl T n g) (hq : pOk m) (ey : y.toInt = i) (hi : i ≤ 20) (hv : ∀ p : Nat, p < 3 → 0 ≤ (g 12 p).toInt ∧ (g 12 p).toInt ≤ 60) (L : sg_L) : ∃ g1 : sg_F, sX12_weekOf_l72 rec x0 4 y 0 g L = rec (y + 1) g1 L ∧ (∀ p : Nat, p < 3 → g1 12 p = slp (m (64 + p)) (g 12 p) ∧ g1 13 (3 * (i + 1) + p) = slp (m (64 + p)) (g 12 p)) ∧ (∀ j : Nat, j < 3 * (i + 1) → g1 13 j = g 13 j) ∧ ∀ q : Nat, q ≠ 12 → q ≠ 13 → g1 q = g q := by
  have a1 : (0 : Int32) + 1 = 1 := by decide
  have a2 : (1 : Int32) + 1 = 2 := by decide
  have a3 : (2 : Int32) + 1 = 3 := by decide
  have cx : ∀ g' : sg_F, (∀ q : Nat, q ≠ 12 → q ≠ 13 → g' q = g q) → mCx m hl T n g' := fun g' e => h.fr (fun j => by rw [e 1 (by decide) (by decide)]) (fun j => by rw [e 7 (by decide) (by decide)]) (by rw [e 0 (by decide) (by decide)])
  obtain ⟨g1, u1, u2, u3, u4⟩ := mslp1 (x0 := x0) (z := 0) (p := 0) rec h hq ey hi (by decide) (by decide) (hv 0 (by decide)) 3 L
  have v1 : g1 12 1 = g 12 1 := by rw [u2, sgu_n (by decide)]
  obtain ⟨g2, w1, w2, w3, w4⟩ := mslp1 (x0 := x0) (z := 1) (p := 1) rec (cx g1 u4) hq ey hi (by decide) (by decide) (by rw [v1]; exact hv 1 (by decide)) 2 L
  rw [v1] at w2 w3
  have v2 : g2 12 2 = g 12 2 := by rw [w2, sgu_n (by decide), u2, sgu_n (by decide)]
  obtain ⟨g3, x1, x2, x3, x4⟩ := mslp1 (x0 := x0) (z := 2) (p := 2) rec (cx g2 (fun q a b => (w4 q a b).trans (u4 q a b))) hq ey hi (by decide) (by decide) (by rw [v2]; exact hv 2 (by decide)) 1 L
  rw [v2] at x2 x3
  have e4 : sX12_weekOf_l72 rec x0 1 y 3 g3 L = rec (y + 1) g3 L := by
    show sX12_weekOf_h72 rec x0 (sX12_weekOf_l72 rec x0 0) y 3 g3 L = _
    unfold sX12_weekOf_h72; (repeat first | rw [spl_d] | rw [spl2_d])
    rw [if_neg (by decide)]
  refine ⟨g3, by rw [u1, a1, w1, a2, x1, a3, e4], fun p hp => ?_, fun j hj => ?_, fun q a b => ?_⟩
  · rcases (show p = 0 ∨ p = 1 ∨ p = 2 from by omega) with rfl | rfl | rfl
    · refine ⟨?_, ?_⟩
      · rw [x2, sgu_n (by decide), w2, sgu_n (by decide), u2, sgu_s]
      · rw [x3, sgu_n (by omega), w3, sgu_n (by omega), u3, sgu_s]
    · refine ⟨?_, ?_⟩
      · rw [x2, sgu_n (by decide), w2, sgu_s]
      · rw [x3, sgu_n (by omega), w3, sgu_s]
    · refine ⟨?_, ?_⟩
      · rw [x2, sgu_s]
      · rw [x3, sgu_s]
  · rw [x3, sgu_n (by omega), w3, sgu_n (by omega), u3, sgu_n (by omega)]
  · rw [x4 q a b, w4 q a b, u4 q a b]
theorem mhst1 {g : sg_F} {x0 y z : Int32} {i p : Nat} (rec : Int32 → sg_F → sg_L → Int32 × sg_F) (ey : y.toInt = i) (hi : i ≤ 20) (ez : z.toInt = p) (hp : p < 3) (k : Nat) (L : sg_L) : sX12_weekOf_l17 rec x0 (k + 1) y z g L = sX12_weekOf_l17 rec x0 k y (z + 1) (sg_up g 13 (sgu (g 13) (3 * i + p) (g 12 p))) L := by
  have ep := msl1 ez hp
  have e9 : sX12_weekOf_l17 rec x0 (k + 1) y z g L = sX12_weekOf_h17 rec x0 (sX12_weekOf_l17 rec x0 k) y z g L := rfl
  rw [e9]
  unfold sX12_weekOf_h17; (repeat first | rw [spl_d] | rw [spl2_d])
  rw [if_pos (show z.toInt < 3 from by omega), idx3 ey (by omega) ez hp, ep]
theorem mhst {g : sg_F} {x0 y : Int32} {i : Nat} (rec : Int32 → sg_F → sg_L → Int32 × sg_F) (ey : y.toInt = i) (hi : i ≤ 20) (L : sg_L) : ∃ g1 : sg_F, sX12_weekOf_l17 rec x0 4 y 0 g L = sX12_weekOf_l17 rec x0 1 y 3 g1 L ∧ (∀ p : Nat, p < 3 → g1 13 (3 * i + p) = g 12 p) ∧ (∀ j : Nat, j < 3 * i → g1 13 j = g 13 j) ∧ ∀ q : Nat, q ≠ 13 → g1 q = g q := by
  have a1 : (0 : Int32) + 1 = 1 := by decide
  have a2 : (1 : Int32) + 1 = 2 := by decide
  have a3 : (2 : Int32) + 1 = 3 := by decide
  refine ⟨_, (mhst1 (p := 0) rec ey hi (by decide) (by decide) 3 L).trans ((congrArg (fun z => sX12_weekOf_l17 rec x0 3 y z _ L) a1).trans ((mhst1 (p := 1) rec ey hi (by decide) (by decide) 2 L).trans ((congrArg (fun z => sX12_weekOf_l17 rec x0 2 y z _ L) a2).trans ((mhst1 (p := 2) rec ey hi (by decide) (by decide) 1 L).trans (congrArg (fun z => sX12_weekOf_l17 rec x0 1 y z _ L) a3))))), fun p hp => ?_, fun j hj => ?_, fun q a => ?_⟩
  · rcases (show p = 0 ∨ p = 1 ∨ p = 2 from by omega) with rfl | rfl | rfl
    · rw [sg_up_s, sgu_n (by omega), sg_up_s, sgu_n (by omega), sg_up_s, sgu_s]
    · rw [sg_up_s, sgu_n (by omega), sg_up_s, sgu_s, sg_up_n (by decide)]
    · rw [sg_up_s, sgu_s, sg_up_n (by decide), sg_up_n (by decide)]
  · rw [sg_up_s, sgu_n (by omega), sg_up_s, sgu_n (by omega), sg_up_s, sgu_n (by omega)]
  · rw [sg_up_n a, sg_up_n a, sg_up_n a]
theorem whoM_fr {g g1 : sg_F} {x0 y : Int32} {L : sg_L} (k : g1 0 6 = g 0 6) : sX12_whoSits x0 y g1 L = sX12_whoSits x0 y g L := by
  unfold sX12_whoSits sX12_isSitter; (repeat first | rw [spl_d] | rw [spl2_d])
  rw [k, pM_within, pM_within]
theorem shfM_fr {g g1 : sg_F} {x0 : Int32} {L : sg_L} (k : g1 23 = g 23) : sX12_shiftsOf x0 g1 L = sX12_shiftsOf x0 g L := by
  unfold sX12_shiftsOf; (repeat first | rw [spl_d] | rw [spl2_d])
  rw [k]
/-- who the class lets pass, who sits for the reference -/
def hWho (W : Nat → Int32) (S : Int) (N : Nat) (x0 : Int32) (g : sg_F) (LM : sg_L) : Prop := ∀ (y : Int32) (i : Nat), y.toInt = i → i < N → ((W i).toInt = -1 ∧ ((sX12_whoSits x0 y g LM).toInt < 0 ∨ (g 11 i).toInt ≠ 0)) ∨ (0 ≤ (W i).toInt ∧ (W i).toInt < S ∧ sX12_whoSits x0 y g LM = W i ∧ (g 11 i).toInt = 0)
theorem hWho.H {W : Nat → Int32} {S : Int} {N : Nat} {x0 : Int32} {g g1 : sg_F} {LM : sg_L} (h : hWho W S N x0 g LM) (k6 : g1 0 6 = g 0 6) (k11 : ∀ j : Nat, g1 11 j = g 11 j) : hWho W S N x0 g1 LM := by
  intro y i ey hi
  rw [whoM_fr (y := y) k6, k11]
  exact h y i ey hi
/-- one shift -/
theorem hshift {m : Nat → Int32} {S : Int} {hl : Bool} {T : Nat → Int32} {n : Nat} {b1 b2 b3 x0 y : Int32} {f g : sg_F} {W : Nat → Int32} {N i : Nat} (rec : Int32 → sg_F → sg_L → Int32 × sg_F) (L LM : sg_L) (hc : xCx m S hl T n f) (hS : S ≤ 8) (hm : mOk m) (hq : pOk m) (hC : mCx m hl T n g) (hr : wR m b1 b2 b3 f g) (hf : hF f g) (hw : hWho W S N x0 g LM) (ey : y.toInt = i) (hi : i < N) (hN : N ≤ 21) : ∃ g1 : sg_F, sX12_weekOf_l17 rec x0 4 y 0 g LM = rec (y + 1) g1 LM ∧ xCx m S hl T n (sX4_pass (W i) f L) ∧ xP f (sX4_pass (W i) f L) ∧ wR m b1 b2 b3 (sX4_pass (W i) f L) g1 ∧ mH g g1 ∧ (∀ p : Nat, p < 3 → g1 13 (3 * i + p) = g 12 p ∧ g1 13 (3 * (i + 1) + p) = g1 12 p) ∧ ∀ j : Nat, j < 3 * i → g1 13 j = g 13 j := by
  obtain ⟨ga, a1, a2, a3, a4⟩ := mhst (g := g) (x0 := x0) rec ey (by omega) LM
  have Ha : mH g ga := fun k j _ _ hk _ => by rw [a4 k hk]
  have hCa := hC.H Ha
  have hra : wR m b1 b2 b3 f ga := by
    unfold wR mpr
    rw [a4 0 (by decide), a4 12 (by decide)]
    exact hr
  have hfa := hf.K (xP.rf) Ha
  have hwa : hWho W S N x0 ga LM := hw.H (by rw [a4 0 (by decide)]) (fun j => by rw [a4 11 (by decide)])
  have cy := bn_clI (x := y) (by omega)
  -- up to the slip
  have up : ∃ (f1 gb : sg_F), sX12_weekOf_l17 rec x0 1 y 3 ga LM = sX12_weekOf_l72 rec x0 4 y 0 gb LM ∧ sX4_pass (W i) f L = sX4_slip f1 L ∧ xCx m S hl T n f1 ∧ xP f f1 ∧ wR m b1 b2 b3 f1 gb ∧ mH ga gb ∧ gb 13 = ga 13 := by
    have e9 : sX12_weekOf_l17 rec x0 1 y 3 ga LM = sX12_weekOf_h17 rec x0 (sX12_weekOf_l17 rec x0 0) y 3 ga LM := rfl
    rw [e9]
    unfold sX12_weekOf_h17 sX12_weekOf_b69; (repeat first | rw [spl_d] | rw [spl2_d])
    rw [if_neg (by decide), show y.toNatClampNeg = i from by omega]
    rcases hwa y i ey hi with ⟨w1, w2⟩ | ⟨w1, w2, w3, w4⟩
    · have ep : sX4_pass (W i) f L = sX4_slip f L := by
        unfold sX4_pass sX4_pass_b22; (repeat first | rw [spl_d] | rw [spl2_d])
        rw [if_pos w1]
      refine ⟨f, ga, ?_, ep, hc, xP.rf, hra, mH.rf, rfl⟩
      by_cases z : (sX12_whoSits x0 y ga LM).toInt < 0
      · rw [if_pos z]
      · rw [if_neg z, if_neg (w2.resolve_left z)]
    · obtain ⟨f1, p1, p2, p3, p4, p5, p6⟩ := hsits (s := W i) hc hS hm hq hCa hra hfa ⟨w1, w2⟩ L LM
      refine ⟨f1, _, ?_, p1, p2, p3, p4, p5, p6⟩
      rw [w3, if_neg (show ¬ (W i).toInt < 0 from by omega), if_pos w4]
  obtain ⟨f1, gb, b1', b2', b3', b4, b5, b6, b7⟩ := up
  have hCb := hCa.H b6
  obtain ⟨r1, r2, r3, r4, r5, r6⟩ := b5
  obtain ⟨gc, c1, c2, c3, c4⟩ := mslp (x0 := x0) rec hCb hq ey (by omega) (fun p hp => by rw [← r1 p hp]; exact r2 p hp) LM
  obtain ⟨s1, s2⟩ := xsl (m := m) (f := f1) b3'.1 L
  have Hc : mH gb gc := fun k j _ k2 k3 _ => by rw [c4 k k2 k3]
  have cx : ∀ q : Nat, q ≠ 14 → sX4_slip f1 L q = f1 q := s1
  rw [b2']
  refine ⟨gc, by rw [a1, b1', c1], b3'.fr (cx 1 (by decide)) (cx 2 (by decide)) (cx 4 (by decide)) (cx 7 (by decide)) (cx 9 (by decide)), b4.tr ⟨fun q _ _ _ a _ _ => cx q a, fun j _ _ => by rw [cx 13 (by decide)]⟩, ⟨fun p hp => ?_, fun p hp => ?_, ?_, ?_, ?_, ?_⟩, (Ha.tr b6).tr Hc, fun p hp => ⟨?_, ?_⟩, fun j hj => ?_⟩
  · rw [s2 p hp, (c2 p hp).1, r1 p hp]
  · rw [s2 p hp]
    have := slp_b (hq (64 + p) (by omega) (by omega)) (r2 p hp)
    exact ⟨this.1, this.2.1⟩
  · rw [c4 0 (by decide) (by decide), cx 15 (by decide)]; exact r3
  · rw [c4 0 (by decide) (by decide), cx 13 (by decide)]; exact r4
  · rw [mpr_H Hc, mpr_H Hc, mpr_H Hc, c4 0 (by decide) (by decide), cx 15 (by decide), cx 16 (by decide)]; exact r5
  · rw [cx 13 (by decide), cx 15 (by decide)]; exact r6
  · rw [c3 _ (by omega), b7, a2 p hp]
  · rw [(c2 p hp).2, (c2 p hp).1]
  · rw [c3 _ (by omega), b7, a3 j hj]
/-- what is kept of each shift -/
def hHs (W : Nat → Int32) (f : sg_F) (L : sg_L) (i : Nat) (g : sg_F) : Prop := ∀ j : Nat, 1 ≤ j → j ≤ i → ∀ p : Nat, p < 3 → g 13 (3 * j + p) = xSq W f L j 14 p
theorem hweek {m : Nat → Int32} {S : Int} {hl : Bool} {T : Nat → Int32} {n : Nat} {b1 b2 b3 x0 : Int32} {f : sg_F} {W : Nat → Int32} {N : Nat} (L LM : sg_L) (hS : S ≤ 8) (hm : mOk m) (hq : pOk m) (hN : N ≤ 21) : ∀ (k i : Nat) (y : Int32) (g : sg_F), y.toInt = i → i ≤ N → N - i < k → mCx m hl T n g → xCx m S hl T n (xSq W f L i) → wR m b1 b2 b3 (xSq W f L i) g → hF (xSq W f L i) g → hWho W S N x0 g LM → (sX12_shiftsOf x0 g LM).toInt = N → hHs W f L i g → ∃ g1 : sg_F, sX12_weekOf_l6 x0 k y g LM = (g1 0 31 + g1 0 30, g1) ∧ wR m b1 b2 b3 (xSq W f L N) g1 ∧ mH g g1 ∧ hHs W f L N g1 ∧ ∀ j : Nat, i ≤ j → j ≤ N → xCx m S hl T n (xSq W f L j) ∧ xP (xSq W f L i) (xSq W f L j) ∧ ∀ p : Nat, p < 3 → 0 ≤ (xSq W f L j 14 p).toInt ∧ (xSq W f L j 14 p).toInt ≤ 60 := by
  intro k
  induction k with
  | zero => intro i y g _ _ h; exact absurd h (by omega)
  | succ k ih =>
    intro i y g ey hi hk hC hc hr hf hw hsh hh
    have e9 : sX12_weekOf_l6 x0 (k + 1) y g LM = sX12_weekOf_h6 x0 (sX12_weekOf_l6 x0 k) y g LM := rfl
    rw [e9]
    unfold sX12_weekOf_h6; (repeat first | rw [spl_d] | rw [spl2_d])
    by_cases c : i < N
    case neg =>
      have eN : i = N := by omega
      subst eN
      rw [if_neg (show ¬ y.toInt < (sX12_shiftsOf x0 g LM).toInt from by omega)]
      refine ⟨g, rfl, hr, mH.rf, hh, fun j h1 h2 => ?_⟩
      have : j = i := by omega
      subst this
      exact ⟨hc, xP.rf, hr.2.1⟩
    rw [if_pos (show y.toInt < (sX12_shiftsOf x0 g LM).toInt from by omega)]
    obtain ⟨g1, p1, p2, p3, p4, p5, p6, p7⟩ := hshift (x0 := x0) (sX12_weekOf_l6 x0 k) L LM hc hS hm hq hC hr hf hw ey c hN
    rw [p1]
    have k6 : g1 0 6 = g 0 6 := p5 0 6 (by decide) (by decide) (by decide) (Or.inr (by decide))
    have k11 : ∀ j : Nat, g1 11 j = g 11 j := fun j => p5 11 j (by decide) (by decide) (by decide) (Or.inl (by decide))
    have k23 : g1 23 = g 23 := funext fun j => p5 23 j (by decide) (by decide) (by decide) (Or.inl (by decide))
    obtain ⟨g2, q1, q2, q3, q4, q5⟩ := ih (i + 1) (y + 1) g1 (inc1 ey (by omega)) (by omega) (by omega) (hC.H p5) p2 p4 (hf.K p3 p5) (hw.H k6 k11) (by rw [shfM_fr k23]; exact hsh) (by
      intro j h1 h2 p hp
      by_cases z : j = i + 1
      · rw [z, (p6 p hp).2, ← p4.1 p hp]; rfl
      · by_cases z1 : j = i
        · rw [z1, (p6 p hp).1, ← hr.1 p hp]
        · rw [p7 _ (by omega)]
          exact hh j h1 (by omega) p hp)
    refine ⟨g2, q1, q2, p5.tr q3, q4, fun j h1 h2 => ?_⟩
    by_cases z : j = i
    · subst z
      exact ⟨hc, xP.rf, hr.2.1⟩
    · obtain ⟨u1, u2, u3⟩ := q5 j (by omega) h2
      exact ⟨u1, p3.tr u2, u3⟩
