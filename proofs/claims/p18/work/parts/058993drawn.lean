/-! DRAWN: weeks with draws -/
def dS (W : Nat → Int32) (s : Int32) : Nat → Int32
  | 0 => s
  | i + 1 => if 0 ≤ (W i).toInt then dS W s i * 1103515245 + 12345 else dS W s i
def dV (x : Int32) : Int32 := ((Int32.toUInt32 x >>> (Int32.toUInt32 8 &&& Int32.toUInt32 31)).toInt32) - ((Int32.toUInt32 x >>> (Int32.toUInt32 8 &&& Int32.toUInt32 31)).toInt32) / 12 * 12
/-- this shift is left out -/
def dK (m W : Nat → Int32) (s : Int32) (i : Nat) : Bool := decide (0 ≤ (W i).toInt ∧ (dV (dS W s (i + 1))).toInt < (m (8 * (W i).toNatClampNeg + 7)).toInt)
def dC (m W : Nat → Int32) (s c : Int32) : Nat → Int32
  | 0 => c
  | i + 1 => if dK m W s i = true then dC m W s c i + 1 else dC m W s c i
def dW (m W : Nat → Int32) (s : Int32) (i : Nat) : Int32 := if dK m W s i = true then -1 else W i
/-- the class's week, drawn -/
theorem xdraw {m W : Nat → Int32} {S : Int} {hl : Bool} {T : Nat → Int32} {n N : Nat} {B : sg_F} {L : sg_L} {s c x0 x1 y5 : Int32} (rec : Int32 → Int32 → Int32 → sg_F → sg_L → Int32 × sg_F) (hS : S ≤ 8) (hN : N ≤ 21) (hW : ∀ i : Nat, i < N → (W i).toInt = -1 ∨ (0 ≤ (W i).toInt ∧ (W i).toInt < S)) (h10 : (B 10 2).toInt = N) (h11 : ∀ i : Nat, i < N → B 11 i = W i) (h : ∀ j : Nat, j ≤ N → xCx m S hl T n (xSq (dW m W s) B L j) ∧ xP B (xSq (dW m W s) B L j)) : ∀ (q i : Nat) (y6 : Int32), y6.toInt = i → i ≤ N → N - i < q → sX4_drawWeeks_l25 rec x0 x1 q (dS W s i) (dC m W s c i) y5 y6 (xSq (dW m W s) B L i) L = rec (dS W s N) (dC m W s c N) (y5 + 1) (xSq (dW m W s) B L N) L := by
  intro q
  induction q with
  | zero => intro i y6 _ _ h; exact absurd h (by omega)
  | succ q ih =>
    intro i y ey hi hq
    have e9 : sX4_drawWeeks_l25 rec x0 x1 (q + 1) (dS W s i) (dC m W s c i) y5 y (xSq (dW m W s) B L i) L = sX4_drawWeeks_h25 rec x0 x1 (sX4_drawWeeks_l25 rec x0 x1 q) (dS W s i) (dC m W s c i) y5 y (xSq (dW m W s) B L i) L := rfl
    have cy := bn_clI (x := y) (by omega)
    have eyn : y.toNatClampNeg = i := by omega
    obtain ⟨u1, u2⟩ := h i hi
    have f10 : xSq (dW m W s) B L i 10 = B 10 := u2.1 10 (by decide) (by decide) (by decide) (by decide) (by decide) (by decide)
    have f11 : xSq (dW m W s) B L i 11 = B 11 := u2.1 11 (by decide) (by decide) (by decide) (by decide) (by decide) (by decide)
    rw [e9]
    unfold sX4_drawWeeks_h25 sX4_drawWeeks_b91; (repeat first | rw [spl_d] | rw [spl2_d])
    rw [f10, f11]
    by_cases c1 : i < N
    case neg =>
      rw [if_neg (show ¬ y.toInt < (B 10 2).toInt from by omega)]
      have : i = N := by omega
      subst this
      rfl
    rw [if_pos (show y.toInt < (B 10 2).toInt from by omega), eyn, h11 i c1]
    have ey1 := inc1 ey (by omega)
    have nx := ih (i + 1) (y + 1) ey1 (by omega) (by omega)
    have sS : dS W s (i + 1) = if 0 ≤ (W i).toInt then dS W s i * 1103515245 + 12345 else dS W s i := rfl
    have sC : dC m W s c (i + 1) = if dK m W s i = true then dC m W s c i + 1 else dC m W s c i := rfl
    have sQ : xSq (dW m W s) B L (i + 1) = sX4_pass (dW m W s i) (xSq (dW m W s) B L i) L := rfl
    rcases hW i c1 with w | ⟨w1, w2⟩
    · have k : ¬ dK m W s i = true := fun z => by
        have := of_decide_eq_true z
        omega
      have eW : dW m W s i = W i := if_neg k
      have e1 : W i = -1 := Int32.toInt_inj.mp (by rw [w]; decide)
      rw [if_neg (show ¬ 0 ≤ (W i).toInt from by omega)] at sS
      rw [if_neg k] at sC
      rw [eW] at sQ
      rw [if_pos (show (W i).toInt = -1 from w)]
      rw [sS, sC, sQ] at nx
      exact nx
    · rw [if_neg (show ¬ (W i).toInt = -1 from by omega), numX (w := 7) (by omega) (by decide), u1.1, show (7 : Int32).toNatClampNeg = 7 from by decide]
      rw [if_pos w1] at sS
      have eV : dV (dS W s (i + 1)) = ((Int32.toUInt32 (dS W s i * 1103515245 + 12345) >>> (Int32.toUInt32 8 &&& Int32.toUInt32 31)).toInt32) - ((Int32.toUInt32 (dS W s i * 1103515245 + 12345) >>> (Int32.toUInt32 8 &&& Int32.toUInt32 31)).toInt32) / 12 * 12 := by rw [sS]; rfl
      rw [← eV]
      by_cases k : dK m W s i = true
      · have kk := (of_decide_eq_true k).2
        have eW : dW m W s i = -1 := if_pos k
        rw [if_pos k] at sC
        rw [eW] at sQ
        rw [if_pos kk]
        rw [sS, sC, sQ] at nx
        exact nx
      · have kk : ¬ (dV (dS W s (i + 1))).toInt < (m (8 * (W i).toNatClampNeg + 7)).toInt := fun z => k (decide_eq_true ⟨w1, z⟩)
        have eW : dW m W s i = W i := if_neg k
        rw [if_neg k] at sC
        rw [eW] at sQ
        rw [if_neg kk]
        rw [sS, sC, sQ] at nx
        exact nx
/-- the reference's draws -/
theorem mdraw {m W : Nat → Int32} {S : Int} {hl : Bool} {T : Nat → Int32} {n N : Nat} {g0 : sg_F} {LM : sg_L} {d s c x1 x2 x3 y6 y8 : Int32} (rec : Int32 → Int32 → Int32 → Int32 → sg_F → sg_L → Int32 × sg_F) (hS : S ≤ 8) (hN : N ≤ 21) (hC : mCx m hl T n g0) (hw : hWho W S N d g0 LM) (hsh : (sX12_shiftsOf d g0 LM).toInt = N) (h0 : ∀ j : Nat, g0 11 j = 0) : ∀ (q i : Nat) (y9 : Int32) (g : sg_F), y9.toInt = i → i ≤ N → N - i < q → (∀ k : Nat, k ≠ 11 → g k = g0 k) → (∀ j : Nat, g 11 j = if j < i ∧ dK m W s j = true then 1 else 0) → ∃ g1 : sg_F, sX12_drawn_l69 rec d x1 x2 x3 q (dS W s i) y6 (dC m W s c i) y8 y9 g LM = sX12_drawn_l175 rec d x1 x2 x3 22 (dS W s N) (y6 + (sX12_weekOf d g1 LM).1) (dC m W s c N) y8 0 (sX12_weekOf d g1 LM).2 LM ∧ (∀ k : Nat, k ≠ 11 → g1 k = g0 k) ∧ ∀ j : Nat, g1 11 j = if j < N ∧ dK m W s j = true then 1 else 0 := by
  intro q
  induction q with
  | zero => intro i y9 g _ _ h; exact absurd h (by omega)
  | succ q ih =>
    intro i y g ey hi hq hk h11
    have e9 : sX12_drawn_l69 rec d x1 x2 x3 (q + 1) (dS W s i) y6 (dC m W s c i) y8 y g LM = sX12_drawn_h69 rec d x1 x2 x3 (sX12_drawn_l69 rec d x1 x2 x3 q) (dS W s i) y6 (dC m W s c i) y8 y g LM := rfl
    have cy := bn_clI (x := y) (by omega)
    have eyn : y.toNatClampNeg = i := by omega
    rw [e9]
    unfold sX12_drawn_h69 sX12_drawn_b156; (repeat first | rw [spl_d] | rw [spl2_d])
    rw [shfM_fr (hk 23 (by decide))]
    by_cases c1 : i < N
    case neg =>
      rw [if_neg (show ¬ y.toInt < (sX12_shiftsOf d g0 LM).toInt from by omega)]
      have : i = N := by omega
      subst this
      exact ⟨g, rfl, hk, h11⟩
    rw [if_pos (show y.toInt < (sX12_shiftsOf d g0 LM).toInt from by omega), whoM_fr (show g 0 6 = g0 0 6 from by rw [hk 0 (by decide)]), eyn]
    have ey1 := inc1 ey (by omega)
    have sS : dS W s (i + 1) = if 0 ≤ (W i).toInt then dS W s i * 1103515245 + 12345 else dS W s i := rfl
    have sC : dC m W s c (i + 1) = if dK m W s i = true then dC m W s c i + 1 else dC m W s c i := rfl
    rcases hw y i ey c1 with ⟨w1, w2⟩ | ⟨w1, w2, w3, w4⟩
    · have w2 : (sX12_whoSits d y g0 LM).toInt < 0 := w2.resolve_right (fun z => z (by rw [h0]; decide))
      have k : ¬ dK m W s i = true := fun z => by
        have := of_decide_eq_true z
        omega
      rw [if_neg (show ¬ 0 ≤ (W i).toInt from by omega)] at sS
      rw [if_neg k] at sC
      rw [if_pos w2]
      have nx := ih (i + 1) (y + 1) g ey1 (by omega) (by omega) hk (fun j => by
        rw [h11 j]
        by_cases z : j = i
        · rw [z, if_neg (fun w => k w.2), if_neg (fun w => k w.2)]
        · exact ite_iff ⟨fun w => ⟨by omega, w.2⟩, fun w => ⟨by omega, w.2⟩⟩)
      rw [sS, sC] at nx
      exact nx
    · rw [w3, if_neg (show ¬ (W i).toInt < 0 from by omega), numM (w := 7) (by omega) (by decide), show (7 : Int32).toNatClampNeg = 7 from by decide, hk 1 (by decide), hC.1 _ 7 (by have := bn_clI w1; omega) (by decide)]
      rw [if_pos w1] at sS
      have eV : dV (dS W s (i + 1)) = ((Int32.toUInt32 (dS W s i * 1103515245 + 12345) >>> (Int32.toUInt32 8 &&& Int32.toUInt32 31)).toInt32) - ((Int32.toUInt32 (dS W s i * 1103515245 + 12345) >>> (Int32.toUInt32 8 &&& Int32.toUInt32 31)).toInt32) / 12 * 12 := by rw [sS]; rfl
      rw [← eV]
      have set1 : ∀ v : Int32, v = (if dK m W s i = true then 1 else 0) → ∀ j : Nat, sg_up g 11 (sgu (g 11) i v) 11 j = if j < i + 1 ∧ dK m W s j = true then 1 else 0 := fun v ev j => by
        rw [sg_up_s]
        by_cases z : j = i
        · rw [z, sgu_s, ev]
          exact ite_iff ⟨fun w => ⟨by omega, w⟩, fun w => w.2⟩
        · rw [sgu_n z, h11 j]
          exact ite_iff ⟨fun w => ⟨by omega, w.2⟩, fun w => ⟨by omega, w.2⟩⟩
      by_cases k : dK m W s i = true
      · have kk := (of_decide_eq_true k).2
        rw [if_pos k] at sC
        rw [if_pos kk]
        have nx := ih (i + 1) (y + 1) _ ey1 (by omega) (by omega) (fun k1 hk1 => by rw [sg_up_n hk1]; exact hk k1 hk1) (set1 1 (by rw [if_pos k]))
        rw [sS, sC] at nx
        exact nx
      · have kk : ¬ (dV (dS W s (i + 1))).toInt < (m (8 * (W i).toNatClampNeg + 7)).toInt := fun z => k (decide_eq_true ⟨w1, z⟩)
        rw [if_neg k] at sC
        rw [if_neg kk]
        have nx := ih (i + 1) (y + 1) _ ey1 (by omega) (by omega) (fun k1 hk1 => by rw [sg_up_n hk1]; exact hk k1 hk1) (set1 0 (by rw [if_neg k]))
        rw [sS, sC] at nx
        exact nx
/-- the marks of a drawn week are taken away -/
theorem mzero {rec : Int32 → Int32 → Int32 → Int32 → sg_F → sg_L → Int32 × sg_F} {d x1 x2 x3 a b c y8 : Int32} {LM : sg_L} {g0 : sg_F} : ∀ (q i : Nat) (y : Int32) (g : sg_F), y.toInt = i → i ≤ 21 → 21 - i < q → (∀ k : Nat, k ≠ 11 → g k = g0 k) → (∀ j : Nat, j < i → g 11 j = 0) → (∀ j : Nat, 21 ≤ j → g 11 j = 0) → ∃ g1 : sg_F, sX12_drawn_l175 rec d x1 x2 x3 q a b c y8 y g LM = rec a b c (y8 + 1) g1 LM ∧ (∀ k : Nat, k ≠ 11 → g1 k = g0 k) ∧ ∀ j : Nat, g1 11 j = 0 := by
  intro q
  induction q with
  | zero => intro i y g _ _ h; exact absurd h (by omega)
  | succ q ih =>
    intro i y g ey hi hq hk h1 h2
    have e9 : sX12_drawn_l175 rec d x1 x2 x3 (q + 1) a b c y8 y g LM = sX12_drawn_h175 rec d x1 x2 x3 (sX12_drawn_l175 rec d x1 x2 x3 q) a b c y8 y g LM := rfl
    have cy := bn_clI (x := y) (by omega)
    have eyn : y.toNatClampNeg = i := by omega
    rw [e9]
    unfold sX12_drawn_h175; (repeat first | rw [spl_d] | rw [spl2_d])
    by_cases c1 : i < 21
    · rw [if_pos (show y.toInt < 21 from by omega), eyn]
      refine ih (i + 1) (y + 1) _ (inc1 ey (by omega)) (by omega) (by omega) (fun k hk1 => by rw [sg_up_n hk1]; exact hk k hk1) (fun j hj => ?_) (fun j hj => ?_)
      · rw [sg_up_s]
        by_cases z : j = i
        · rw [z, sgu_s]
        · rw [sgu_n z]; exact h1 j (by omega)
      · rw [sg_up_s, sgu_n (by omega)]; exact h2 j hj
    · rw [if_neg (show ¬ y.toInt < 21 from by omega)]
      exact ⟨g, rfl, hk, fun j => by
        by_cases z : j < 21
        · exact h1 j (by omega)
        · exact h2 j (by omega)⟩
