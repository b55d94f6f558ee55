/-! A WEEK is read, a week begins -/
/-- who sits by an element; -1: nobody -/
def wh (S : Int) (w : Int64) : Int32 := if 0 ≤ w.toInt ∧ w.toInt < S then Int64.toInt32 w else -1
/-- how often one sits within so many shifts -/
def tms (W : Nat → Int32) (s : Nat) : Nat → Int32
  | 0 => 0
  | i + 1 => if (W i).toInt = s then tms W s i + 1 else tms W s i
/-- in how many shifts anybody sits -/
def tos (W : Nat → Int32) : Nat → Int32
  | 0 => 0
  | i + 1 => if 0 ≤ (W i).toInt then tos W i + 1 else tos W i
theorem wh_b {S : Int} {w : Int64} (hS : S ≤ 8) : (wh S w).toInt = -1 ∨ (0 ≤ (wh S w).toInt ∧ (wh S w).toInt < S ∧ (wh S w).toInt = w.toInt) := by
  unfold wh
  by_cases c : 0 ≤ w.toInt ∧ w.toInt < S
  · rw [if_pos c]
    have e : (Int64.toInt32 w).toInt = w.toInt := bn_l2i (by omega) (by omega)
    exact Or.inr ⟨by omega, by omega, e⟩
  · rw [if_neg c]; exact Or.inl (by decide)
/-- what reading a week leaves -/
def xRd (W : Nat → Int32) (N : Nat) (f f1 : sg_F) : Prop := (f1 10 2).toInt = N ∧ f1 10 3 = tos W N ∧ (∀ i : Nat, i < N → f1 11 i = W i) ∧ (∀ s : Nat, s < 8 → f1 12 s = tms W s N) ∧ (∀ q : Nat, q ≠ 10 → q ≠ 11 → q ≠ 12 → f1 q = f q) ∧ ∀ j : Nat, j ≠ 2 → j ≠ 3 → f1 10 j = f 10 j
theorem xrd_l {t : Nat} {x1 : Int32} {L : sg_L} {f0 : sg_F} {N : Nat} (hN : N ≤ 21) (hx : 0 ≤ x1.toInt ∧ x1.toInt ≤ 8) (hby : ∀ j : Nat, j < N → -128 ≤ (L (41 + 2 * t) j).toInt ∧ (L (41 + 2 * t) j).toInt ≤ 127) : ∀ (k i : Nat) (y : Int32) (f : sg_F), y.toInt = i → i ≤ N → N - i < k → (f 10 2).toInt = N → f 10 3 = tos (fun j => wh x1.toInt (L (41 + 2 * t) j)) i → (∀ j : Nat, j < i → f 11 j = wh x1.toInt (L (41 + 2 * t) j)) → (∀ s : Nat, s < 8 → f 12 s = tms (fun j => wh x1.toInt (L (41 + 2 * t) j)) s i) → (∀ q : Nat, q ≠ 10 → q ≠ 11 → q ≠ 12 → f q = f0 q) → (∀ j : Nat, j ≠ 2 → j ≠ 3 → f 10 j = f0 10 j) → xRd (fun j => wh x1.toInt (L (41 + 2 * t) j)) N f0 (sX10_reads_l41 t x1 k y f L) := by
  obtain ⟨W, eW⟩ : ∃ z : Nat → Int32, z = fun j => wh x1.toInt (L (41 + 2 * t) j) := ⟨_, rfl⟩
  rw [← eW]
  have eWj : ∀ j : Nat, W j = wh x1.toInt (L (41 + 2 * t) j) := fun j => by rw [eW]
  intro k
  induction k with
  | zero => intro i y f _ _ h; exact absurd h (by omega)
  | succ k ih =>
    intro i y f ey hi hk h2 h3 h11 h12 hfr hfr2
    have e9 : sX10_reads_l41 t x1 (k + 1) y f L = sX10_reads_h41 t x1 (sX10_reads_l41 t x1 k) y f L := rfl
    have cy := bn_clI (x := y) (by omega)
    have eyn : y.toNatClampNeg = i := by omega
    rw [e9]
    unfold sX10_reads_h41 sX10_reads_b112; (repeat first | rw [spl_d] | rw [spl2_d])
    by_cases c : i < N
    case neg =>
      rw [if_neg (by omega)]
      have : i = N := by omega
      subst this
      exact ⟨h2, h3, fun j hj => by rw [h11 j hj, eWj], h12, hfr, hfr2⟩
    rw [if_pos (by omega), eyn]
    have hb := hby i c
    obtain ⟨w, ew⟩ : ∃ z : Int64, z = L (41 + 2 * t) i := ⟨_, rfl⟩
    rw [← ew] at hb ⊢
    have wi : (Int64.toInt32 w).toInt = w.toInt := bn_l2i (by omega) (by omega)
    have hWi : W i = wh x1.toInt w := by rw [eWj, ew]
    have m1 : (-1 : Int32).toInt = -1 := by decide
    -- nobody
    have no : W i = -1 → xRd W N f0 (sX10_reads_l41 t x1 k (y + 1) (sg_up f 11 (sgu (f 11) i (-1))) L) := by
      intro e1
      refine ih (i + 1) (y + 1) _ (inc1 ey (by omega)) (by omega) (by omega) (by rw [sg_up_n (by decide)]; exact h2) ?_ (fun j hj => ?_) (fun s hs => ?_) (fun q a b d => by rw [sg_up_n b]; exact hfr q a b d) (fun j a b => by rw [sg_up_n (by decide)]; exact hfr2 j a b)
      · rw [sg_up_n (by decide), h3]
        show tos W i = if 0 ≤ (W i).toInt then tos W i + 1 else tos W i
        rw [if_neg (by rw [e1]; omega)]
      · rw [sg_up_s]
        by_cases z : j = i
        · rw [z, sgu_s, ← eWj, e1]
        · rw [sgu_n z]; exact h11 j (by omega)
      · rw [sg_up_n (by decide), h12 s hs]
        show tms W s i = if (W i).toInt = s then tms W s i + 1 else tms W s i
        rw [if_neg (by rw [e1]; omega)]
    by_cases c1 : w.toInt < 0
    · rw [if_pos (by omega)]
      exact no (by rw [hWi]; unfold wh; rw [if_neg (by omega)])
    rw [if_neg (by omega)]
    by_cases c2 : w.toInt < x1.toInt
    case neg =>
      rw [if_neg (by omega)]
      exact no (by rw [hWi]; unfold wh; rw [if_neg (by omega)])
    rw [if_pos (by omega)]
    have eW1 : W i = Int64.toInt32 w := by rw [hWi]; unfold wh; rw [if_pos ⟨by omega, c2⟩]
    have cw := bn_clI (x := Int64.toInt32 w) (by omega)
    obtain ⟨s0, es0⟩ : ∃ z : Nat, z = (Int64.toInt32 w).toNatClampNeg := ⟨_, rfl⟩
    rw [← es0]
    refine ih (i + 1) (y + 1) _ (inc1 ey (by omega)) (by omega) (by omega) ?_ ?_ (fun j hj => ?_) (fun s hs => ?_) (fun q a b d => ?_) (fun j a b => ?_)
    · rw [sg_up_s, sgu_n (by decide), sg_up_n (by decide), sg_up_n (by decide)]; exact h2
    · rw [sg_up_s, sgu_s, sg_up_n (by decide), sg_up_n (by decide), h3]
      show tos W i + 1 = if 0 ≤ (W i).toInt then tos W i + 1 else tos W i
      rw [if_pos (by rw [eW1]; omega)]
    · rw [sg_up_n (by decide), sg_up_n (by decide), sg_up_s]
      by_cases z : j = i
      · rw [z, sgu_s, ← eWj, eW1]
      · rw [sgu_n z]; exact h11 j (by omega)
    · rw [sg_up_n (by decide), sg_up_s, sg_up_n (by decide)]
      show _ = if (W i).toInt = s then tms W s i + 1 else tms W s i
      by_cases z : s = s0
      · rw [z, sgu_s, h12 s0 (by omega), if_pos (by rw [eW1]; omega)]
      · rw [sgu_n z, h12 s hs, if_neg (by rw [eW1]; omega)]
    · rw [sg_up_n a, sg_up_n d, sg_up_n b]; exact hfr q a b d
    · rw [sg_up_s, sgu_n b, sg_up_n (by decide), sg_up_n (by decide)]; exact hfr2 j a b
theorem xrd_0 {t : Nat} {x1 : Int32} {L : sg_L} {f0 : sg_F} : ∀ (k i : Nat) (y : Int32) (f : sg_F), y.toInt = i → i ≤ 8 → 8 - i < k → (∀ s : Nat, s < i → f 12 s = 0) → (∀ q : Nat, q ≠ 12 → f q = f0 q) → ∃ f1 : sg_F, sX10_reads_l20 t x1 k y f L = sX10_reads_l41 t x1 22 0 f1 L ∧ (∀ s : Nat, s < 8 → f1 12 s = 0) ∧ ∀ q : Nat, q ≠ 12 → f1 q = f0 q := by
  intro k
  induction k with
  | zero => intro i y f _ _ h; exact absurd h (by omega)
  | succ k ih =>
    intro i y f ey hi hk h12 hfr
    have e9 : sX10_reads_l20 t x1 (k + 1) y f L = sX10_reads_h20 t x1 (sX10_reads_l20 t x1 k) y f L := rfl
    have cy := bn_clI (x := y) (by omega)
    rw [e9]
    unfold sX10_reads_h20; (repeat first | rw [spl_d] | rw [spl2_d])
    by_cases c : i < 8
    case neg => rw [if_neg (by omega)]; exact ⟨f, rfl, fun s hs => h12 s (by omega), hfr⟩
    rw [if_pos (by omega), show y.toNatClampNeg = i from by omega]
    refine ih (i + 1) (y + 1) _ (inc1 ey (by omega)) (by omega) (by omega) (fun s hs => ?_) (fun q hq => by rw [sg_up_n hq]; exact hfr q hq)
    rw [sg_up_s]
    by_cases z : s = i
    · rw [z, sgu_s]
    · rw [sgu_n z]; exact h12 s (by omega)
/-- how many shifts -/
def nsh (len : Int) : Nat := if len < 21 then len.toNat else 21
theorem nsh_le (len : Int) : nsh len ≤ 21 := by
  unfold nsh
  by_cases c : len < 21
  · rw [if_pos c]; omega
  · rw [if_neg c]; omega
theorem nsh_lt {len : Int} {j : Nat} (h : j < nsh len) : (j : Int) < len := by
  unfold nsh at h
  by_cases c : len < 21
  · rw [if_pos c] at h; omega
  · rw [if_neg c] at h; omega
theorem xrd {t : Nat} {x1 : Int32} {L : sg_L} {f : sg_F} (hl : 0 ≤ (f (40 + 2 * t) 2).toInt) (hx : 0 ≤ x1.toInt ∧ x1.toInt ≤ 8) (hby : ∀ j : Nat, (j : Int) < (f (40 + 2 * t) 2).toInt → -128 ≤ (L (41 + 2 * t) j).toInt ∧ (L (41 + 2 * t) j).toInt ≤ 127) : xRd (fun j => wh x1.toInt (L (41 + 2 * t) j)) (nsh (f (40 + 2 * t) 2).toInt) f (sX10_reads t x1 f L) := by
  have k21 : (21 : Int32).toInt = 21 := by decide
  have m := bn_minI (f (40 + 2 * t) 2) 21
  obtain ⟨v, ev⟩ : ∃ z : Int32, z = (if f (40 + 2 * t) 2 < 21 then f (40 + 2 * t) 2 else 21) := ⟨_, rfl⟩
  rw [← ev] at m
  have hv : v.toInt = nsh (f (40 + 2 * t) 2).toInt := by
    unfold nsh
    by_cases c : (f (40 + 2 * t) 2).toInt < 21
    · rw [if_pos c]; omega
    · rw [if_neg c]; omega
  unfold sX10_reads; (repeat first | rw [spl_d] | rw [spl2_d])
  rw [← ev]
  obtain ⟨f2, e2⟩ : ∃ z : sg_F, z = sg_up (sg_up f 10 (sgu (f 10) 2 v)) 10 (sgu (sg_up f 10 (sgu (f 10) 2 v) 10) 3 0) := ⟨_, rfl⟩
  rw [← e2]
  obtain ⟨f1, a1, a2, a3⟩ := xrd_0 (t := t) (x1 := x1) (L := L) (f0 := f2) 9 0 0 f2 (by decide) (by decide) (by decide) (fun s hs => absurd hs (by omega)) (fun _ _ => rfl)
  rw [a1]
  have b2 : f1 10 2 = v := by rw [a3 10 (by decide), e2]; rfl
  have b3 : f1 10 3 = 0 := by rw [a3 10 (by decide), e2]; rfl
  refine xrd_l (nsh_le _) hx (fun j hj => hby j (nsh_lt hj)) 22 0 0 f1 (by decide) (Nat.zero_le _) (by have := nsh_le (f (40 + 2 * t) 2).toInt; omega) (by rw [b2]; exact hv) b3 (fun j hj => absurd hj (by omega)) a2 (fun q h1 _ h3 => ?_) (fun j h2 h3 => ?_)
  · rw [a3 q h3, e2, sg_up_n h1, sg_up_n h1]
  · rw [a3 10 (by decide), e2, sg_up_s, sgu_n h3, sg_up_s, sgu_n h2]
/-! a week begins -/
theorem xst_l {L : sg_L} {f0 : sg_F} : ∀ (k i : Nat) (y : Int32) (f : sg_F), y.toInt = i → i ≤ 3 → 3 - i < k → (∀ p : Nat, p < i → f 14 p = f0 3 p) → (∀ q : Nat, q ≠ 14 → f q = f0 q) → (∀ p : Nat, p < 3 → sX4_standAsNow_l2 k y f L 14 p = f0 3 p) ∧ ∀ q : Nat, q ≠ 14 → sX4_standAsNow_l2 k y f L q = f0 q := by
  intro k
  induction k with
  | zero => intro i y f _ _ h; exact absurd h (by omega)
  | succ k ih =>
    intro i y f ey hi hk h14 hfr
    have e9 : sX4_standAsNow_l2 (k + 1) y f L = sX4_standAsNow_h2 (sX4_standAsNow_l2 k) y f L := rfl
    have cy := bn_clI (x := y) (by omega)
    rw [e9]
    unfold sX4_standAsNow_h2; (repeat first | rw [spl_d] | rw [spl2_d])
    by_cases c : i < 3
    case neg => rw [if_neg (by omega)]; exact ⟨fun p hp => h14 p (by omega), hfr⟩
    rw [if_pos (by omega), show y.toNatClampNeg = i from by omega]
    refine ih (i + 1) (y + 1) _ (inc1 ey (by omega)) (by omega) (by omega) (fun p hp => ?_) (fun q hq => by rw [sg_up_n hq]; exact hfr q hq)
    rw [sg_up_s]
    by_cases z : p = i
    · rw [z, sgu_s, hfr 3 (by decide)]
    · rw [sgu_n z]; exact h14 p (by omega)
theorem xst (f : sg_F) (L : sg_L) : (∀ p : Nat, p < 3 → sX4_standAsNow f L 14 p = f 3 p) ∧ ∀ q : Nat, q ≠ 14 → sX4_standAsNow f L q = f q := xst_l 4 0 0 f (by decide) (by decide) (by decide) (fun p hp => absurd hp (by omega)) (fun _ _ => rfl)
theorem xbg2 {L : sg_L} {f0 : sg_F} : ∀ (k i : Nat) (y : Int32) (f : sg_F), y.toInt = i → i ≤ 8 → 8 - i < k → (∀ s : Nat, s < i → f 16 s = 0) → (∀ q : Nat, q ≠ 16 → f q = f0 q) → ∃ f1 : sg_F, sX4_begin_l32 k y f L = sX4_standAsNow f1 L ∧ (∀ s : Nat, s < 8 → f1 16 s = 0) ∧ ∀ q : Nat, q ≠ 16 → f1 q = f0 q := by
  intro k
  induction k with
  | zero => intro i y f _ _ h; exact absurd h (by omega)
  | succ k ih =>
    intro i y f ey hi hk h16 hfr
    have e9 : sX4_begin_l32 (k + 1) y f L = sX4_begin_h32 (sX4_begin_l32 k) y f L := rfl
    have cy := bn_clI (x := y) (by omega)
    rw [e9]
    unfold sX4_begin_h32; (repeat first | rw [spl_d] | rw [spl2_d])
    by_cases c : i < 8
    case neg => rw [if_neg (by omega)]; exact ⟨f, rfl, fun s hs => h16 s (by omega), hfr⟩
    rw [if_pos (by omega), show y.toNatClampNeg = i from by omega]
    refine ih (i + 1) (y + 1) _ (inc1 ey (by omega)) (by omega) (by omega) (fun s hs => ?_) (fun q hq => by rw [sg_up_n hq]; exact hfr q hq)
    rw [sg_up_s]
    by_cases z : s = i
    · rw [z, sgu_s]
    · rw [sgu_n z]; exact h16 s (by omega)
theorem xbg1 {L : sg_L} {f0 : sg_F} : ∀ (k i : Nat) (y : Int32) (f : sg_F), y.toInt = i → i ≤ 3 → 3 - i < k → (∀ s : Nat, s < i → f 15 s = 0) → (∀ q : Nat, q ≠ 15 → f q = f0 q) → ∃ f1 : sg_F, sX4_begin_l12 k y f L = sX4_begin_l32 9 0 f1 L ∧ (∀ s : Nat, s < 3 → f1 15 s = 0) ∧ ∀ q : Nat, q ≠ 15 → f1 q = f0 q := by
  intro k
  induction k with
  | zero => intro i y f _ _ h; exact absurd h (by omega)
  | succ k ih =>
    intro i y f ey hi hk h15 hfr
    have e9 : sX4_begin_l12 (k + 1) y f L = sX4_begin_h12 (sX4_begin_l12 k) y f L := rfl
    have cy := bn_clI (x := y) (by omega)
    rw [e9]
    unfold sX4_begin_h12; (repeat first | rw [spl_d] | rw [spl2_d])
    by_cases c : i < 3
    case neg => rw [if_neg (by omega)]; exact ⟨f, rfl, fun s hs => h15 s (by omega), hfr⟩
    rw [if_pos (by omega), show y.toNatClampNeg = i from by omega]
    refine ih (i + 1) (y + 1) _ (inc1 ey (by omega)) (by omega) (by omega) (fun s hs => ?_) (fun q hq => by rw [sg_up_n hq]; exact hfr q hq)
    rw [sg_up_s]
    by_cases z : s = i
    · rw [z, sgu_s]
    · rw [sgu_n z]; exact h15 s (by omega)
theorem xbg (f : sg_F) (L : sg_L) : (∀ p : Nat, p < 3 → sX4_begin f L 14 p = f 3 p ∧ sX4_begin f L 15 p = 0) ∧ (∀ s : Nat, s < 8 → sX4_begin f L 16 s = 0) ∧ sX4_begin f L 13 5 = 0 ∧ sX4_begin f L 13 6 = 0 ∧ (∀ j : Nat, j ≠ 5 → j ≠ 6 → sX4_begin f L 13 j = f 13 j) ∧ ∀ q : Nat, q ≠ 13 → q ≠ 14 → q ≠ 15 → q ≠ 16 → sX4_begin f L q = f q := by
  unfold sX4_begin; (repeat first | rw [spl_d] | rw [spl2_d])
  obtain ⟨f0, e0⟩ : ∃ z : sg_F, z = sg_up (sg_up f 13 (sgu (f 13) 5 0)) 13 (sgu (sg_up f 13 (sgu (f 13) 5 0) 13) 6 0) := ⟨_, rfl⟩
  rw [← e0]
  obtain ⟨f1, a1, a2, a3⟩ := xbg1 (L := L) (f0 := f0) 4 0 0 f0 (by decide) (by decide) (by decide) (fun s hs => absurd hs (by omega)) (fun _ _ => rfl)
  obtain ⟨f2, b1, b2, b3⟩ := xbg2 (L := L) (f0 := f1) 9 0 0 f1 (by decide) (by decide) (by decide) (fun s hs => absurd hs (by omega)) (fun _ _ => rfl)
  obtain ⟨c1, c2⟩ := xst f2 L
  rw [a1, b1]
  have h13 : sX4_standAsNow f2 L 13 = f0 13 := by rw [c2 13 (by decide), b3 13 (by decide), a3 13 (by decide)]
  have hq : ∀ q : Nat, q ≠ 13 → f0 q = f q := fun q hq => by rw [e0, sg_up_n hq, sg_up_n hq]
  refine ⟨fun p hp => ⟨?_, ?_⟩, fun s hs => ?_, ?_, ?_, fun j h5 h6 => ?_, fun q h1 h2 h3 h4 => ?_⟩
  · rw [c1 p hp, b3 3 (by decide), a3 3 (by decide), hq 3 (by decide)]
  · rw [c2 15 (by decide), b3 15 (by decide), a2 p hp]
  · rw [c2 16 (by decide), b2 s hs]
  · rw [h13, e0, sg_up_s, sgu_n (by decide), sg_up_s, sgu_s]
  · rw [h13, e0, sg_up_s, sgu_s]
  · rw [h13, e0, sg_up_s, sgu_n h6, sg_up_s, sgu_n h5]
  · rw [c2 q h2, b3 q h4, a3 q h3, hq q h1]
theorem mbg_l {L : sg_L} {g0 : sg_F} : ∀ (k i : Nat) (y : Int32) (g : sg_F), y.toInt = i → i ≤ 3 → 3 - i < k → (∀ p : Nat, p < i → g 12 p = g0 5 p) → (∀ q : Nat, q ≠ 12 → g q = g0 q) → ∃ g1 : sg_F, sX12_beginsWeek_l2 k y g L = sg_up (sg_up (sg_up g1 0 (sgu (g1 0) 29 0)) 0 (sgu (sg_up g1 0 (sgu (g1 0) 29 0) 0) 30 0)) 0 (sgu (sg_up (sg_up g1 0 (sgu (g1 0) 29 0)) 0 (sgu (sg_up g1 0 (sgu (g1 0) 29 0) 0) 30 0) 0) 31 0) ∧ (∀ p : Nat, p < 3 → g1 12 p = g0 5 p) ∧ ∀ q : Nat, q ≠ 12 → g1 q = g0 q := by
  intro k
  induction k with
  | zero => intro i y g _ _ h; exact absurd h (by omega)
  | succ k ih =>
    intro i y g ey hi hk h12 hfr
    have e9 : sX12_beginsWeek_l2 (k + 1) y g L = sX12_beginsWeek_h2 (sX12_beginsWeek_l2 k) y g L := rfl
    have cy := bn_clI (x := y) (by omega)
    rw [e9]
    unfold sX12_beginsWeek_h2; (repeat first | rw [spl_d] | rw [spl2_d])
    by_cases c : i < 3
    case neg => rw [if_neg (by omega)]; exact ⟨g, rfl, fun p hp => h12 p (by omega), hfr⟩
    rw [if_pos (by omega), show y.toNatClampNeg = i from by omega]
    refine ih (i + 1) (y + 1) _ (inc1 ey (by omega)) (by omega) (by omega) (fun p hp => ?_) (fun q hq => by rw [sg_up_n hq]; exact hfr q hq)
    rw [sg_up_s]
    by_cases z : p = i
    · rw [z, sgu_s, hfr 5 (by decide)]
    · rw [sgu_n z]; exact h12 p (by omega)
theorem mbg (g : sg_F) (L : sg_L) : (∀ p : Nat, p < 3 → sX12_beginsWeek g L 12 p = g 5 p) ∧ sX12_beginsWeek g L 0 29 = 0 ∧ sX12_beginsWeek g L 0 30 = 0 ∧ sX12_beginsWeek g L 0 31 = 0 ∧ mH g (sX12_beginsWeek g L) := by
  obtain ⟨g1, a1, a2, a3⟩ := mbg_l (L := L) (g0 := g) 4 0 0 g (by decide) (by decide) (by decide) (fun p hp => absurd hp (by omega)) (fun _ _ => rfl)
  have e0 : sX12_beginsWeek g L = sX12_beginsWeek_l2 4 0 g L := rfl
  rw [e0, a1]
  refine ⟨fun p hp => ?_, ?_, ?_, ?_, ?_⟩
  · rw [sg_up_n (by decide), sg_up_n (by decide), sg_up_n (by decide)]; exact a2 p hp
  · rw [sg_up_s, sgu_n (by decide), sg_up_s, sgu_n (by decide), sg_up_s, sgu_s]
  · rw [sg_up_s, sgu_n (by decide), sg_up_s, sgu_s]
  · rw [sg_up_s, sgu_s]
  · have h1 : mH g g1 := fun k j _ h12 _ _ => by rw [a3 k h12]
    exact ((h1.tr (mH.put (Or.inl rfl))).tr (mH.put (Or.inr (Or.inl rfl)))).tr (mH.put (Or.inr (Or.inr rfl)))
