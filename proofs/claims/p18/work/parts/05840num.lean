/-! SITTERS' AND PARTS' NUMBERS, CHANGES -/
/-- the reference's place of a number, by the class's -/
def npl (p : Nat) : Nat := if p < 64 then 8 * (p % 8) + p / 8 else p
theorem npl_s {a b : Nat} (ha : a < 8) (hb : b < 8) : npl (8 * a + b) = 8 * b + a := by
  unfold npl
  rw [if_pos (by omega)]
  omega
theorem npl_t {p : Nat} (h : 64 ≤ p) : npl p = p := by
  unfold npl
  rw [if_neg (by omega)]
theorem npl_lt {p : Nat} (h : p < 71) : npl p < 71 := by
  unfold npl
  by_cases c : p < 64
  · rw [if_pos c]; omega
  · rw [if_neg c]; exact h
theorem npl_npl {p : Nat} : npl (npl p) = p := by
  unfold npl
  by_cases c : p < 64
  · rw [if_pos c, if_pos (by omega)]; omega
  · rw [if_neg c, if_neg c]
theorem npl_inj {p q : Nat} (h : npl p = npl q) : p = q := by rw [← npl_npl (p := p), h, npl_npl]
/-- forgetting touches the kept losses alone -/
theorem bX_forget_l (x : Int32) (L : sg_L) (k : Nat) (hk : k ≠ 9) : ∀ (n : Nat) (a b : Int32) (f : sg_F), sX0_forget_l14 x n a b f L k = f k := by
  intro n
  induction n with
  | zero => intro a b f; rfl
  | succ n ih =>
    intro a b f
    show sX0_forget_h14 x (sX0_forget_l14 x n) a b f L k = f k
    unfold sX0_forget_h14; (repeat first | rw [spl_d] | rw [spl2_d])
    by_cases c : b.toInt < a.toInt
    · rw [if_pos c, ih, sg_up_n hk]
    · rw [if_neg c]
theorem bX_forget (x : Int32) (f : sg_F) (L : sg_L) (k : Nat) (hk : k ≠ 9) : sX0_forget x f L k = f k := by
  unfold sX0_forget; (repeat first | rw [spl_d] | rw [spl2_d])
  exact bX_forget_l x L k hk _ _ _ f
theorem bX_becomes (p v : Int32) (f : sg_F) (L : sg_L) : sX0_becomes p v f L 2 = sgu (f 2) p.toNatClampNeg v ∧ ∀ k : Nat, k ≠ 9 → k ≠ 2 → sX0_becomes p v f L k = f k := by
  unfold sX0_becomes; (repeat first | rw [spl_d] | rw [spl2_d])
  by_cases c : p.toInt < 64
  · rw [if_pos c]
    exact ⟨by rw [bX_forget _ _ _ 2 (by decide), sg_up_s], fun k h1 h2 => by rw [bX_forget _ _ _ k h1, sg_up_n h2]⟩
  · rw [if_neg c]
    exact ⟨sg_up_s, fun k _ h2 => sg_up_n h2⟩
/-! where a number lies -/
theorem bX_placeOf (a w : Int32) (f : sg_F) (L : sg_L) (hs : 0 ≤ (f 1 3).toInt ∧ (f 1 3).toInt ≤ 8) : (0 ≤ w.toInt ∧ w.toInt < 8 ∧ 0 ≤ a.toInt ∧ a.toInt < (f 1 3).toInt ∧ (sX0_placeOf a w f L).toInt = 8 * a.toInt + w.toInt) ∨ (w.toInt = 10 ∧ a.toInt = 0 ∧ (sX0_placeOf a w f L).toInt = 70) ∨ (w.toInt = 9 ∧ 0 ≤ a.toInt ∧ a.toInt ≤ 2 ∧ (sX0_placeOf a w f L).toInt = 67 + a.toInt) ∨ (w.toInt = 8 ∧ 0 ≤ a.toInt ∧ a.toInt ≤ 2 ∧ (sX0_placeOf a w f L).toInt = 64 + a.toInt) ∨ (¬ (0 ≤ w.toInt ∧ w.toInt < 8 ∧ 0 ≤ a.toInt ∧ a.toInt < (f 1 3).toInt) ∧ ¬ (w.toInt = 10 ∧ a.toInt = 0) ∧ ¬ ((w.toInt = 8 ∨ w.toInt = 9) ∧ 0 ≤ a.toInt ∧ a.toInt ≤ 2) ∧ sX0_placeOf a w f L = -1) := by
  have k8 : (8 : Int32).toInt = 8 := by decide
  have k67 : (67 : Int32).toInt = 67 := by decide
  have k64 : (64 : Int32).toInt = 64 := by decide
  have k70 : (70 : Int32).toInt = 70 := by decide
  have m1 : (-1 : Int32).toInt = -1 := by decide
  unfold sX0_placeOf; (repeat first | rw [spl_d] | rw [spl2_d])
  by_cases h1 : a.toInt < 0
  · rw [if_pos h1]; exact Or.inr (Or.inr (Or.inr (Or.inr ⟨by omega, by omega, by omega, rfl⟩)))
  rw [if_neg h1]
  by_cases h2 : w.toInt < 0
  · rw [if_pos h2]; exact Or.inr (Or.inr (Or.inr (Or.inr ⟨by omega, by omega, by omega, rfl⟩)))
  rw [if_neg h2]
  by_cases h3 : 10 < w.toInt
  · rw [if_pos h3]; exact Or.inr (Or.inr (Or.inr (Or.inr ⟨by omega, by omega, by omega, rfl⟩)))
  rw [if_neg h3]
  by_cases h4 : w.toInt < 8
  · rw [if_pos h4]
    by_cases h5 : a.toInt < (f 1 3).toInt
    · have e1 : (a * 8).toInt = a.toInt * 8 := bn_mulI k8 (by omega) (by omega)
      have e2 : (a * 8 + w).toInt = a.toInt * 8 + w.toInt := (bn_addI (by omega) (by omega)).trans (by omega)
      rw [if_pos h5]; exact Or.inl ⟨by omega, h4, by omega, h5, by omega⟩
    · rw [if_neg h5]; exact Or.inr (Or.inr (Or.inr (Or.inr ⟨by omega, by omega, by omega, rfl⟩)))
  rw [if_neg h4]
  by_cases h5 : w.toInt = 10
  · rw [if_pos h5]
    by_cases h6 : a.toInt = 0
    · rw [if_pos h6]; exact Or.inr (Or.inl ⟨h5, h6, k70⟩)
    · rw [if_neg h6]; exact Or.inr (Or.inr (Or.inr (Or.inr ⟨by omega, by omega, by omega, rfl⟩)))
  rw [if_neg h5]
  by_cases h6 : a.toInt < 3
  · rw [if_pos h6]
    by_cases h7 : w.toInt = 9
    · have e1 : (67 + a : Int32).toInt = 67 + a.toInt := (bn_addI (by omega) (by omega)).trans (by omega)
      rw [if_pos h7]; exact Or.inr (Or.inr (Or.inl ⟨h7, by omega, by omega, e1⟩))
    · have e1 : (64 + a : Int32).toInt = 64 + a.toInt := (bn_addI (by omega) (by omega)).trans (by omega)
      rw [if_neg h7]; exact Or.inr (Or.inr (Or.inr (Or.inl ⟨by omega, by omega, by omega, e1⟩)))
  · rw [if_neg h6]; exact Or.inr (Or.inr (Or.inr (Or.inr ⟨by omega, by omega, by omega, rfl⟩)))
theorem pM_isSitter (x : Int64) (f : sg_F) (L : sg_L) (hs : 0 ≤ (f 0 6).toInt ∧ (f 0 6).toInt ≤ 8) : sX12_isSitter x f L = if 0 ≤ x.toInt ∧ x.toInt < (f 0 6).toInt then 1 else 0 := by
  have k0 : (0 : Int64).toInt = 0 := by decide
  have k1 : (1 : Int32).toInt = 1 := by decide
  have e1 := Int32.toInt_toInt64 (f 0 6 - 1)
  have e2 : (f 0 6 - 1).toInt = (f 0 6).toInt - 1 := (bn_subI (by omega) (by omega)).trans (by omega)
  unfold sX12_isSitter; (repeat first | rw [spl_d] | rw [spl2_d])
  rw [pM_within, ite_b]
  exact ite_iff (by omega)
theorem pM_isPart (x : Int32) (f : sg_F) (L : sg_L) : sX12_isPart x f L = if 0 ≤ x.toInt ∧ x.toInt ≤ 2 then 1 else 0 := by
  have k0 : (0 : Int64).toInt = 0 := by decide
  have k2 : (2 : Int64).toInt = 2 := by decide
  have e := Int32.toInt_toInt64 x
  unfold sX12_isPart; (repeat first | rw [spl_d] | rw [spl2_d])
  rw [pM_within, ite_b]
  exact ite_iff (by omega)
theorem pM_isSetting (x : Int64) (f : sg_F) (L : sg_L) : sX12_isSetting x f L = if 0 ≤ x.toInt ∧ x.toInt ≤ 60 then 1 else 0 := by
  have k0 : (0 : Int64).toInt = 0 := by decide
  have k2 : (60 : Int64).toInt = 60 := by decide
  unfold sX12_isSetting; (repeat first | rw [spl_d] | rw [spl2_d])
  rw [pM_within, ite_b]
  exact ite_iff (by omega)
theorem bM_placeOf (a w : Int32) (f : sg_F) (L : sg_L) (hs : 0 ≤ (f 0 6).toInt ∧ (f 0 6).toInt ≤ 8) : (0 ≤ w.toInt ∧ w.toInt < 8 ∧ 0 ≤ a.toInt ∧ a.toInt < (f 0 6).toInt ∧ (sX12_placeOf a w f L).toInt = 8 * w.toInt + a.toInt) ∨ (w.toInt = 10 ∧ a.toInt = 0 ∧ (sX12_placeOf a w f L).toInt = 70) ∨ (w.toInt = 9 ∧ 0 ≤ a.toInt ∧ a.toInt ≤ 2 ∧ (sX12_placeOf a w f L).toInt = 67 + a.toInt) ∨ (w.toInt = 8 ∧ 0 ≤ a.toInt ∧ a.toInt ≤ 2 ∧ (sX12_placeOf a w f L).toInt = 64 + a.toInt) ∨ (¬ (0 ≤ w.toInt ∧ w.toInt < 8 ∧ 0 ≤ a.toInt ∧ a.toInt < (f 0 6).toInt) ∧ ¬ (w.toInt = 10 ∧ a.toInt = 0) ∧ ¬ ((w.toInt = 8 ∨ w.toInt = 9) ∧ 0 ≤ a.toInt ∧ a.toInt ≤ 2) ∧ sX12_placeOf a w f L = -1) := by
  have j0 : (0 : Int64).toInt = 0 := by decide
  have j7 : (7 : Int64).toInt = 7 := by decide
  have j8 : (8 : Int64).toInt = 8 := by decide
  have j9 : (9 : Int64).toInt = 9 := by decide
  have k8 : (8 : Int32).toInt = 8 := by decide
  have k3 : (3 : Int32).toInt = 3 := by decide
  have k64 : (64 : Int32).toInt = 64 := by decide
  have k70 : (70 : Int32).toInt = 70 := by decide
  have ew := Int32.toInt_toInt64 w
  have ea := Int32.toInt_toInt64 a
  unfold sX12_placeOf; (repeat first | rw [spl_d] | rw [spl2_d])
  rw [pM_within, pM_within, pM_isSitter _ _ _ hs, pM_isPart, j0, j7, j8, j9, ew, ea]
  by_cases h1 : 0 ≤ w.toInt ∧ w.toInt ≤ 7
  · rw [if_pos h1, if_pos rfl]
    by_cases h2 : 0 ≤ a.toInt ∧ a.toInt < (f 0 6).toInt
    · have e1 : (8 * w).toInt = 8 * w.toInt := bn_mulJ k8 (by omega) (by omega)
      have e2 : (8 * w + a).toInt = 8 * w.toInt + a.toInt := (bn_addI (by omega) (by omega)).trans (by omega)
      rw [if_pos h2, if_pos rfl]; exact Or.inl ⟨by omega, by omega, h2.1, h2.2, e2⟩
    · rw [if_neg h2, if_neg zk0]; exact Or.inr (Or.inr (Or.inr (Or.inr ⟨by omega, by omega, by omega, rfl⟩)))
  rw [if_neg h1, if_neg zk0]
  by_cases h2 : 8 ≤ w.toInt ∧ w.toInt ≤ 9
  · rw [if_pos h2, if_pos rfl]
    by_cases h3 : 0 ≤ a.toInt ∧ a.toInt ≤ 2
    · have e1 : (w - 8).toInt = w.toInt - 8 := (bn_subI (by omega) (by omega)).trans (by omega)
      have e2 : (3 * (w - 8)).toInt = 3 * (w - 8).toInt := bn_mulJ k3 (by omega) (by omega)
      have e3 : (64 + 3 * (w - 8)).toInt = 64 + (3 * (w - 8)).toInt := (bn_addI (by omega) (by omega)).trans (by omega)
      have e4 : (64 + 3 * (w - 8) + a).toInt = (64 + 3 * (w - 8)).toInt + a.toInt := (bn_addI (by omega) (by omega)).trans (by omega)
      rw [if_pos h3, if_pos rfl]
      by_cases h4 : w.toInt = 9
      · exact Or.inr (Or.inr (Or.inl ⟨h4, h3.1, h3.2, by omega⟩))
      · exact Or.inr (Or.inr (Or.inr (Or.inl ⟨by omega, h3.1, h3.2, by omega⟩)))
    · rw [if_neg h3, if_neg zk0]; exact Or.inr (Or.inr (Or.inr (Or.inr ⟨by omega, by omega, by omega, rfl⟩)))
  rw [if_neg h2, if_neg zk0]
  by_cases h3 : w.toInt = 10
  · rw [if_pos h3]
    by_cases h4 : a.toInt = 0
    · rw [if_pos h4]; exact Or.inr (Or.inl ⟨h3, h4, k70⟩)
    · rw [if_neg h4]; exact Or.inr (Or.inr (Or.inr (Or.inr ⟨by omega, by omega, by omega, rfl⟩)))
  · rw [if_neg h3]; exact Or.inr (Or.inr (Or.inr (Or.inr ⟨by omega, by omega, by omega, rfl⟩)))
/-- least and most of a number, by what it is -/
def mlo (w : Int) : Int := if w = 5 then 1 else 0
def mhi (w : Int) : Int := if w = 3 ∨ w = 4 ∨ w = 9 then 9 else if w = 5 ∨ w = 7 then 12 else if w = 8 then 3 else if w = 10 then 99 else 60
theorem zLM {w : Int32} (h : 0 ≤ w.toInt ∧ w.toInt ≤ 10) : (zLEAST w.toNatClampNeg).toInt = mlo w.toInt ∧ (zMOST w.toNatClampNeg).toInt = mhi w.toInt := by
  rcases (show w.toInt = 0 ∨ w.toInt = 1 ∨ w.toInt = 2 ∨ w.toInt = 3 ∨ w.toInt = 4 ∨ w.toInt = 5 ∨ w.toInt = 6 ∨ w.toInt = 7 ∨ w.toInt = 8 ∨ w.toInt = 9 ∨ w.toInt = 10 from by omega) with c | c | c | c | c | c | c | c | c | c | c
  · obtain rfl : w = 0 := Int32.toInt_inj.mp (c.trans (by decide)); exact ⟨by decide, by decide⟩
  · obtain rfl : w = 1 := Int32.toInt_inj.mp (c.trans (by decide)); exact ⟨by decide, by decide⟩
  · obtain rfl : w = 2 := Int32.toInt_inj.mp (c.trans (by decide)); exact ⟨by decide, by decide⟩
  · obtain rfl : w = 3 := Int32.toInt_inj.mp (c.trans (by decide)); exact ⟨by decide, by decide⟩
  · obtain rfl : w = 4 := Int32.toInt_inj.mp (c.trans (by decide)); exact ⟨by decide, by decide⟩
  · obtain rfl : w = 5 := Int32.toInt_inj.mp (c.trans (by decide)); exact ⟨by decide, by decide⟩
  · obtain rfl : w = 6 := Int32.toInt_inj.mp (c.trans (by decide)); exact ⟨by decide, by decide⟩
  · obtain rfl : w = 7 := Int32.toInt_inj.mp (c.trans (by decide)); exact ⟨by decide, by decide⟩
  · obtain rfl : w = 8 := Int32.toInt_inj.mp (c.trans (by decide)); exact ⟨by decide, by decide⟩
  · obtain rfl : w = 9 := Int32.toInt_inj.mp (c.trans (by decide)); exact ⟨by decide, by decide⟩
  · obtain rfl : w = 10 := Int32.toInt_inj.mp (c.trans (by decide)); exact ⟨by decide, by decide⟩
theorem pX_fits {w : Int32} (v : Int32) (f : sg_F) (L : sg_L) (h : 0 ≤ w.toInt ∧ w.toInt ≤ 10) : sX11_fits w v f L = if mlo w.toInt ≤ v.toInt ∧ v.toInt ≤ mhi w.toInt then 1 else 0 := by
  obtain ⟨a, b⟩ := zLM h
  unfold sX11_fits; (repeat first | rw [spl_d] | rw [spl2_d])
  rw [a, b, if_neg (by omega), if_pos (by omega)]
  by_cases c : v.toInt < mlo w.toInt
  · rw [if_pos c, if_neg (by omega)]
  rw [if_neg c]
  by_cases d : mhi w.toInt < v.toInt
  · rw [if_pos d, if_neg (by omega)]
  · rw [if_neg d, if_pos (by omega)]
theorem pM_most {w : Int32} (f : sg_F) (L : sg_L) : (sX12_mostOf w f L).toInt = mhi w.toInt := by
  have k9 : (9 : Int32).toInt = 9 := by decide
  have k12 : (12 : Int32).toInt = 12 := by decide
  have k3 : (3 : Int32).toInt = 3 := by decide
  have k99 : (99 : Int32).toInt = 99 := by decide
  have k60 : (60 : Int32).toInt = 60 := by decide
  unfold sX12_mostOf mhi
  (repeat' split) <;> omega
/-- sitters and numbers of both are the same -/
def rNum (fX fM : sg_F) : Prop := (fX 1 3).toInt = (fM 0 6).toInt ∧ (∀ p : Nat, p < 71 → fX 2 p = fM 1 (npl p)) ∧ ∀ s : Nat, (fX 1 3).toInt ≤ (s : Int) → s < 8 → fX 2 (8 * s + 6) = 0 ∧ fX 2 (8 * s + 7) = 0
/-- changes of both are the same -/
def rChg (fX fM : sg_F) : Prop := (fX 32 3).toInt = (fM 0 5).toInt ∧ (fX 32 4).toInt = (fM 0 4).toInt ∧ ∀ d : Nat, (d : Int) < (fX 32 4).toInt → (fM 2 d).toNatClampNeg = npl (fX 33 d).toNatClampNeg ∧ fX 34 d = fM 3 d ∧ fX 35 d = fM 4 d ∧ ((fX 33 d).toInt < 64 → (fX 33 d).toInt / 8 < (fX 1 3).toInt)
theorem rNum.fr {fX fX1 fM fM1 : sg_F} (h : rNum fX fM) (a : fX1 1 3 = fX 1 3) (b : ∀ j : Nat, fX1 2 j = fX 2 j) (c : fM1 0 6 = fM 0 6) (d : ∀ j : Nat, fM1 1 j = fM 1 j) : rNum fX1 fM1 := by
  refine ⟨by rw [a, c]; exact h.1, fun p hp => by rw [b, d]; exact h.2.1 p hp, fun s h1 h2 => ?_⟩
  rw [a] at h1
  rw [b, b]
  exact h.2.2 s h1 h2
theorem rChg.fr {fX fX1 fM fM1 : sg_F} (h : rChg fX fM) (a0 : fX1 1 3 = fX 1 3) (a1 : fX1 32 3 = fX 32 3) (a2 : fX1 32 4 = fX 32 4) (a3 : ∀ j : Nat, fX1 33 j = fX 33 j) (a4 : ∀ j : Nat, fX1 34 j = fX 34 j) (a5 : ∀ j : Nat, fX1 35 j = fX 35 j) (b1 : fM1 0 5 = fM 0 5) (b2 : fM1 0 4 = fM 0 4) (b3 : ∀ j : Nat, fM1 2 j = fM 2 j) (b4 : ∀ j : Nat, fM1 3 j = fM 3 j) (b5 : ∀ j : Nat, fM1 4 j = fM 4 j) : rChg fX1 fM1 := by
  refine ⟨by rw [a1, b1]; exact h.1, by rw [a2, b2]; exact h.2.1, fun d hd => ?_⟩
  rw [a2] at hd
  rw [a0, a3, a4, a5, b3, b4, b5]
  exact h.2.2 d hd
/-- more sitters: the changes stand -/
theorem rChg.more {fX fX1 fM fM1 : sg_F} (h : rChg fX fM) (a0 : (fX 1 3).toInt ≤ (fX1 1 3).toInt) (a1 : fX1 32 3 = fX 32 3) (a2 : fX1 32 4 = fX 32 4) (a3 : ∀ j : Nat, fX1 33 j = fX 33 j) (a4 : ∀ j : Nat, fX1 34 j = fX 34 j) (a5 : ∀ j : Nat, fX1 35 j = fX 35 j) (b1 : fM1 0 5 = fM 0 5) (b2 : fM1 0 4 = fM 0 4) (b3 : ∀ j : Nat, fM1 2 j = fM 2 j) (b4 : ∀ j : Nat, fM1 3 j = fM 3 j) (b5 : ∀ j : Nat, fM1 4 j = fM 4 j) : rChg fX1 fM1 := by
  refine ⟨by rw [a1, b1]; exact h.1, by rw [a2, b2]; exact h.2.1, fun d hd => ?_⟩
  rw [a2] at hd
  rw [a3, a4, a5, b3, b4, b5]
  obtain ⟨q1, q2, q3, q4⟩ := h.2.2 d hd
  exact ⟨q1, q2, q3, fun z => Int.lt_of_lt_of_le (q4 z) a0⟩
theorem rNum.zero : rNum f0X f0M := by
  refine ⟨by decide, fun p hp => ?_, fun s _ hs => ?_⟩
  · have hz : ∀ q : Fin 71, f0X 2 q.1 = f0M 1 (npl q.1) := by decide
    exact hz ⟨p, hp⟩
  · have hz : ∀ q : Fin 8, f0X 2 (8 * q.1 + 6) = 0 ∧ f0X 2 (8 * q.1 + 7) = 0 := by decide
    exact hz ⟨s, hs⟩
theorem rChg.zero : rChg f0X f0M := ⟨by decide, by decide, fun d h => absurd h (by rw [show ((f0X 32 4).toInt) = 0 from by decide]; omega)⟩
/-- one number becomes v on both sides -/
theorem rNum.put {fX fX1 fM fM1 : sg_F} (h : rNum fX fM) {p q v : Int32} (hp : 0 ≤ p.toInt ∧ p.toInt < 71) (hq : q.toNatClampNeg = npl p.toNatClampNeg) (hs : p.toInt < 64 → p.toInt / 8 < (fX 1 3).toInt) (a : fX1 1 3 = fX 1 3) (b : fX1 2 = sgu (fX 2) p.toNatClampNeg v) (c : fM1 0 6 = fM 0 6) (d : fM1 1 = sgu (fM 1) q.toNatClampNeg v) : rNum fX1 fM1 := by
  have e := bn_clI hp.1
  refine ⟨by rw [a, c]; exact h.1, fun i hi => ?_, fun s h1 h2 => ?_⟩
  · rw [b, d, hq]
    by_cases z : i = p.toNatClampNeg
    · rw [z, sgu_s, sgu_s]
    · rw [sgu_n z, sgu_n (fun w => z (npl_inj w))]
      exact h.2.1 i hi
  · rw [a] at h1
    rw [b, sgu_n (by omega), sgu_n (by omega)]
    exact h.2.2 s h1 h2
/-! a change comes -/
theorem bX_drop (f : sg_F) (L : sg_L) : sX1_dropOldest f L 33 = va_cpy (f 33) (f 33) 1 0 39 ∧ sX1_dropOldest f L 34 = va_cpy (f 34) (f 34) 1 0 39 ∧ sX1_dropOldest f L 35 = va_cpy (f 35) (f 35) 1 0 39 ∧ sX1_dropOldest f L 32 = sgu (f 32) 3 (f 32 3 - 1) ∧ ∀ k : Nat, k ≠ 32 → k ≠ 33 → k ≠ 34 → k ≠ 35 → sX1_dropOldest f L k = f k := by
  unfold sX1_dropOldest; (repeat first | rw [spl_d] | rw [spl2_d])
  refine ⟨?_, ?_, ?_, ?_, fun k h1 h2 h3 h4 => ?_⟩
  · rw [sg_up_n (by decide), sg_up_n (by decide), sg_up_n (by decide), sg_up_s]; rfl
  · rw [sg_up_n (by decide), sg_up_n (by decide), sg_up_s, sg_up_n (by decide)]; rfl
  · rw [sg_up_n (by decide), sg_up_s, sg_up_n (by decide), sg_up_n (by decide)]; rfl
  · rw [sg_up_s, sg_up_n (by decide), sg_up_n (by decide), sg_up_n (by decide)]
  · rw [sg_up_n h1, sg_up_n h4, sg_up_n h3, sg_up_n h2]
theorem bX_comesb (p a v : Int32) (f : sg_F) (L : sg_L) : sX1_comes_b13 p a v f L 33 = sgu (f 33) (f 32 3).toNatClampNeg p ∧ sX1_comes_b13 p a v f L 34 = sgu (f 34) (f 32 3).toNatClampNeg a ∧ sX1_comes_b13 p a v f L 35 = sgu (f 35) (f 32 3).toNatClampNeg v ∧ sX1_comes_b13 p a v f L 32 3 = f 32 3 + 1 ∧ sX1_comes_b13 p a v f L 32 4 = f 32 3 + 1 ∧ ∀ k : Nat, k ≠ 32 → k ≠ 33 → k ≠ 34 → k ≠ 35 → sX1_comes_b13 p a v f L k = f k := by
  unfold sX1_comes_b13; (repeat first | rw [spl_d] | rw [spl2_d])
  refine ⟨?_, ?_, ?_, ?_, ?_, fun k h1 h2 h3 h4 => ?_⟩
  · rw [sg_up_n (by decide), sg_up_n (by decide), sg_up_n (by decide), sg_up_n (by decide), sg_up_s]
  · rw [sg_up_n (by decide), sg_up_n (by decide), sg_up_n (by decide), sg_up_s, sg_up_n (by decide)]
  · rw [sg_up_n (by decide), sg_up_n (by decide), sg_up_s, sg_up_n (by decide), sg_up_n (by decide)]
  · rw [sg_up_s, sgu_n (by decide), sg_up_s, sgu_s]
  · rw [sg_up_s, sgu_s]
  · rw [sg_up_n h1, sg_up_n h1, sg_up_n h4, sg_up_n h3, sg_up_n h2]
/-- the places of changes behind one that comes: d: how many were done, when it came -/
theorem bX_comes (p a v : Int32) (f : sg_F) (L : sg_L) (hd : 0 ≤ (f 32 3).toInt ∧ (f 32 3).toInt ≤ 40) : ∃ (g3 g4 g5 : Nat → Int32) (d : Int32), (((f 32 3).toInt = 40 ∧ d.toInt = 39 ∧ g3 = va_cpy (f 33) (f 33) 1 0 39 ∧ g4 = va_cpy (f 34) (f 34) 1 0 39 ∧ g5 = va_cpy (f 35) (f 35) 1 0 39) ∨ ((f 32 3).toInt < 40 ∧ d = f 32 3 ∧ g3 = f 33 ∧ g4 = f 34 ∧ g5 = f 35)) ∧ sX1_comes p a v f L 33 = sgu g3 d.toNatClampNeg p ∧ sX1_comes p a v f L 34 = sgu g4 d.toNatClampNeg a ∧ sX1_comes p a v f L 35 = sgu g5 d.toNatClampNeg v ∧ sX1_comes p a v f L 32 3 = d + 1 ∧ sX1_comes p a v f L 32 4 = d + 1 ∧ ∀ k : Nat, k ≠ 32 → k ≠ 33 → k ≠ 34 → k ≠ 35 → sX1_comes p a v f L k = f k := by
  have k1 : (1 : Int32).toInt = 1 := by decide
  unfold sX1_comes; (repeat first | rw [spl_d] | rw [spl2_d])
  by_cases c : (f 32 3).toInt = 40
  · rw [if_pos c]
    obtain ⟨q1, q2, q3, q4, q5⟩ := bX_drop f L
    obtain ⟨u1, u2, u3, u4, u5, u6⟩ := bX_comesb p a v (sX1_dropOldest f L) L
    have e : (f 32 3 - 1).toInt = (f 32 3).toInt - 1 := (bn_subI (by omega) (by omega)).trans (by omega)
    have ed : sX1_dropOldest f L 32 3 = f 32 3 - 1 := by rw [q4, sgu_s]
    rw [ed] at u1 u2 u3 u4 u5
    exact ⟨_, _, _, f 32 3 - 1, Or.inl ⟨c, by omega, q1, q2, q3⟩, u1, u2, u3, u4, u5, fun k h1 h2 h3 h4 => (u6 k h1 h2 h3 h4).trans (q5 k h1 h2 h3 h4)⟩
  · rw [if_neg c]
    obtain ⟨u1, u2, u3, u4, u5, u6⟩ := bX_comesb p a v f L
    exact ⟨_, _, _, f 32 3, Or.inr ⟨by omega, rfl, rfl, rfl, rfl⟩, u1, u2, u3, u4, u5, u6⟩
theorem bM_becb (p v a : Int32) (f : sg_F) (L : sg_L) : (sX12_becomes_b97 p v a f L).1 = a ∧ (sX12_becomes_b97 p v a f L).2 2 = sgu (f 2) (f 0 5).toNatClampNeg p ∧ (sX12_becomes_b97 p v a f L).2 3 = sgu (f 3) (f 0 5).toNatClampNeg a ∧ (sX12_becomes_b97 p v a f L).2 4 = sgu (f 4) (f 0 5).toNatClampNeg v ∧ (sX12_becomes_b97 p v a f L).2 0 5 = f 0 5 + 1 ∧ (sX12_becomes_b97 p v a f L).2 0 4 = f 0 5 + 1 ∧ (sX12_becomes_b97 p v a f L).2 0 6 = f 0 6 ∧ (sX12_becomes_b97 p v a f L).2 1 = sgu (f 1) p.toNatClampNeg v := by
  unfold sX12_becomes_b97; (repeat first | rw [spl_d] | rw [spl2_d])
  dsimp only
  refine ⟨rfl, ?_, ?_, ?_, ?_, ?_, ?_, ?_⟩
  · rw [sg_up_n (by decide), sg_up_n (by decide), sg_up_n (by decide), sg_up_n (by decide), sg_up_n (by decide), sg_up_s]
  · rw [sg_up_n (by decide), sg_up_n (by decide), sg_up_n (by decide), sg_up_n (by decide), sg_up_s, sg_up_n (by decide)]
  · rw [sg_up_n (by decide), sg_up_n (by decide), sg_up_n (by decide), sg_up_s, sg_up_n (by decide), sg_up_n (by decide)]
  · rw [sg_up_n (by decide), sg_up_s, sgu_n (by decide), sg_up_s, sgu_s]
  · rw [sg_up_n (by decide), sg_up_s, sgu_s]
  · rw [sg_up_n (by decide), sg_up_s, sgu_n (by decide), sg_up_s, sgu_n (by decide), sg_up_n (by decide), sg_up_n (by decide), sg_up_n (by decide)]
  · rw [sg_up_s, sg_up_n (by decide), sg_up_n (by decide), sg_up_n (by decide), sg_up_n (by decide), sg_up_n (by decide)]
theorem bM_becl (p v a : Int32) (L : sg_L) (g2 g3 g4 : Nat → Int32) : ∀ (m : Nat) (y : Int32) (f : sg_F), 1 ≤ y.toInt → y.toInt ≤ 40 → 40 - y.toInt < (m : Int) → f 2 = va_cpy g2 g2 1 0 (y.toNatClampNeg - 1) → f 3 = va_cpy g3 g3 1 0 (y.toNatClampNeg - 1) → f 4 = va_cpy g4 g4 1 0 (y.toNatClampNeg - 1) → ∃ f1 : sg_F, sX12_becomes_l26 p v m a y f L = sX12_becomes_b97 p v a f1 L ∧ f1 2 = va_cpy g2 g2 1 0 39 ∧ f1 3 = va_cpy g3 g3 1 0 39 ∧ f1 4 = va_cpy g4 g4 1 0 39 ∧ f1 0 = sgu (f 0) 5 (f 0 5 - 1) ∧ f1 1 = f 1 := by
  have k1 : (1 : Int32).toInt = 1 := by decide
  intro m
  induction m with
  | zero => intro y f h1 h2 h3; exact absurd h3 (by omega)
  | succ m ih =>
    intro y f h1 h2 h3 e2 e3 e4
    have hg : sX12_becomes_l26 p v (m + 1) a y f L = sX12_becomes_h26 p v (sX12_becomes_l26 p v m) a y f L := rfl
    rw [hg]
    unfold sX12_becomes_h26; (repeat first | rw [spl_d] | rw [spl2_d])
    have ey := bn_clI (x := y) (by omega)
    by_cases c : y.toInt < 40
    · rw [if_pos c]
      obtain ⟨i1, i2⟩ := cl_inc (x := y) (by omega) (by omega)
      have j1 : (y - 1).toInt = y.toInt - 1 := (bn_subI (by omega) (by omega)).trans (by omega)
      have j2 := bn_clI (x := y - 1) (by omega)
      have j3 : (y - 1).toNatClampNeg = y.toNatClampNeg - 1 := by omega
      have st : ∀ g : Nat → Int32, sgu (va_cpy g g 1 0 (y.toNatClampNeg - 1)) (y.toNatClampNeg - 1) (va_cpy g g 1 0 (y.toNatClampNeg - 1) y.toNatClampNeg) = va_cpy g g 1 0 y.toNatClampNeg := by
        intro g
        have z := sg_cpy1 (f := g) (g := g) (a := 1) (b := 0) (n := y.toNatClampNeg - 1)
        rw [Nat.zero_add, show 1 + (y.toNatClampNeg - 1) = y.toNatClampNeg from by omega, show y.toNatClampNeg - 1 + 1 = y.toNatClampNeg from by omega] at z
        rw [← z]
        exact congrArg _ (by unfold va_cpy; rw [if_neg (by omega)])
      obtain ⟨f1, q1, q2, q3, q4, q5, q6⟩ := ih (y + 1) (sg_up (sg_up (sg_up f 2 (sgu (f 2) (y - 1).toNatClampNeg (f 2 y.toNatClampNeg))) 3 (sgu (sg_up f 2 (sgu (f 2) (y - 1).toNatClampNeg (f 2 y.toNatClampNeg)) 3) (y - 1).toNatClampNeg (sg_up f 2 (sgu (f 2) (y - 1).toNatClampNeg (f 2 y.toNatClampNeg)) 3 y.toNatClampNeg))) 4 (sgu (sg_up (sg_up f 2 (sgu (f 2) (y - 1).toNatClampNeg (f 2 y.toNatClampNeg))) 3 (sgu (sg_up f 2 (sgu (f 2) (y - 1).toNatClampNeg (f 2 y.toNatClampNeg)) 3) (y - 1).toNatClampNeg (sg_up f 2 (sgu (f 2) (y - 1).toNatClampNeg (f 2 y.toNatClampNeg)) 3 y.toNatClampNeg)) 4) (y - 1).toNatClampNeg (sg_up (sg_up f 2 (sgu (f 2) (y - 1).toNatClampNeg (f 2 y.toNatClampNeg))) 3 (sgu (sg_up f 2 (sgu (f 2) (y - 1).toNatClampNeg (f 2 y.toNatClampNeg)) 3) (y - 1).toNatClampNeg (sg_up f 2 (sgu (f 2) (y - 1).toNatClampNeg (f 2 y.toNatClampNeg)) 3 y.toNatClampNeg)) 4 y.toNatClampNeg))) (by omega) (by omega) (by omega)
        (by rw [sg_up_n (by decide), sg_up_n (by decide), sg_up_s, i2, j3, e2, st, Nat.add_sub_cancel]) (by rw [sg_up_n (by decide), sg_up_s, sg_up_n (by decide), i2, j3, e3, st, Nat.add_sub_cancel]) (by rw [sg_up_s, sg_up_n (by decide), sg_up_n (by decide), i2, j3, e4, st, Nat.add_sub_cancel])
      refine ⟨f1, q1, q2, q3, q4, ?_, ?_⟩
      · rw [q5, sg_up_n (by decide), sg_up_n (by decide), sg_up_n (by decide)]
      · rw [q6, sg_up_n (by decide), sg_up_n (by decide), sg_up_n (by decide)]
    · rw [if_neg c]
      have e39 : y.toNatClampNeg - 1 = 39 := by omega
      rw [e39] at e2 e3 e4
      exact ⟨_, rfl, by rw [sg_up_n (by decide)]; exact e2, by rw [sg_up_n (by decide)]; exact e3, by rw [sg_up_n (by decide)]; exact e4, sg_up_s, sg_up_n (by decide)⟩
/-- a number of the reference becomes another one -/
theorem bM_becomes (p v : Int32) (f : sg_F) (L : sg_L) (hd : 0 ≤ (f 0 5).toInt ∧ (f 0 5).toInt ≤ 40) (hne : (f 1 p.toNatClampNeg).toInt ≠ v.toInt) : ∃ (g2 g3 g4 : Nat → Int32) (d : Int32), (((f 0 5).toInt = 40 ∧ d.toInt = 39 ∧ g2 = va_cpy (f 2) (f 2) 1 0 39 ∧ g3 = va_cpy (f 3) (f 3) 1 0 39 ∧ g4 = va_cpy (f 4) (f 4) 1 0 39) ∨ ((f 0 5).toInt < 40 ∧ d = f 0 5 ∧ g2 = f 2 ∧ g3 = f 3 ∧ g4 = f 4)) ∧ (sX12_becomes p v f L).1 = f 1 p.toNatClampNeg ∧ (sX12_becomes p v f L).2 2 = sgu g2 d.toNatClampNeg p ∧ (sX12_becomes p v f L).2 3 = sgu g3 d.toNatClampNeg (f 1 p.toNatClampNeg) ∧ (sX12_becomes p v f L).2 4 = sgu g4 d.toNatClampNeg v ∧ (sX12_becomes p v f L).2 0 5 = d + 1 ∧ (sX12_becomes p v f L).2 0 4 = d + 1 ∧ (sX12_becomes p v f L).2 0 6 = f 0 6 ∧ (sX12_becomes p v f L).2 1 = sgu (f 1) p.toNatClampNeg v := by
  have k1 : (1 : Int32).toInt = 1 := by decide
  unfold sX12_becomes; (repeat first | rw [spl_d] | rw [spl2_d])
  rw [if_neg hne]
  by_cases c : (f 0 5).toInt = 40
  · rw [if_pos c]
    obtain ⟨f1, q1, q2, q3, q4, q5, q6⟩ := bM_becl p v (f 1 p.toNatClampNeg) L (f 2) (f 3) (f 4) 40 1 f (by omega) (by omega) (by omega) sg_cpy0.symm sg_cpy0.symm sg_cpy0.symm
    rw [q1]
    obtain ⟨u0, u1, u2, u3, u4, u5, u6, u7⟩ := bM_becb p v (f 1 p.toNatClampNeg) f1 L
    have e : (f 0 5 - 1).toInt = (f 0 5).toInt - 1 := (bn_subI (by omega) (by omega)).trans (by omega)
    have ed : f1 0 5 = f 0 5 - 1 := by rw [q5, sgu_s]
    rw [ed] at u1 u2 u3 u4 u5
    exact ⟨_, _, _, f 0 5 - 1, Or.inl ⟨c, by omega, q2, q3, q4⟩, u0, u1, u2, u3, u4, u5, by rw [u6, q5, sgu_n (by decide)], by rw [u7, q6]⟩
  · rw [if_neg c]
    obtain ⟨u0, u1, u2, u3, u4, u5, u6, u7⟩ := bM_becb p v (f 1 p.toNatClampNeg) f L
    exact ⟨_, _, _, f 0 5, Or.inr ⟨by omega, rfl, rfl, rfl, rfl⟩, u0, u1, u2, u3, u4, u5, u6, u7⟩
/-- changes behind one that came on both sides -/
theorem rChg.put {fX fX1 fM fM1 : sg_F} (h : rChg fX fM) {p q a v d d2 : Int32} {g3 g4 g5 k3 k4 k5 : Nat → Int32} (hb : 0 ≤ (fX 32 3).toInt ∧ (fX 32 3).toInt ≤ (fX 32 4).toInt ∧ (fX 32 4).toInt ≤ 40) (hq : q.toNatClampNeg = npl p.toNatClampNeg) (hs : p.toInt < 64 → p.toInt / 8 < (fX 1 3).toInt)
    (x : (((fX 32 3).toInt = 40 ∧ d.toInt = 39 ∧ g3 = va_cpy (fX 33) (fX 33) 1 0 39 ∧ g4 = va_cpy (fX 34) (fX 34) 1 0 39 ∧ g5 = va_cpy (fX 35) (fX 35) 1 0 39) ∨ ((fX 32 3).toInt < 40 ∧ d = fX 32 3 ∧ g3 = fX 33 ∧ g4 = fX 34 ∧ g5 = fX 35))) (x1 : fX1 33 = sgu g3 d.toNatClampNeg p) (x2 : fX1 34 = sgu g4 d.toNatClampNeg a) (x3 : fX1 35 = sgu g5 d.toNatClampNeg v) (x4 : fX1 32 3 = d + 1) (x5 : fX1 32 4 = d + 1) (x6 : fX1 1 3 = fX 1 3)
    (m : (((fM 0 5).toInt = 40 ∧ d2.toInt = 39 ∧ k3 = va_cpy (fM 2) (fM 2) 1 0 39 ∧ k4 = va_cpy (fM 3) (fM 3) 1 0 39 ∧ k5 = va_cpy (fM 4) (fM 4) 1 0 39) ∨ ((fM 0 5).toInt < 40 ∧ d2 = fM 0 5 ∧ k3 = fM 2 ∧ k4 = fM 3 ∧ k5 = fM 4))) (m1 : fM1 2 = sgu k3 d2.toNatClampNeg q) (m2 : fM1 3 = sgu k4 d2.toNatClampNeg a) (m3 : fM1 4 = sgu k5 d2.toNatClampNeg v) (m4 : fM1 0 5 = d2 + 1) (m5 : fM1 0 4 = d2 + 1) : rChg fX1 fM1 := by
  have h1 := h.1
  have ed : d = d2 := by
    refine Int32.toInt_inj.mp ?_
    rcases x with ⟨a1, a2, -⟩ | ⟨a1, a2, -⟩ <;> rcases m with ⟨b1, b2, -⟩ | ⟨b1, b2, -⟩
    · omega
    · omega
    · omega
    · rw [a2, b2]; exact h1
  subst ed
  have d0 : 0 ≤ d.toInt ∧ d.toInt ≤ 39 ∧ d.toInt ≤ (fX 32 4).toInt := by
    rcases x with ⟨a1, a2, -⟩ | ⟨a1, a2, -⟩
    · omega
    · rw [a2]; omega
  have k1 : (1 : Int32).toInt = 1 := by decide
  have e1 : (d + 1).toInt = d.toInt + 1 := (bn_addI (by omega) (by omega)).trans (by omega)
  have ec := bn_clI d0.1
  refine ⟨by rw [x4, m4], by rw [x5, m5], fun i hi => ?_⟩
  rw [x5, e1] at hi
  rw [x1, x2, x3, x6, m1, m2, m3]
  by_cases z : i = d.toNatClampNeg
  · rw [z, sgu_s, sgu_s, sgu_s, sgu_s, sgu_s, sgu_s]
    exact ⟨hq, rfl, rfl, hs⟩
  · rw [sgu_n z, sgu_n z, sgu_n z, sgu_n z, sgu_n z, sgu_n z]
    rcases x with ⟨a1, a2, a3, a4, a5⟩ | ⟨a1, a2, a3, a4, a5⟩ <;> rcases m with ⟨b1, b2, b3, b4, b5⟩ | ⟨b1, b2, b3, b4, b5⟩
    · have w : ∀ g : Nat → Int32, va_cpy g g 1 0 39 i = g (1 + i) := by
        intro g
        unfold va_cpy
        rw [if_pos ⟨Nat.zero_le _, by omega⟩]
        rfl
      rw [a3, a4, a5, b3, b4, b5, w, w, w, w, w, w]
      exact h.2.2 (1 + i) (by omega)
    · exfalso; omega
    · exfalso; omega
    · rw [a3, a4, a5, b3, b4, b5]
      exact h.2.2 i (by omega)
/-- the places on both sides -/
theorem pl_two {fX fM : sg_F} {LX LM : sg_L} {a w : Int32} (h : rNum fX fM) (hb : 0 ≤ (fX 1 3).toInt ∧ (fX 1 3).toInt ≤ 8) : ((sX0_placeOf a w fX LX).toInt < 0 ∧ (sX12_placeOf a w fM LM).toInt < 0) ∨ (0 ≤ w.toInt ∧ w.toInt ≤ 10 ∧ 0 ≤ (sX0_placeOf a w fX LX).toInt ∧ (sX0_placeOf a w fX LX).toInt < 71 ∧ 0 ≤ (sX12_placeOf a w fM LM).toInt ∧ (sX12_placeOf a w fM LM).toNatClampNeg = npl (sX0_placeOf a w fX LX).toNatClampNeg ∧ ((sX0_placeOf a w fX LX).toInt < 64 → (sX0_placeOf a w fX LX).toInt / 8 < (fX 1 3).toInt)) := by
  have h1 := h.1
  have x := bX_placeOf a w fX LX hb
  have m := bM_placeOf a w fM LM (by omega)
  obtain ⟨p, ep⟩ : ∃ z : Int32, z = sX0_placeOf a w fX LX := ⟨_, rfl⟩
  obtain ⟨q, eq⟩ : ∃ z : Int32, z = sX12_placeOf a w fM LM := ⟨_, rfl⟩
  rw [← ep] at x ⊢
  rw [← eq] at m ⊢
  have k1 : (-1 : Int32).toInt = -1 := by decide
  have cp : 0 ≤ p.toInt → ((p.toNatClampNeg : Nat) : Int) = p.toInt := fun z => bn_clI z
  have cq : 0 ≤ q.toInt → ((q.toNatClampNeg : Nat) : Int) = q.toInt := fun z => bn_clI z
  rcases x with ⟨x1, x2, x3, x4, x5⟩ | ⟨x1, x2, x3⟩ | ⟨x1, x2, x3, x4⟩ | ⟨x1, x2, x3, x4⟩ | ⟨x1, x2, x3, x4⟩
  · rcases m with ⟨m1, m2, m3, m4, m5⟩ | ⟨m1, m2, m3⟩ | ⟨m1, m2, m3, m4⟩ | ⟨m1, m2, m3, m4⟩ | ⟨m1, m2, m3, m4⟩
    · refine Or.inr ⟨x1, by omega, by omega, by omega, by omega, ?_, by omega⟩
      have ca := cp (by omega)
      have cb := cq (by omega)
      have z := npl_s (a := a.toNatClampNeg) (b := w.toNatClampNeg) (by have := bn_clI x3; omega) (by have := bn_clI x1; omega)
      have za := bn_clI x3
      have zw := bn_clI x1
      rw [show p.toNatClampNeg = 8 * a.toNatClampNeg + w.toNatClampNeg from by omega, z]
      omega
    · exfalso; omega
    · exfalso; omega
    · exfalso; omega
    · exfalso; omega
  · rcases m with ⟨m1, m2, m3, m4, m5⟩ | ⟨m1, m2, m3⟩ | ⟨m1, m2, m3, m4⟩ | ⟨m1, m2, m3, m4⟩ | ⟨m1, m2, m3, m4⟩
    · exfalso; omega
    · have ca := cp (by omega)
      have cb := cq (by omega)
      exact Or.inr ⟨by omega, by omega, by omega, by omega, by omega, by rw [npl_t (by omega)]; omega, by omega⟩
    · exfalso; omega
    · exfalso; omega
    · exfalso; omega
  · rcases m with ⟨m1, m2, m3, m4, m5⟩ | ⟨m1, m2, m3⟩ | ⟨m1, m2, m3, m4⟩ | ⟨m1, m2, m3, m4⟩ | ⟨m1, m2, m3, m4⟩
    · exfalso; omega
    · exfalso; omega
    · have ca := cp (by omega)
      have cb := cq (by omega)
      exact Or.inr ⟨by omega, by omega, by omega, by omega, by omega, by rw [npl_t (by omega)]; omega, by omega⟩
    · exfalso; omega
    · exfalso; omega
  · rcases m with ⟨m1, m2, m3, m4, m5⟩ | ⟨m1, m2, m3⟩ | ⟨m1, m2, m3, m4⟩ | ⟨m1, m2, m3, m4⟩ | ⟨m1, m2, m3, m4⟩
    · exfalso; omega
    · exfalso; omega
    · exfalso; omega
    · have ca := cp (by omega)
      have cb := cq (by omega)
      exact Or.inr ⟨by omega, by omega, by omega, by omega, by omega, by rw [npl_t (by omega)]; omega, by omega⟩
    · exfalso; omega
  · rcases m with ⟨m1, m2, m3, m4, m5⟩ | ⟨m1, m2, m3⟩ | ⟨m1, m2, m3, m4⟩ | ⟨m1, m2, m3, m4⟩ | ⟨m1, m2, m3, m4⟩
    · exfalso; omega
    · exfalso; omega
    · exfalso; omega
    · exfalso; omega
    · exact Or.inl ⟨by rw [x4, k1]; decide, by rw [m4, k1]; decide⟩
theorem rNum.mend {fX fX1 fM fM1 : sg_F} {LX LM : sg_L} {a w v r1 r2 : Int32} (h : rNum fX fM) (hc : rChg fX fM) (hI : sgI loX hiX fX) (hJ : JM fM) (e1 : (r1, fX1) = sX11_mend a w v fX LX) (e2 : (r2, fM1) = sX12_mend a w v fM LM) : r1 = r2 ∧ rNum fX1 fM1 ∧ rChg fX1 fM1 := by
  have hb : 0 ≤ (fX 1 3).toInt ∧ (fX 1 3).toInt ≤ 8 := hI 1 3
  have hd : 0 ≤ (fX 32 3).toInt ∧ (fX 32 3).toInt ≤ 40 := hI 32 3
  have hk : 0 ≤ (fX 32 4).toInt ∧ (fX 32 4).toInt ≤ 40 := hI 32 4
  have hdk := hJ.2
  have hc1 := hc.1
  have hc2 := hc.2.1
  have k0 : (0 : Int64).toInt = 0 := by decide
  have k1 : (1 : Int64).toInt = 1 := by decide
  have pl := pl_two (LX := LX) (LM := LM) (a := a) (w := w) h hb
  obtain ⟨p, ep⟩ : ∃ z : Int32, z = sX0_placeOf a w fX LX := ⟨_, rfl⟩
  obtain ⟨q, eq⟩ : ∃ z : Int32, z = sX12_placeOf a w fM LM := ⟨_, rfl⟩
  unfold sX11_mend at e1; (repeat first | rw [spl_d] at e1 | rw [spl2_d] at e1)
  unfold sX12_mend at e2; (repeat first | rw [spl_d] at e2 | rw [spl2_d] at e2)
  rw [← ep] at pl e1
  rw [← eq] at pl e2
  rcases pl with ⟨p1, q1⟩ | ⟨w1, w2, p1, p2, q1, pq, ps⟩
  · rw [if_pos p1] at e1
    rw [if_pos q1] at e2
    obtain ⟨a1, b1⟩ := Prod.mk.inj e1
    obtain ⟨a2, b2⟩ := Prod.mk.inj e2
    rw [a1, a2, b1, b2]; exact ⟨rfl, h, hc⟩
  rw [if_neg (by omega), pX_fits v fX LX ⟨w1, w2⟩] at e1
  have ew : ∀ x y : Int32, (Int32.toInt64 x).toInt = x.toInt := fun x _ => Int32.toInt_toInt64 x
  have e2 : (r2, fM1) = if mlo w.toInt ≤ v.toInt ∧ v.toInt ≤ mhi w.toInt then sX12_becomes q v fM LM else (-1, fM) := by
    rw [if_neg (by omega)] at e2
    by_cases c5 : w.toInt = 5
    · rw [if_pos c5, pM_within, k1, ew v v, ew _ v, pM_most] at e2
      have : mlo w.toInt = 1 := by unfold mlo; rw [if_pos c5]
      rw [this]
      by_cases g : 1 ≤ v.toInt ∧ v.toInt ≤ mhi w.toInt
      · rw [if_pos g, if_pos rfl] at e2; rw [if_pos g]; exact e2
      · rw [if_neg g, if_neg zk0] at e2; rw [if_neg g]; exact e2
    · rw [if_neg c5, pM_within, k0, ew v v, ew _ v, pM_most] at e2
      have : mlo w.toInt = 0 := by unfold mlo; rw [if_neg c5]
      rw [this]
      by_cases g : 0 ≤ v.toInt ∧ v.toInt ≤ mhi w.toInt
      · rw [if_pos g, if_pos rfl] at e2; rw [if_pos g]; exact e2
      · rw [if_neg g, if_neg zk0] at e2; rw [if_neg g]; exact e2
  by_cases g : mlo w.toInt ≤ v.toInt ∧ v.toInt ≤ mhi w.toInt
  case neg =>
    rw [if_neg g, if_neg zk0] at e1
    rw [if_neg g] at e2
    obtain ⟨a1, b1⟩ := Prod.mk.inj e1
    obtain ⟨a2, b2⟩ := Prod.mk.inj e2
    rw [a1, a2, b1, b2]; exact ⟨rfl, h, hc⟩
  rw [if_pos g, if_pos rfl] at e1
  rw [if_pos g] at e2
  have cp := bn_clI p1
  have same : fX 2 p.toNatClampNeg = fM 1 q.toNatClampNeg := by rw [pq]; exact h.2.1 _ (by omega)
  by_cases c : (fX 2 p.toNatClampNeg).toInt = v.toInt
  · rw [if_pos c] at e1
    unfold sX12_becomes at e2; (repeat first | rw [spl_d] at e2 | rw [spl2_d] at e2)
    rw [← same, if_pos c] at e2
    obtain ⟨a1, b1⟩ := Prod.mk.inj e1
    obtain ⟨a2, b2⟩ := Prod.mk.inj e2
    rw [a1, a2, b1, b2]; exact ⟨rfl, h, hc⟩
  rw [if_neg c] at e1
  obtain ⟨a1, b1⟩ := Prod.mk.inj e1
  obtain ⟨g3, g4, g5, d, x0, x1, x2, x3, x4, x5, x6⟩ := bX_comes p (fX 2 p.toNatClampNeg) v fX LX hd
  obtain ⟨u1, u2⟩ := bX_becomes p v (sX1_comes p (fX 2 p.toNatClampNeg) v fX LX) LX
  obtain ⟨k3, k4, k5, d2, m0, m1, m2, m3, m4, m5, m6, m7, m8⟩ := bM_becomes q v fM LM (by omega) (by rw [← same]; exact c)
  rw [← e2] at m1 m2 m3 m4 m5 m6 m7 m8
  rw [← b1] at u1 u2
  rw [x6 2 (by decide) (by decide) (by decide) (by decide)] at u1
  have m1 : r2 = _ := m1
  have m2 : fM1 2 = _ := m2
  have m3 : fM1 3 = _ := m3
  have m4 : fM1 4 = _ := m4
  have m5 : fM1 0 5 = _ := m5
  have m6 : fM1 0 4 = _ := m6
  have m7 : fM1 0 6 = _ := m7
  have m8 : fM1 1 = _ := m8
  refine ⟨by rw [a1, m1, same], ?_, ?_⟩
  · exact h.put (p := p) (q := q) (v := v) ⟨p1, p2⟩ pq ps (by rw [u2 1 (by decide) (by decide), x6 1 (by decide) (by decide) (by decide) (by decide)]) u1 m7 m8
  · rw [← same] at m3
    exact hc.put (p := p) (q := q) (a := fX 2 p.toNatClampNeg) (v := v) ⟨hd.1, by omega, hk.2⟩ pq ps x0 (by rw [u2 33 (by decide) (by decide)]; exact x1) (by rw [u2 34 (by decide) (by decide)]; exact x2) (by rw [u2 35 (by decide) (by decide)]; exact x3) (by rw [u2 32 (by decide) (by decide)]; exact x4) (by rw [u2 32 (by decide) (by decide)]; exact x5) (by rw [u2 1 (by decide) (by decide), x6 1 (by decide) (by decide) (by decide) (by decide)]) m0 m2 m3 m4 m5 m6
theorem rNum.undo {fX fX1 fM fM1 : sg_F} {LX LM : sg_L} {r1 r2 : Int32} (h : rNum fX fM) (hc : rChg fX fM) (hI : sgI loX hiX fX) (hJ : JM fM) (e1 : (r1, fX1) = sX11_undo fX LX) (e2 : (r2, fM1) = sX12_undo fM LM) : r1 = r2 ∧ rNum fX1 fM1 ∧ rChg fX1 fM1 := by
  have hd : 0 ≤ (fX 32 3).toInt ∧ (fX 32 3).toInt ≤ 40 := hI 32 3
  have hdk := hJ.2
  have hc1 := hc.1
  have hc2 := hc.2.1
  have k1 : (1 : Int32).toInt = 1 := by decide
  unfold sX11_undo at e1; (repeat first | rw [spl_d] at e1 | rw [spl2_d] at e1)
  unfold sX12_undo at e2; (repeat first | rw [spl_d] at e2 | rw [spl2_d] at e2)
  rw [← hc1] at e2
  by_cases c : (fX 32 3).toInt = 0
  · rw [if_pos c] at e1 e2
    obtain ⟨a1, b1⟩ := Prod.mk.inj e1
    obtain ⟨a2, b2⟩ := Prod.mk.inj e2
    rw [a1, a2, b1, b2]; exact ⟨rfl, h, hc⟩
  rw [if_neg c] at e1 e2
  have ee : fX 32 3 = fM 0 5 := Int32.toInt_inj.mp hc1
  rw [← ee] at e2
  obtain ⟨d, ed⟩ : ∃ z : Int32, z = fX 32 3 - 1 := ⟨_, rfl⟩
  have dt : d.toInt = (fX 32 3).toInt - 1 := by rw [ed]; exact (bn_subI (by omega) (by omega)).trans (by omega)
  have cd := bn_clI (x := d) (by omega)
  rw [← ed] at e1 e2
  rw [sg_up_n (show 33 ≠ 32 by decide), sg_up_n (show 34 ≠ 32 by decide)] at e1
  rw [sg_up_n (show 2 ≠ 0 by decide), sg_up_n (show 3 ≠ 0 by decide), sg_up_n (show 1 ≠ 0 by decide)] at e2
  obtain ⟨w1, w2, w3, w4⟩ := hc.2.2 d.toNatClampNeg (by omega)
  have pb : 0 ≤ (fX 33 d.toNatClampNeg).toInt ∧ (fX 33 d.toNatClampNeg).toInt ≤ 70 := hI 33 _
  obtain ⟨a1, b1⟩ := Prod.mk.inj e1
  obtain ⟨a2, b2⟩ := Prod.mk.inj e2
  obtain ⟨u1, u2⟩ := bX_becomes (fX 33 d.toNatClampNeg) (fX 34 d.toNatClampNeg) (sg_up fX 32 (sgu (fX 32) 3 d)) LX
  rw [← b1] at u1 u2
  refine ⟨by rw [a1, a2], ?_, ?_⟩
  · refine h.put (p := fX 33 d.toNatClampNeg) (q := fM 2 d.toNatClampNeg) (v := fX 34 d.toNatClampNeg) ⟨pb.1, by omega⟩ w1 w4 (by rw [u2 1 (by decide) (by decide), sg_up_n (by decide)]) (by rw [u1, sg_up_n (by decide)]) (by rw [b2, sg_up_n (by decide), sg_up_s, sgu_n (by decide)]) (by rw [b2, sg_up_s, w2])
  · refine ⟨?_, ?_, fun i hi => ?_⟩
    · rw [u2 32 (by decide) (by decide), sg_up_s, sgu_s, b2, sg_up_n (by decide), sg_up_s, sgu_s]
    · rw [u2 32 (by decide) (by decide), sg_up_s, sgu_n (by decide), b2, sg_up_n (by decide), sg_up_s, sgu_n (by decide)]; exact hc2
    · rw [u2 32 (by decide) (by decide), sg_up_s, sgu_n (by decide)] at hi
      rw [u2 33 (by decide) (by decide), u2 34 (by decide) (by decide), u2 35 (by decide) (by decide), u2 1 (by decide) (by decide), sg_up_n (by decide), sg_up_n (by decide), sg_up_n (by decide), sg_up_n (by decide), b2, sg_up_n (by decide), sg_up_n (by decide), sg_up_n (by decide), sg_up_n (by decide), sg_up_n (by decide), sg_up_n (by decide)]
      exact hc.2.2 i hi
theorem rNum.redo {fX fX1 fM fM1 : sg_F} {LX LM : sg_L} {r1 r2 : Int32} (h : rNum fX fM) (hc : rChg fX fM) (hI : sgI loX hiX fX) (hJ : JM fM) (e1 : (r1, fX1) = sX11_redo fX LX) (e2 : (r2, fM1) = sX12_redo fM LM) : r1 = r2 ∧ rNum fX1 fM1 ∧ rChg fX1 fM1 := by
  have hd : 0 ≤ (fX 32 3).toInt ∧ (fX 32 3).toInt ≤ 40 := hI 32 3
  have hk : 0 ≤ (fX 32 4).toInt ∧ (fX 32 4).toInt ≤ 40 := hI 32 4
  have hdk := hJ.2
  have hc1 := hc.1
  have hc2 := hc.2.1
  have k1 : (1 : Int32).toInt = 1 := by decide
  have ee : fX 32 3 = fM 0 5 := Int32.toInt_inj.mp hc1
  have ek : fX 32 4 = fM 0 4 := Int32.toInt_inj.mp hc2
  unfold sX11_redo at e1; (repeat first | rw [spl_d] at e1 | rw [spl2_d] at e1)
  unfold sX12_redo at e2; (repeat first | rw [spl_d] at e2 | rw [spl2_d] at e2)
  rw [← ee, ← ek] at e2
  by_cases c : (fX 32 3).toInt < (fX 32 4).toInt
  case neg =>
    rw [if_neg c] at e1
    rw [if_pos (by omega)] at e2
    obtain ⟨a1, b1⟩ := Prod.mk.inj e1
    obtain ⟨a2, b2⟩ := Prod.mk.inj e2
    rw [a1, a2, b1, b2]; exact ⟨rfl, h, hc⟩
  rw [if_pos c] at e1
  rw [if_neg (by omega)] at e2
  have cd := bn_clI hd.1
  obtain ⟨w1, w2, w3, w4⟩ := hc.2.2 (fX 32 3).toNatClampNeg (by omega)
  have pb : 0 ≤ (fX 33 (fX 32 3).toNatClampNeg).toInt ∧ (fX 33 (fX 32 3).toNatClampNeg).toInt ≤ 70 := hI 33 _
  obtain ⟨a1, b1⟩ := Prod.mk.inj e1
  obtain ⟨a2, b2⟩ := Prod.mk.inj e2
  obtain ⟨u1, u2⟩ := bX_becomes (fX 33 (fX 32 3).toNatClampNeg) (fX 35 (fX 32 3).toNatClampNeg) fX LX
  refine ⟨by rw [a1, a2], ?_, ?_⟩
  · refine h.put (p := fX 33 (fX 32 3).toNatClampNeg) (q := fM 2 (fX 32 3).toNatClampNeg) (v := fX 35 (fX 32 3).toNatClampNeg) ⟨pb.1, by omega⟩ w1 w4 (by rw [b1, sg_up_n (by decide), u2 1 (by decide) (by decide)]) (by rw [b1, sg_up_n (by decide), u1]) (by rw [b2, sg_up_s, sgu_n (by decide), sg_up_n (by decide)]) (by rw [b2, sg_up_n (by decide), sg_up_s, w3])
  · refine ⟨?_, ?_, fun i hi => ?_⟩
    · rw [b1, sg_up_s, sgu_s, b2, sg_up_s, sgu_s]
    · rw [b1, sg_up_s, sgu_n (by decide), u2 32 (by decide) (by decide), b2, sg_up_s, sgu_n (by decide), sg_up_n (by decide)]; exact hc2
    · rw [b1, sg_up_s, sgu_n (by decide), u2 32 (by decide) (by decide)] at hi
      rw [b1, sg_up_n (by decide), sg_up_n (by decide), sg_up_n (by decide), sg_up_n (by decide), u2 33 (by decide) (by decide), u2 34 (by decide) (by decide), u2 35 (by decide) (by decide), u2 1 (by decide) (by decide), b2, sg_up_n (by decide), sg_up_n (by decide), sg_up_n (by decide), sg_up_n (by decide), sg_up_n (by decide), sg_up_n (by decide)]
      exact hc.2.2 i hi
