/-! CHAIRS: the call -/
/-- what the class's sums and groups are between two calls -/
def rZ (fX fM : sg_F) : Prop := (fX 21 0 = 0 ∧ fX 22 0 = 0) ∧ ∀ c : Nat, c < 3 → fX 23 c = 0
theorem rZ.zero : rZ f0X f0M := by
  refine ⟨⟨rfl, rfl⟩, fun c hc => ?_⟩
  have hz : ∀ q : Fin 3, f0X 23 q.1 = 0 := by decide
  exact hz ⟨c, hc⟩
theorem rZ.fr {fX fX1 fM fM1 : sg_F} (h : rZ fX fM) (a : ∀ j : Nat, fX1 21 j = fX 21 j) (b : ∀ j : Nat, fX1 22 j = fX 22 j) (c : ∀ j : Nat, fX1 23 j = fX 23 j) : rZ fX1 fM1 := by
  unfold rZ
  rw [a, b]
  exact ⟨h.1, fun t ht => by rw [c]; exact h.2 t ht⟩
/-- the reference's losses, by sitter and setting, shift by shift -/
theorem mrowS {m : Nat → Int32} {hl : Bool} {T : Nat → Int32} {n : Nat} {p w d x2 y4 x1 : Int32} {LM : sg_L} (rec : Int32 → sg_F → sg_L → Int32 × sg_F) (hm : mOk m) (hp : 0 ≤ (x1 / 10).toInt ∧ (x1 / 10).toInt ≤ 2) (hw : 0 ≤ w.toInt ∧ w.toInt ≤ 7) : ∀ (q v : Nat) (y : Int32) (g0 g : sg_F), y.toInt = (v : Int) → v ≤ 61 → 61 - v < q → mCx m hl T n g → (∀ k j : Nat, k ≠ 8 → k ≠ 14 → (k ≠ 0 ∨ (j ≠ 12 ∧ j ≠ 13 ∧ j ≠ 14 ∧ j ≠ 15 ∧ j ≠ 16)) → g k j = g0 k j) → (∀ j : Nat, (j < 61 * w.toNatClampNeg ∨ 61 * w.toNatClampNeg + v ≤ j) → g 14 j = g0 14 j) → (∀ u : Nat, u < v → g 14 (61 * w.toNatClampNeg + u) = g0 14 (61 * w.toNatClampNeg + u) + lsv m hl T n w (x1 / 10) (Int32.ofNat u)) → ∃ g1 : sg_F, sX12_chairs_l118 rec d x1 x2 q y4 w y g LM = rec (y4 + 1) g1 LM ∧ mCx m hl T n g1 ∧ (∀ k j : Nat, k ≠ 8 → k ≠ 14 → (k ≠ 0 ∨ (j ≠ 12 ∧ j ≠ 13 ∧ j ≠ 14 ∧ j ≠ 15 ∧ j ≠ 16)) → g1 k j = g0 k j) ∧ (∀ j : Nat, (j < 61 * w.toNatClampNeg ∨ 61 * w.toNatClampNeg + 61 ≤ j) → g1 14 j = g0 14 j) ∧ ∀ u : Nat, u < 61 → g1 14 (61 * w.toNatClampNeg + u) = g0 14 (61 * w.toNatClampNeg + u) + lsv m hl T n w (x1 / 10) (Int32.ofNat u) := by
  have k61 : (61 : Int32).toInt = 61 := by decide
  have cw := bn_clI hw.1
  intro q
  induction q with
  | zero => intro v y g0 g _ _ h; exact absurd h (by omega)
  | succ q ih =>
    intro v y g0 g ey hv hq hC hfr h1 h2
    have e9 : sX12_chairs_l118 rec d x1 x2 (q + 1) y4 w y g LM = sX12_chairs_h118 rec d x1 x2 (sX12_chairs_l118 rec d x1 x2 q) y4 w y g LM := rfl
    rw [e9]
    unfold sX12_chairs_h118 sX12_chairs_b164; (repeat first | rw [spl_d] | rw [spl2_d])
    by_cases c : v ≤ 60
    case neg =>
      rw [if_neg (show ¬ y.toInt < 61 from by omega)]
      have : v = 61 := by omega
      subst this
      exact ⟨g, rfl, hC, hfr, h1, h2⟩
    have hy : 0 ≤ y.toInt ∧ y.toInt ≤ 60 := by omega
    have cy := bn_clI hy.1
    have eyn : y.toNatClampNeg = v := by omega
    have eo : Int32.ofNat v = y := by rw [← eyn]; exact ofNn hy.1
    have e61 : (61 * w).toInt = 61 * (w.toNatClampNeg : Int) := (bn_mulJ k61 (by omega) (by omega)).trans (by omega)
    have i2 := (ixr (i := w.toNatClampNeg) (v := v) e61 (by omega) ey (by omega)).2
    rw [if_pos (show y.toInt < 61 from by omega), if_neg (show ¬ w.toInt < 0 from by omega), i2]
    obtain ⟨y1, y2⟩ := mloss (s := w) hC hm hw hp hy LM
    obtain ⟨o, eo2⟩ : ∃ t : Int32 × sg_F, t = sX12_lossOf w (x1 / 10) y g LM := ⟨_, rfl⟩
    rw [← eo2] at y1 y2 ⊢
    have o14 : o.2 14 = g 14 := funext fun t => y2 14 t (by decide) (Or.inl (by decide))
    refine ih (v + 1) (y + 1) g0 _ (inc1 ey (by omega)) (by omega) (by omega) ((hC.X y2).fr (fun j => by rw [sg_up_n (by decide)]) (fun j => by rw [sg_up_n (by decide)]) (by rw [sg_up_n (by decide)])) (fun k j a b e => by rw [sg_up_n b]; exact (y2 k j a e).trans (hfr k j a b e)) (fun j hj => ?_) (fun u hu => ?_)
    · rw [sg_up_s, sgu_n (by omega), o14]; exact h1 j (by omega)
    · rw [sg_up_s, o14]
      by_cases z : u = v
      · rw [z, sgu_s, y1, h1 (61 * w.toNatClampNeg + v) (by omega), eo]
      · rw [sgu_n (by omega)]; exact h2 u (by omega)
/-- what the reference has of the shifts so far -/
def mSum (m : Nat → Int32) (hl : Bool) (T : Nat → Int32) (n : Nat) (W : Nat → Int32) (p : Int32) (i : Nat) (g : sg_F) : Prop := ∀ s v : Nat, s < 8 → v ≤ 60 → g 14 (61 * s + v) = tms W s i * lvf m hl T n p (Int32.ofNat v) s
theorem sets_l {m : Nat → Int32} {S : Int} {hl : Bool} {T : Nat → Int32} {n : Nat} {W : Nat → Int32} {N : Nat} {d : Int32} {LM : sg_L} {g : sg_F} (h : mWk m S hl T n W N d LM g) (hS : S ≤ 8) (hN : N ≤ 21) : ∀ s : Nat, s < 8 → (mi (sX12_sitsSet d g LM) s = true ↔ 0 < (tms W s N).toInt) := by
  have go : ∀ (q i : Nat) (y a : Int32), y.toInt = (i : Int) → i ≤ N → N - i < q → (∀ s : Nat, s < 8 → (mi a s = true ↔ 0 < (tms W s i).toInt)) → ∀ s : Nat, s < 8 → (mi (sX12_sitsSet_l4 d q a y g LM) s = true ↔ 0 < (tms W s N).toInt) := by
    intro q
    induction q with
    | zero => intro i y a _ _ h; exact absurd h (by omega)
    | succ q ih =>
      intro i y a ey hi hq ha
      have e9 : sX12_sitsSet_l4 d (q + 1) a y g LM = sX12_sitsSet_h4 d (sX12_sitsSet_l4 d q) a y g LM := rfl
      have hsh := h.2.2.1
      rw [e9]
      unfold sX12_sitsSet_h4; (repeat first | rw [spl_d] | rw [spl2_d])
      by_cases c : i < N
      case neg =>
        rw [if_neg (show ¬ y.toInt < (sX12_shiftsOf d g LM).toInt from by omega)]
        have : i = N := by omega
        subst this
        exact ha
      rw [if_pos (show y.toInt < (sX12_shiftsOf d g LM).toInt from by omega)]
      have ey1 := inc1 ey (by omega)
      have st : ∀ s : Nat, tms W s (i + 1) = if (W i).toInt = s then tms W s i + 1 else tms W s i := fun _ => rfl
      rcases h.2.1 y i ey c with ⟨w1, w2⟩ | ⟨w1, w2, w3, w4⟩
      · have w2 : (sX12_whoSits d y g LM).toInt < 0 := w2.resolve_right (fun z => z (by rw [h.2.2.2]; decide))
        rw [if_pos w2, Int32.or_zero]
        refine ih (i + 1) (y + 1) a ey1 (by omega) (by omega) (fun s hs => ?_)
        rw [st, if_neg (by omega)]
        exact ha s hs
      · rw [w3, if_neg (show ¬ (W i).toInt < 0 from by omega)]
        have cw := bn_clI w1
        refine ih (i + 1) (y + 1) _ ey1 (by omega) (by omega) (fun s hs => ?_)
        have tb := tms_b (W := W) (s := s) i (by omega)
        have k1 : (1 : Int32).toInt = 1 := by decide
        rw [mi_or, mi_one (by omega) s, st]
        by_cases z : (W i).toInt = (s : Int)
        · have e : (tms W s i + 1).toInt = (tms W s i).toInt + 1 := (bn_addI (by omega) (by omega)).trans (by omega)
          rw [if_pos z, decide_eq_true (show s = (W i).toNatClampNeg from by omega), Bool.or_true]
          exact ⟨fun _ => by omega, fun _ => rfl⟩
        · rw [if_neg z, decide_eq_false (show ¬ s = (W i).toNatClampNeg from by omega), Bool.or_false]
          exact ha s hs
  exact go 22 0 0 0 (by decide) (Nat.zero_le _) (by omega) (fun s _ => by
    rw [mi_0]
    exact ⟨fun z => absurd z (by decide), fun z => absurd (show 0 < (0 : Int32).toInt from z) (by decide)⟩)
theorem mWk.o14 {m : Nat → Int32} {S : Int} {hl : Bool} {T : Nat → Int32} {n : Nat} {W : Nat → Int32} {N : Nat} {d : Int32} {LM : sg_L} {g g1 : sg_F} (h : mWk m S hl T n W N d LM g) (a : ∀ r : Nat, r ≠ 14 → g1 r = g r) : mWk m S hl T n W N d LM g1 := by
  obtain ⟨h1, h2, h3, h4⟩ := h
  refine ⟨h1.fr (fun j => by rw [a 1 (by decide)]) (fun j => by rw [a 7 (by decide)]) (by rw [a 0 (by decide)]), h2.H (by rw [a 0 (by decide)]) (fun j => by rw [a 11 (by decide)]), ?_, fun j => by rw [a 11 (by decide)]; exact h4 j⟩
  rw [shfM_fr (a 23 (by decide))]
  exact h3
/-- all the reference does before it parts -/
theorem mall_S {m : Nat → Int32} {S : Int} {hl : Bool} {T : Nat → Int32} {n : Nat} {W : Nat → Int32} {N : Nat} {d x1 x2 : Int32} {LM : sg_L} {g0 : sg_F} (h : mWk m S hl T n W N d LM g0) (hm : mOk m) (hS : S ≤ 8) (hN : N ≤ 21) (hW : wOk S N W) (hp : 0 ≤ (x1 / 10).toInt ∧ (x1 / 10).toInt ≤ 2) : ∃ g1 : sg_F, sX12_chairs_l71 d x1 x2 489 0 g0 LM = sX12_chairs_h96 d x1 x2 (fun _ f _ => ((0 : Int32), f)) (Int32.ofNat N) g1 LM ∧ mWk m S hl T n W N d LM g1 ∧ mSum m hl T n W (x1 / 10) N g1 ∧ g1 0 6 = g0 0 6 := by
  have hI : ∀ (q i : Nat) (y : Int32) (g : sg_F), y.toInt = (i : Int) → i ≤ N → N - i < q → mWk m S hl T n W N d LM g → mSum m hl T n W (x1 / 10) i g → g 0 6 = g0 0 6 → ∃ g1 : sg_F, sX12_chairs_l96 d x1 x2 q y g LM = sX12_chairs_h96 d x1 x2 (fun _ f _ => ((0 : Int32), f)) (Int32.ofNat N) g1 LM ∧ mWk m S hl T n W N d LM g1 ∧ mSum m hl T n W (x1 / 10) N g1 ∧ g1 0 6 = g0 0 6 := by
    intro q
    induction q with
    | zero => intro i y g _ _ h; exact absurd h (by omega)
    | succ q ih =>
      intro i y g ey hi hq hg hs h6
      have e9 : sX12_chairs_l96 d x1 x2 (q + 1) y g LM = sX12_chairs_h96 d x1 x2 (sX12_chairs_l96 d x1 x2 q) y g LM := rfl
      have hsh := hg.2.2.1
      by_cases c : i < N
      case neg =>
        have : i = N := by omega
        subst this
        refine ⟨g, ?_, hg, hs, h6⟩
        have nI : (Int32.ofNat i).toInt = (i : Int) := ofN_I (by omega)
        rw [e9]
        unfold sX12_chairs_h96
        rw [spl_d, if_neg (show ¬ y.toInt < (sX12_shiftsOf d g LM).toInt from by omega)]
        conv => rhs; rw [spl_d, if_neg (show ¬ (Int32.ofNat i).toInt < (sX12_shiftsOf d g LM).toInt from by omega)]
      rw [e9]
      unfold sX12_chairs_h96
      rw [spl_d, if_pos (show y.toInt < (sX12_shiftsOf d g LM).toInt from by omega), spl_d]
      have ey1 := inc1 ey (by omega)
      have st : ∀ s : Nat, tms W s (i + 1) = if (W i).toInt = s then tms W s i + 1 else tms W s i := fun _ => rfl
      rcases hg.2.1 y i ey c with ⟨w1, w2⟩ | ⟨w1, w2, w3, w4⟩
      · have w2 : (sX12_whoSits d y g LM).toInt < 0 := w2.resolve_right (fun z => z (by rw [hg.2.2.2]; decide))
        have e8 : sX12_chairs_l118 (sX12_chairs_l96 d x1 x2 q) d x1 x2 62 y (sX12_whoSits d y g LM) 0 g LM = sX12_chairs_h118 (sX12_chairs_l96 d x1 x2 q) d x1 x2 (sX12_chairs_l118 (sX12_chairs_l96 d x1 x2 q) d x1 x2 61) y (sX12_whoSits d y g LM) 0 g LM := rfl
        rw [e8]
        unfold sX12_chairs_h118 sX12_chairs_b164
        rw [if_pos (show (0 : Int32).toInt < 61 from by decide), if_pos w2, spl_d]
        refine ih (i + 1) (y + 1) g ey1 (by omega) (by omega) hg (fun s v hs8 hv => ?_) h6
        rw [st, if_neg (by omega)]
        exact hs s v hs8 hv
      · rw [w3]
        have cw := bn_clI w1
        have w7 : (W i).toInt ≤ 7 := by omega
        obtain ⟨g1, u1, u2, u3, u4, u5⟩ := mrowS (p := x1 / 10) (d := d) (x2 := x2) (y4 := y) (LM := LM) (hl := hl) (T := T) (n := n) (sX12_chairs_l96 d x1 x2 q) hm hp (w := W i) ⟨w1, w7⟩ 62 0 0 g g (by decide) (by decide) (by decide) hg.1 (fun _ _ _ _ _ => rfl) (fun _ _ => rfl) (fun u hu => absurd hu (by omega))
        rw [u1]
        have ko : ∀ r j : Nat, r ≠ 8 → r ≠ 14 → r ≠ 0 → g1 r j = g r j := fun r j a b e => u3 r j a b (Or.inl e)
        have k6 : g1 0 6 = g 0 6 := u3 0 6 (by decide) (by decide) (Or.inr (by decide))
        refine ih (i + 1) (y + 1) g1 ey1 (by omega) (by omega) ⟨u2, hg.2.1.H k6 (fun j => ko 11 j (by decide) (by decide) (by decide)), ?_, fun j => ?_⟩ (fun s v hs8 hv => ?_) (k6.trans h6)
        · rw [shfM_fr (show g1 23 = g 23 from funext fun j => ko 23 j (by decide) (by decide) (by decide))]; exact hsh
        · rw [ko 11 j (by decide) (by decide) (by decide)]; exact hg.2.2.2 j
        · rw [st]
          by_cases z : (W i).toInt = (s : Int)
          · have es : s = (W i).toNatClampNeg := by omega
            rw [if_pos z, es, u5 v (by omega), ← es, hs s v hs8 hv, Int32.add_mul, Int32.one_mul, es, lvf_W (by omega)]
          · rw [if_neg z, u4 (61 * s + v) (by omega)]
            exact hs s v hs8 hv
  have go : ∀ (q i : Nat) (y : Int32) (g : sg_F), y.toInt = (i : Int) → i ≤ 488 → 488 - i < q → (∀ r : Nat, r ≠ 14 → g r = g0 r) → (∀ j : Nat, j < i → g 14 j = 0) → ∃ g1 : sg_F, sX12_chairs_l71 d x1 x2 q y g LM = sX12_chairs_h96 d x1 x2 (fun _ f _ => ((0 : Int32), f)) (Int32.ofNat N) g1 LM ∧ mWk m S hl T n W N d LM g1 ∧ mSum m hl T n W (x1 / 10) N g1 ∧ g1 0 6 = g0 0 6 := by
    intro q
    induction q with
    | zero => intro i y g _ _ h; exact absurd h (by omega)
    | succ q ih =>
      intro i y g ey hi hq hfr h0
      have e9 : sX12_chairs_l71 d x1 x2 (q + 1) y g LM = sX12_chairs_h71 d x1 x2 (sX12_chairs_l71 d x1 x2 q) y g LM := rfl
      rw [e9]
      unfold sX12_chairs_h71; (repeat first | rw [spl_d] | rw [spl2_d])
      by_cases c : i < 488
      case neg =>
        rw [if_neg (show ¬ y.toInt < 488 from by omega)]
        refine hI 22 0 0 g (by decide) (Nat.zero_le _) (by omega) (h.o14 hfr) (fun s v hs hv => ?_) (by rw [hfr 0 (by decide)])
        rw [h0 _ (by omega)]
        show (0 : Int32) = 0 * _
        rw [Int32.zero_mul]
      have cy := bn_clI (x := y) (by omega)
      rw [if_pos (show y.toInt < 488 from by omega), show y.toNatClampNeg = i from by omega]
      refine ih (i + 1) (y + 1) _ (inc1 ey (by omega)) (by omega) (by omega) (fun r a => by rw [sg_up_n a]; exact hfr r a) (fun j hj => ?_)
      rw [sg_up_s]
      by_cases z : j = i
      · rw [z, sgu_s]
      · rw [sgu_n z]; exact h0 j (by omega)
  exact go 489 0 0 g0 (by decide) (by decide) (by decide) (fun _ _ => rfl) (fun j hj => absurd hj (by omega))
theorem rk_pos {h : Nat → Int32} {i : Nat} : ∀ t : Nat, i < rkS h t → ∃ s : Nat, s < t ∧ 0 < (h s).toInt ∧ rkS h s = i := by
  intro t
  induction t with
  | zero => intro h0; exact absurd h0 (Nat.not_lt_zero i)
  | succ t ih =>
    intro h0
    by_cases z : 0 < (h t).toInt
    · rw [rkS_1 z] at h0
      by_cases y : i < rkS h t
      · obtain ⟨s, s1, s2⟩ := ih y
        exact ⟨s, by omega, s2⟩
      · exact ⟨t, by omega, z, by omega⟩
    · rw [rkS_0 z] at h0
      obtain ⟨s, s1, s2⟩ := ih h0
      exact ⟨s, by omega, s2⟩
/-- on which a sitter sits -/
theorem chairOf_S {h : Nat → Int32} {f g : sg_F} {k : Int32} (L : sg_L) (h1 : gOne h f) (hb : bRel h f g) (hk : 0 ≤ k.toInt ∧ k.toInt ≤ 7) : sX8_chairOf k f L = if 0 < (h k.toNatClampNeg).toInt then g 16 k.toNatClampNeg else -2 := by
  have k0 : (0 : Int32).toInt = 0 := by decide
  have k1 : ¬ (1 : Int32).toInt = 0 := by decide
  have ck := bn_clI hk.1
  have r8 := rkS_le h 8
  have p8 : 2 ^ rkS h 8 ≤ 2 ^ 8 := Nat.pow_le_pow_right (by decide) r8
  have e256 : 2 ^ 8 = 256 := by decide
  obtain ⟨b1, b2, b3, B, b4, b5⟩ := hb
  obtain ⟨s0, es0⟩ : ∃ z : Nat, z = k.toNatClampNeg := ⟨_, rfl⟩
  rw [← es0]
  have go : ∀ (q i : Nat) (y : Int32), y.toInt = (i : Int) → i ≤ rkS h 8 → rkS h 8 - i < q → (∀ s : Nat, s < 8 → 0 < (h s).toInt → rkS h s < i → s ≠ s0) → sX8_chairOf_l2 k q y f L = if 0 < (h s0).toInt then g 16 s0 else -2 := by
    intro q
    induction q with
    | zero => intro i y _ _ h; exact absurd h (by omega)
    | succ q ih =>
      intro i y ey hi hq hno
      have e9 : sX8_chairOf_l2 k (q + 1) y f L = sX8_chairOf_h2 k (sX8_chairOf_l2 k q) y f L := rfl
      have n9 := h1.1
      rw [e9]
      unfold sX8_chairOf_h2; (repeat first | rw [spl_d] | rw [spl2_d])
      by_cases c : i < rkS h 8
      case neg =>
        rw [if_neg (show ¬ y.toInt < (f 17 9).toInt from by omega)]
        have ns : ¬ 0 < (h s0).toInt := fun z => hno s0 (by omega) z (by have := rkS_lt z (show s0 < 8 by omega); omega) rfl
        rw [if_neg ns]
      rw [if_pos (show y.toInt < (f 17 9).toInt from by omega)]
      obtain ⟨s, s1, s2, s3⟩ := rk_pos (h := h) 8 c
      have cy := bn_clI (x := y) (by omega)
      have e20 : f 20 y.toNatClampNeg = Int32.ofNat s := by rw [show y.toNatClampNeg = rkS h s from by omega]; exact h1.2 s s1 s2
      have sI : (Int32.ofNat s).toInt = (s : Int) := ofN_I (by omega)
      have ey1 := inc1 ey (by omega)
      by_cases z : s = s0
      · -- here he sits
        subst z
        obtain ⟨c0, c1, c2, c3⟩ := b5 s s1 s2
        rw [if_pos s2]
        have inn : ∀ (r j : Nat) (w : Int32), w.toInt = (j : Int) → j ≤ c0 → c0 - j < r → sX8_chairOf_l12 (sX8_chairOf_l2 k q) k r y w f L = g 16 s := by
          intro r
          induction r with
          | zero => intro j w _ _ h; exact absurd h (by omega)
          | succ r ihr =>
            intro j w ew hj hr
            have e8 : sX8_chairOf_l12 (sX8_chairOf_l2 k q) k (r + 1) y w f L = sX8_chairOf_h12 (sX8_chairOf_l2 k q) k (sX8_chairOf_l12 (sX8_chairOf_l2 k q) k r) y w f L := rfl
            have cw := bn_clI (x := w) (by omega)
            rw [e8]
            unfold sX8_chairOf_h12 sX8_chairOf_b42; (repeat first | rw [spl_d] | rw [spl2_d])
            rw [if_pos (show w.toInt < 3 from by omega), e20, if_pos (show (Int32.ofNat s).toInt = k.toInt from by omega), show w.toNatClampNeg = j from by omega, mi_w (s := y) ⟨by omega, by omega⟩, (b4 j (by omega)).1]
            have tb := mi_tb (B j) (by have := (b4 j (by omega)).2; omega) (rkS h s) (by omega)
            rw [show y.toNatClampNeg = rkS h s from by omega, tb]
            by_cases x : j = c0
            · rw [(c3 j (by omega)).mpr x, if_pos rfl, if_neg k1]
              exact Int32.toInt_inj.mp (by omega)
            · rw [if_neg (fun v => x ((c3 j (by omega)).mp v)), if_pos k0]
              exact ihr (j + 1) (w + 1) (inc1 ew (by omega)) (by omega) (by omega)
        exact inn 4 0 0 (by decide) (Nat.zero_le _) (by omega)
      · have inn : ∀ (r j : Nat) (w : Int32), w.toInt = (j : Int) → j ≤ 3 → 3 - j < r → sX8_chairOf_l12 (sX8_chairOf_l2 k q) k r y w f L = sX8_chairOf_l2 k q (y + 1) f L := by
          intro r
          induction r with
          | zero => intro j w _ _ h; exact absurd h (by omega)
          | succ r ihr =>
            intro j w ew hj hr
            have e8 : sX8_chairOf_l12 (sX8_chairOf_l2 k q) k (r + 1) y w f L = sX8_chairOf_h12 (sX8_chairOf_l2 k q) k (sX8_chairOf_l12 (sX8_chairOf_l2 k q) k r) y w f L := rfl
            rw [e8]
            unfold sX8_chairOf_h12 sX8_chairOf_b42; (repeat first | rw [spl_d] | rw [spl2_d])
            by_cases x : j < 3
            · rw [if_pos (show w.toInt < 3 from by omega), e20, if_neg (show ¬ (Int32.ofNat s).toInt = k.toInt from by omega)]
              exact ihr (j + 1) (w + 1) (inc1 ew (by omega)) (by omega) (by omega)
            · rw [if_neg (show ¬ w.toInt < 3 from by omega)]
        rw [inn 4 0 0 (by decide) (by decide) (by decide)]
        refine ih (i + 1) (y + 1) ey1 (by omega) (by omega) (fun t ht c2 hlt => ?_)
        by_cases w : rkS h t = i
        · rw [rkS_inj c2 s2 (by omega)]; exact z
        · exact hno t ht c2 (by omega)
  exact go 9 0 0 (by decide) (Nat.zero_le _) (by omega) (fun s _ _ hlt => absurd hlt (Nat.not_lt_zero _))
theorem t_chairs {fX fX1 fM fM1 : sg_F} {LX LM : sg_L} {hl : Bool} {T : Nat → Int32} {n : Nat} {d pc k r1 r2 : Int32} (h : rAll fX fM LX LM) (hz : rZ fX fM) (hm : mOk (fX 2)) (hc : xCx (fX 2) (fX 1 3).toInt hl T n fX) (hC : mCx (fX 2) hl T n fM) (e1 : (r1, fX1) = sX11_chairs d pc k fX LX) (e2 : (r2, fM1) = sX12_chairs d pc k fM LM) : r1 = r2 ∧ rZ fX1 fM1 := by
  have hb : 0 ≤ (fX 1 3).toInt ∧ (fX 1 3).toInt ≤ 8 := h.2.2.2.2.2.2 1 3
  have hid := h.2.2.2.2.2.1
  have e13 : (fX 1 3).toInt = (fM 0 6).toInt := h.1.1
  have k0 : (0 : Int32).toInt = 0 := by decide
  have j1 : (1 : Int64).toInt = 1 := by decide
  have j3 : (3 : Int64).toInt = 3 := by decide
  have epc := Int32.toInt_toInt64 (pc - pc / 10 * 10)
  have ek := Int32.toInt_toInt64 k
  have no : ∀ x : Int32, (r1, fX1) = (x, fX) → (r2, fM1) = (x, fM) → r1 = r2 ∧ rZ fX1 fM1 := fun x e1 e2 => by
    obtain ⟨a1, b1⟩ := Prod.mk.inj e1
    obtain ⟨a2, b2⟩ := Prod.mk.inj e2
    exact ⟨by rw [a1, a2], by rw [b1]; exact hz⟩
  obtain ⟨c, ec⟩ : ∃ z : Int32, z = pc - pc / 10 * 10 := ⟨_, rfl⟩
  -- when it is as said
  obtain ⟨Q, eQ⟩ : ∃ z : Prop, z = (¬ pc.toInt < 0 ∧ (0 ≤ (pc / 10).toInt ∧ (pc / 10).toInt ≤ 2) ∧ (1 ≤ c.toInt ∧ c.toInt ≤ 3) ∧ (k.toInt = -1 ∨ (0 ≤ k.toInt ∧ k.toInt < (fX 1 3).toInt))) := ⟨_, rfl⟩
  have inner : ∀ x : Int32 × sg_F, (Q → (if pc.toInt < 0 then (-1, fM) else if (if 0 ≤ (pc / 10).toInt ∧ (pc / 10).toInt ≤ 2 then (1 : Int32) else 0) = 1 then (if (if 1 ≤ c.toInt ∧ c.toInt ≤ 3 then (1 : Int32) else 0) = 1 then (if k.toInt = -1 then x else if (if 0 ≤ k.toInt ∧ k.toInt < (fX 1 3).toInt then (1 : Int32) else 0) = 1 then x else (-1, fM)) else (-1, fM)) else (-1, fM)) = x) ∧ (¬ Q → (if pc.toInt < 0 then (-1, fM) else if (if 0 ≤ (pc / 10).toInt ∧ (pc / 10).toInt ≤ 2 then (1 : Int32) else 0) = 1 then (if (if 1 ≤ c.toInt ∧ c.toInt ≤ 3 then (1 : Int32) else 0) = 1 then (if k.toInt = -1 then x else if (if 0 ≤ k.toInt ∧ k.toInt < (fX 1 3).toInt then (1 : Int32) else 0) = 1 then x else (-1, fM)) else (-1, fM)) else (-1, fM)) = (-1, fM)) := fun x => by
    refine ⟨fun z => ?_, fun z => ?_⟩
    · rw [eQ] at z
      obtain ⟨z1, z2, z3, z4⟩ := z
      rw [if_neg z1, if_pos z2, if_pos rfl, if_pos z3, if_pos rfl]
      by_cases y : k.toInt = -1
      · rw [if_pos y]
      · rw [if_neg y, if_pos (z4.resolve_left y), if_pos rfl]
    · rw [eQ] at z
      by_cases z1 : pc.toInt < 0
      · rw [if_pos z1]
      rw [if_neg z1]
      by_cases z2 : 0 ≤ (pc / 10).toInt ∧ (pc / 10).toInt ≤ 2
      case neg => rw [if_neg z2, if_neg zk0]
      rw [if_pos z2, if_pos rfl]
      by_cases z3 : 1 ≤ c.toInt ∧ c.toInt ≤ 3
      case neg => rw [if_neg z3, if_neg zk0]
      rw [if_pos z3, if_pos rfl]
      by_cases y : k.toInt = -1
      · exact absurd ⟨z1, z2, z3, Or.inl y⟩ z
      rw [if_neg y]
      by_cases z4 : 0 ≤ k.toInt ∧ k.toInt < (fX 1 3).toInt
      · exact absurd ⟨z1, z2, z3, Or.inr z4⟩ z
      · rw [if_neg z4, if_neg zk0]
  unfold sX11_chairs at e1; (repeat first | rw [spl_d] at e1 | rw [spl2_d] at e1)
  unfold sX12_chairs at e2; (repeat first | rw [spl_d] at e2 | rw [spl2_d] at e2)
  rw [pX_isShelf, pX_isPart, has_X, ← ec] at e1
  rw [pM_isPart, pM_within, epc, j1, j3, pM_isSitter _ _ _ (by omega), ek, ← e13, ← ec] at e2
  by_cases q1 : 0 ≤ d.toInt ∧ d.toInt ≤ 5
  case neg =>
    rw [if_neg q1, if_neg zk0] at e1
    rw [mbytes, if_neg q1, if_neg (by decide), if_pos rfl] at e2
    exact no _ e1 e2
  rw [if_pos q1, if_pos rfl] at e1
  have nb : ¬ sX12_bytesIs d fM LM = -1 := by
    rw [mbytes, if_pos q1]
    by_cases y : (fM 22 d.toNatClampNeg).toInt < 0
    · rw [if_pos y]; decide
    · rw [if_neg y]
      by_cases y2 : (fM 22 d.toNatClampNeg).toInt = 50
      · rw [if_pos y2]; decide
      · rw [if_neg y2]; decide
  have e2' : (Q → (r2, fM1) = sX12_chairs_b54 d pc k fM LM) ∧ (¬ Q → (r2, fM1) = (-1, fM)) := by
    have i := inner (sX12_chairs_b54 d pc k fM LM)
    by_cases y : sX12_bytesIs d fM LM = 1
    · rw [if_pos y] at e2
      exact ⟨fun z => e2.trans (i.1 z), fun z => e2.trans (i.2 z)⟩
    · rw [if_neg y, if_neg nb] at e2
      exact ⟨fun z => e2.trans (i.1 z), fun z => e2.trans (i.2 z)⟩
  have e1' : (Q → (r1, fX1) = sX11_chairs_b59 d pc k c fX LX) ∧ (¬ Q → (r1, fX1) = (-1, fX)) := by
    refine ⟨fun z => ?_, fun z => ?_⟩
    · rw [eQ] at z
      obtain ⟨z1, z2, z3, z4⟩ := z
      rw [if_neg z1, if_pos z2, if_pos rfl, if_neg (show ¬ c.toInt < 1 from by omega), if_neg (show ¬ 3 < c.toInt from by omega)] at e1
      by_cases y : k.toInt = -1
      · rw [if_pos y] at e1; exact e1
      · rw [if_neg y, if_pos (z4.resolve_left y), if_pos rfl] at e1; exact e1
    · rw [eQ] at z
      by_cases z1 : pc.toInt < 0
      · rw [if_pos z1] at e1; exact e1
      rw [if_neg z1] at e1
      by_cases z2 : 0 ≤ (pc / 10).toInt ∧ (pc / 10).toInt ≤ 2
      case neg => rw [if_neg z2, if_neg zk0] at e1; exact e1
      rw [if_pos z2, if_pos rfl] at e1
      by_cases z3 : c.toInt < 1
      · rw [if_pos z3] at e1; exact e1
      rw [if_neg z3] at e1
      by_cases z3' : 3 < c.toInt
      · rw [if_pos z3'] at e1; exact e1
      rw [if_neg z3'] at e1
      by_cases y : k.toInt = -1
      · exact absurd ⟨z1, z2, ⟨by omega, by omega⟩, Or.inl y⟩ z
      rw [if_neg y] at e1
      by_cases z4 : 0 ≤ k.toInt ∧ k.toInt < (fX 1 3).toInt
      · exact absurd ⟨z1, z2, ⟨by omega, by omega⟩, Or.inr z4⟩ z
      · rw [if_neg z4, if_neg zk0] at e1; exact e1
  clear e1 e2 inner
  by_cases hQ : Q
  case neg => exact no _ (e1'.2 hQ) (e2'.2 hQ)
  have e1 := e1'.1 hQ
  have e2 := e2'.1 hQ
  clear e1' e2'
  rw [eQ] at hQ
  obtain ⟨z1, z2, z3, z4⟩ := hQ
  unfold sX11_chairs_b59 at e1; (repeat first | rw [spl_d] at e1 | rw [spl2_d] at e1)
  unfold sX12_chairs_b54 at e2; (repeat first | rw [spl_d] at e2 | rw [spl2_d] at e2)
  rcases h.week hc hC q1 with ⟨a, b⟩ | ⟨a, b⟩ | ⟨b, W, N, f1, a, hN, hw, e, hr, -⟩
  · rw [a] at e1; dsimp only at e1; rw [if_neg (by decide)] at e1
    rw [b, if_neg (by decide), if_neg (by decide)] at e2
    exact no _ e1 e2
  · rw [a] at e1; dsimp only at e1; rw [if_neg (by decide)] at e1
    rw [b, if_neg (by decide), if_neg (by decide)] at e2
    exact no _ e1 e2
  rw [a] at e1; dsimp only at e1; rw [if_pos (by decide)] at e1
  rw [b, if_pos rfl] at e2
  have hl1 := rl_s hid hw hr
  have hW : wOk (fX 1 3).toInt N W := hw.2.2.2.2.2.1.W hN
  have hsh := hw.2.2.2.2.2.2.1
  obtain ⟨S, eS⟩ : ∃ x : Nat, (fX 1 3).toInt = (x : Int) := ⟨(fX 1 3).toInt.toNat, by omega⟩
  obtain ⟨hs, ehs⟩ : ∃ z : Nat → Int32, z = fun s => tms W s N := ⟨_, rfl⟩
  have hsj : ∀ s : Nat, hs s = tms W s N := fun s => by rw [ehs]
  have hh : ∀ s : Nat, s < 8 → 0 < (hs s).toInt → (s : Int) < (fX 1 3).toInt := fun s hs8 hp => by
    rw [hsj] at hp
    obtain ⟨j, j1, j2⟩ := tms_ex (W := W) (s := s) N hN hp
    rcases hW j j1 with w | ⟨w1, w2⟩ <;> omega
  have hX : ∀ u t : Nat, 0 ≤ Xv (fX 2) hl T n hs (pc / 10) u t ∧ Xv (fX 2) hl T n hs (pc / 10) u t ≤ 209979 := fun u t => by
    have tb := tms_b (W := W) (s := t) N hN
    have lb : 0 ≤ (lvf (fX 2) hl T n (pc / 10) (Int32.ofNat u) t).toInt ∧ (lvf (fX 2) hl T n (pc / 10) (Int32.ofNat u) t).toInt ≤ 9999 := lsv_b
    obtain ⟨q1, q2, q3⟩ := mul_le (a := hs t) (b := lvf (fX 2) hl T n (pc / 10) (Int32.ofNat u) t) (x := 21) (y := 9999) (by rw [hsj]; omega) lb (by decide)
    unfold Xv
    omega
  -- the class's sums
  have f12 : ∀ s : Nat, s < 8 → f1 12 s = hs s := fun s hs8 => by rw [hsj]; exact hr.2.2.2.1 s hs8
  obtain ⟨g1, g2⟩ := gather_S (f := f1) LX f12
  obtain ⟨F1, eF1⟩ : ∃ z : sg_F, z = sX8_gather f1 LX := ⟨_, rfl⟩
  rw [← eF1] at g1 g2
  have hz1 : F1 21 0 = 0 ∧ F1 22 0 = 0 := by
    rw [g2 21 (by decide) (by decide), g2 22 (by decide) (by decide), e 21 (by decide) (by decide) (by decide), e 22 (by decide) (by decide) (by decide)]
    exact hz.1
  have hc1 : xCx (fX 2) (fX 1 3).toInt hl T n F1 := hw.1.fr (g2 1 (by decide) (by decide)) (g2 2 (by decide) (by decide)) (g2 4 (by decide) (by decide)) (g2 7 (by decide) (by decide)) (g2 9 (by decide) (by decide))
  obtain ⟨s1, s2, s3, s4⟩ := sum_S (p := pc / 10) LX hb.2 z2 hh hX hc1 g1 (fun s hs8 => by rw [g2 12 (by decide) (by decide)]; exact f12 s hs8) hz1
  unfold sX8_parted at e1; (repeat first | rw [spl_d] at e1 | rw [spl2_d] at e1)
  rw [← eF1] at e1
  obtain ⟨F2, eF2⟩ : ∃ z : sg_F, z = sX8_sumGroups (pc / 10) F1 LX := ⟨_, rfl⟩
  rw [← eF2] at e1 s1 s2 s3 s4
  obtain ⟨F3, eF3⟩ : ∃ z : sg_F, z = sg_up (sg_up F2 17 (sgu (F2 17) 12 0)) 17 (sgu (sg_up F2 17 (sgu (F2 17) 12 0) 17) 10 c) := ⟨_, rfl⟩
  rw [← eF3] at e1
  have f3k : ∀ r : Nat, r ≠ 17 → F3 r = F2 r := fun r w => by rw [eF3, sg_up_n w, sg_up_n w]
  have f317 : F3 17 = sgu (sgu (F2 17) 12 0) 10 c := by rw [eF3, sg_up_s, sg_up_s]
  have f23 : ∀ t : Nat, t < 3 → F3 23 t = 0 := fun t ht => by
    rw [f3k 23 (by decide), s4 23 (by decide) (by decide) (by decide) (by decide), g2 23 (by decide) (by decide), e 23 (by decide) (by decide) (by decide)]
    exact hz.2 t ht
  have hex : evX hs (Xv (fX 2) hl T n hs (pc / 10)) c F3 := by
    refine ⟨?_, by rw [f317, sgu_s], by rw [f3k 22 (by decide)]; exact s2.2, fun mask hmask => by rw [f3k 22 (by decide)]; exact s1 mask hmask⟩
    rw [f317, sgu_n (by decide), sgu_n (by decide), s4 17 (by decide) (by decide) (by decide) (by decide)]
    exact g1.1
  -- the reference's
  have hR : mWk (fX 2) (fX 1 3).toInt hl T n W N d LM fM := ⟨hC, hl1.2.2.2.1, hsh, hid.2.2.2.2.2.2⟩
  obtain ⟨G1, t1, t2, t3, t4⟩ := mall_S (x2 := k) hR hm hb.2 hN hW z2
  have nI : (Int32.ofNat N).toInt = (N : Int) := ofN_I (by omega)
  rw [t1] at e2
  unfold sX12_chairs_h96 at e2; (repeat first | rw [spl_d] at e2 | rw [spl2_d] at e2)
  have hsh2 := t2.2.2.1
  rw [if_neg (show ¬ (Int32.ofNat N).toInt < (sX12_shiftsOf d G1 LM).toInt from by omega), ← ec] at e2
  have hset := sets_l t2 hb.2 hN
  obtain ⟨st, est⟩ : ∃ z : Int32, z = sX12_sitsSet d G1 LM := ⟨_, rfl⟩
  rw [← est] at e2 hset
  obtain ⟨G2, eG2⟩ : ∃ z : sg_F, z = sg_up G1 0 (sgu (G1 0) 35 (-1)) := ⟨_, rfl⟩
  rw [← eG2] at e2
  have g2k : ∀ r : Nat, r ≠ 0 → G2 r = G1 r := fun r w => by rw [eG2, sg_up_n w]
  have g20 : G2 0 = sgu (G1 0) 35 (-1) := by rw [eG2, sg_up_s]
  have hem : evM hs (Xv (fX 2) hl T n hs (pc / 10)) S G2 := by
    refine ⟨by rw [g20, sgu_n (by decide), t4]; omega, fun s v hs8 hv => ?_⟩
    rw [g2k 14 (by decide), t3 s v hs8 hv]
    unfold Xv
    rw [hsj]
  obtain ⟨w1, w2, w3⟩ := ways (LX := LX) (LM := LM) (h := hs) (S := S) (fr := c) (x2 := st) (by omega) hX (fun s hs8 hp => by have := hh s hs8 hp; omega) (fun s hs8 => by rw [hsj]; exact hset s hs8) z3 S 0 (by omega) 0 (fun _ => 0) F3 G2 0 (by decide) (by decide) (by omega) (by decide) hex hem ⟨fun t ht => ⟨by rw [f23 t ht]; rfl, show 0 < 2 ^ rkS hs 0 from Nat.one_le_two_pow⟩, fun t _ => ⟨fun w => absurd rfl w, fun w => absurd w (Nat.not_lt_zero t)⟩, fun t ht => absurd ht (Nat.not_lt_zero t)⟩ (Or.inl ⟨by rw [f317, sgu_n (by decide), sgu_s]; exact k0, by rw [g20, sgu_s]; decide⟩)
  have ep : ptF (rkS hs 0) F3 LX = sX8_part_0 F3 LX := rfl
  have eq : chF 0 0 st c G2 LM = sX12_chairsOn_0 0 st c G2 LM := rfl
  rw [ep, eq] at w1
  rw [ep] at w2
  obtain ⟨F4, eF4⟩ : ∃ z : sg_F, z = sX8_part_0 F3 LX := ⟨_, rfl⟩
  obtain ⟨G3, eG3⟩ : ∃ z : sg_F, z = sX12_chairsOn_0 0 st c G2 LM := ⟨_, rfl⟩
  rw [← eF4] at e1 w1 w2
  rw [← eG3] at e2 w1
  have hz4 : rZ F4 fM1 := by
    refine ⟨?_, fun t ht => by rw [w2.2.2.2 t ht]; exact f23 t ht⟩
    rw [w2.1 21 (by decide) (by decide) (by decide), w2.1 22 (by decide) (by decide) (by decide), f3k 21 (by decide), f3k 22 (by decide)]
    exact s2
  have g14 : gOne hs F4 := by
    refine ⟨by rw [w2.2.1]; exact hex.1, fun s hs8 hp => ?_⟩
    rw [w2.1 20 (by decide) (by decide) (by decide), f3k 20 (by decide), s4 20 (by decide) (by decide) (by decide) (by decide)]
    exact g1.2 s hs8 hp
  by_cases y : k.toInt = -1
  · rw [if_pos y] at e1
    rw [if_pos (show k.toInt < 0 from by omega)] at e2
    obtain ⟨a1, b1⟩ := Prod.mk.inj e1
    obtain ⟨a2, b2⟩ := Prod.mk.inj e2
    exact ⟨by rw [a1, a2]; exact w1.2.1, by rw [b1]; exact hz4⟩
  · have hk := z4.resolve_left y
    have ck := bn_clI hk.1
    rw [if_neg y, chairOf_S LX g14 w1 ⟨hk.1, by omega⟩] at e1
    rw [if_neg (show ¬ k.toInt < 0 from by omega), isIn_mi ⟨hk.1, by omega⟩] at e2
    obtain ⟨a1, b1⟩ := Prod.mk.inj e1
    refine ⟨?_, by rw [b1]; exact hz4⟩
    have hsk := hset k.toNatClampNeg (by omega)
    rw [hsj] at a1
    by_cases x : 0 < (tms W k.toNatClampNeg N).toInt
    · rw [if_pos x] at a1
      rw [hsk.mpr x, if_pos rfl, if_neg (by decide)] at e2
      obtain ⟨a2, b2⟩ := Prod.mk.inj e2
      rw [a1, a2]
    · rw [if_neg x] at a1
      rw [Bool.eq_false_iff.mpr (fun v => x (hsk.mp v)), if_neg Bool.false_ne_true, if_pos k0] at e2
      obtain ⟨a2, b2⟩ := Prod.mk.inj e2
      rw [a1, a2]
