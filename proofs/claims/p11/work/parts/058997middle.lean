/-! MIDDLE -/
/-- the weight of one who sits -/
def wgt (m : Nat → Int32) (s : Nat) : Int32 := m (8 * s + 5) * (m (8 * s + 3) + m (8 * s + 4))
/-- of those who want less than a setting, just a setting -/
def wlt (m : Nat → Int32) (p i : Nat) (s : Nat) : Int32 := if (m (8 * s + p)).toInt < (i : Int) then wgt m s else 0
def weq (m : Nat → Int32) (p i : Nat) (s : Nat) : Int32 := if (m (8 * s + p)).toInt = (i : Int) then wgt m s else 0
theorem wlt_1 (m : Nat → Int32) (p i s : Nat) : wlt m p (i + 1) s = wlt m p i s + weq m p i s := by
  unfold wlt weq
  by_cases a : (m (8 * s + p)).toInt < (i : Int)
  · rw [if_pos a, if_pos (by omega), if_neg (by omega), Int32.add_zero]
  · rw [if_neg a]
    by_cases b : (m (8 * s + p)).toInt = (i : Int)
    · rw [if_pos b, if_pos (by omega), Int32.zero_add]
    · rw [if_neg b, if_neg (by omega), Int32.zero_add]
theorem aS_add {h a b c : Nat → Int32} (e : ∀ s : Nat, c s = a s + b s) : ∀ k : Nat, aS h c k = aS h a k + aS h b k := by
  intro k
  induction k with
  | zero => show (0 : Int32) = 0 + 0; rw [Int32.add_zero]
  | succ k ih =>
    show aS h c k + h k * c k = (aS h a k + h k * a k) + (aS h b k + h k * b k)
    rw [ih, e k, Int32.mul_add]
    ac_rfl
theorem aS_cg {h a b : Nat → Int32} : ∀ k : Nat, (∀ s : Nat, s < k → a s = b s) → aS h a k = aS h b k := by
  intro k
  induction k with
  | zero => intro _; rfl
  | succ k ih =>
    intro e
    show aS h a k + h k * a k = aS h b k + h k * b k
    rw [ih (fun s hs => e s (by omega)), e k (by omega)]
theorem aS_l0 {h l : Nat → Int32} (e : ∀ s : Nat, l s = 0) : ∀ k : Nat, aS h l k = 0 := by
  intro k
  induction k with
  | zero => rfl
  | succ k ih =>
    show aS h l k + h k * l k = 0
    rw [ih, e k, Int32.mul_zero]; rfl
/-- the class's weights by i who may sit -/
def xWg (m : Nat → Int32) (p N : Nat) (W : Nat → Int32) (i : Nat) (f : sg_F) : Prop := ∀ v : Nat, v < 61 → f 18 v = aS (fun s => tms W s N) (weq m p v) i ∧ ((f 19 v).toInt ≠ 0 ↔ ∃ s : Nat, s < i ∧ 0 < (tms W s N).toInt ∧ (m (8 * s + p)).toInt = (v : Int))
theorem xwg_l {m : Nat → Int32} {W : Nat → Int32} {N : Nat} {x0 : Int32} {f0 : sg_F} {L : sg_L} (hm : mOk m) (hN : N ≤ 21) (hp : 0 ≤ x0.toInt ∧ x0.toInt ≤ 2) : ∀ (q i : Nat) (y : Int32) (f : sg_F), y.toInt = i → i ≤ 8 → 8 - i < q → f 2 = m → (∀ s : Nat, s < 8 → f 12 s = tms W s N) → xWg m x0.toNatClampNeg N W i f → (∀ k : Nat, k ≠ 18 → k ≠ 19 → f k = f0 k) → ∃ f1 : sg_F, sX8_weighWants_l32 x0 q (aS (fun s => tms W s N) (wgt m) i) y f L = (aS (fun s => tms W s N) (wgt m) 8, f1) ∧ xWg m x0.toNatClampNeg N W 8 f1 ∧ ∀ k : Nat, k ≠ 18 → k ≠ 19 → f1 k = f0 k := by
  have k3 : (3 : Int32).toInt = 3 := by decide
  have k4 : (4 : Int32).toInt = 4 := by decide
  have k5 : (5 : Int32).toInt = 5 := by decide
  have c3 : (3 : Int32).toNatClampNeg = 3 := by decide
  have c4 : (4 : Int32).toNatClampNeg = 4 := by decide
  have c5 : (5 : Int32).toNatClampNeg = 5 := by decide
  have cp := bn_clI hp.1
  obtain ⟨p, ep⟩ : ∃ z : Nat, z = x0.toNatClampNeg := ⟨_, rfl⟩
  rw [← ep]
  intro q
  induction q with
  | zero => intro i y f _ _ h; exact absurd h (by omega)
  | succ q ih =>
    intro i y f ey hi hq h2 h12 hw hfr
    have e9 : sX8_weighWants_l32 x0 (q + 1) (aS (fun s => tms W s N) (wgt m) i) y f L = sX8_weighWants_h32 x0 (sX8_weighWants_l32 x0 q) (aS (fun s => tms W s N) (wgt m) i) y f L := rfl
    have cy := bn_clI (x := y) (by omega)
    have eyn : y.toNatClampNeg = i := by omega
    have ey1 := inc1 ey (by omega)
    rw [e9]
    unfold sX8_weighWants_h32 sX8_weighWants_b131; (repeat first | rw [spl_d] | rw [spl2_d])
    by_cases c : i < 8
    case neg =>
      rw [if_neg (show ¬ y.toInt < 8 from by omega)]
      have : i = 8 := by omega
      subst this
      exact ⟨f, rfl, hw, hfr⟩
    have hy : 0 ≤ y.toInt ∧ y.toInt ≤ 7 := by omega
    rw [if_pos (show y.toInt < 8 from by omega), eyn, h12 i c]
    obtain ⟨tb1, tb2⟩ := tms_b (W := W) (s := i) N hN
    by_cases z : 0 < (tms W i N).toInt
    · rw [if_pos z, numX hy ⟨hp.1, by omega⟩, numX (w := 3) hy (by rw [k3]; decide), numX (w := 4) hy (by rw [k4]; decide), numX (w := 5) hy (by rw [k5]; decide), h2, c3, c4, c5, eyn, ← ep]
      obtain ⟨b1, -⟩ := hm i c
      have bw := b1 p (by omega)
      obtain ⟨w, ew⟩ : ∃ x : Int32, x = m (8 * i + p) := ⟨_, rfl⟩
      rw [← ew] at bw ⊢
      have cw := bn_clI bw.1
      obtain ⟨wn, ewn⟩ : ∃ x : Nat, x = w.toNatClampNeg := ⟨_, rfl⟩
      rw [← ewn] at cw ⊢
      obtain ⟨u, eu⟩ : ∃ x : Int32, x = tms W i N * m (8 * i + 5) * (m (8 * i + 3) + m (8 * i + 4)) := ⟨_, rfl⟩
      rw [← eu]
      have eu2 : u = tms W i N * wgt m i := by rw [eu]; unfold wgt; rw [Int32.mul_assoc]
      have st : aS (fun s => tms W s N) (wgt m) i + u = aS (fun s => tms W s N) (wgt m) (i + 1) := by rw [eu2]; rfl
      rw [st]
      obtain ⟨g1, eg1⟩ : ∃ x : sg_F, x = sg_up f 18 (sgu (f 18) wn (f 18 wn + u)) := ⟨_, rfl⟩
      rw [← eg1]
      obtain ⟨g2, eg2⟩ : ∃ x : sg_F, x = sg_up g1 19 (sgu (g1 19) wn 1) := ⟨_, rfl⟩
      rw [← eg2]
      have gk : ∀ r : Nat, r ≠ 18 → r ≠ 19 → g2 r = f r := fun r a b => by rw [eg2, sg_up_n b, eg1, sg_up_n a]
      have g18 : g2 18 = sgu (f 18) wn (f 18 wn + u) := by rw [eg2, sg_up_n (show (18 : Nat) ≠ 19 by decide), eg1, sg_up_s]
      have g19 : g2 19 = sgu (f 19) wn 1 := by rw [eg2, sg_up_s, eg1, sg_up_n (show (19 : Nat) ≠ 18 by decide)]
      have hw2 : xWg m p N W (i + 1) g2 := by
        intro v hv
        obtain ⟨w1, w2⟩ := hw v hv
        have sv : aS (fun s => tms W s N) (weq m p v) (i + 1) = aS (fun s => tms W s N) (weq m p v) i + tms W i N * weq m p v i := rfl
        rw [g18, g19]
        by_cases y1 : v = wn
        · subst y1
          have e1 : weq m p v i = wgt m i := by unfold weq; rw [← ew, if_pos (by omega)]
          rw [sgu_s, sgu_s, sv, e1, w1, eu2]
          exact ⟨rfl, fun _ => ⟨i, by omega, z, by rw [← ew]; omega⟩, fun _ => by decide⟩
        · have e1 : weq m p v i = 0 := by unfold weq; rw [← ew, if_neg (by omega)]
          rw [sgu_n y1, sgu_n y1, sv, e1, Int32.mul_zero, Int32.add_zero]
          refine ⟨w1, fun a => ?_, fun a => ?_⟩
          · obtain ⟨s, s1, s2, s3⟩ := w2.mp a
            exact ⟨s, by omega, s2, s3⟩
          · obtain ⟨s, s1, s2, s3⟩ := a
            refine w2.mpr ⟨s, ?_, s2, s3⟩
            by_cases y2 : s = i
            · rw [y2, ← ew] at s3; exact absurd s3 (by omega)
            · omega
      exact ih (i + 1) (y + 1) g2 ey1 (by omega) (by omega) (by rw [gk 2 (by decide) (by decide)]; exact h2) (fun s hs => by rw [gk 12 (by decide) (by decide)]; exact h12 s hs) hw2 (fun k a b => by rw [gk k a b]; exact hfr k a b)
    · rw [if_neg z]
      have t0 : tms W i N = 0 := Int32.toInt_inj.mp (by rw [show (0 : Int32).toInt = 0 from by decide]; omega)
      have st : aS (fun s => tms W s N) (wgt m) i = aS (fun s => tms W s N) (wgt m) (i + 1) := by
        show _ = aS (fun s => tms W s N) (wgt m) i + tms W i N * wgt m i
        rw [t0, Int32.zero_mul, Int32.add_zero]
      rw [st]
      refine ih (i + 1) (y + 1) f ey1 (by omega) (by omega) h2 h12 (fun v hv => ?_) hfr
      obtain ⟨w1, w2⟩ := hw v hv
      have sv : aS (fun s => tms W s N) (weq m p v) (i + 1) = aS (fun s => tms W s N) (weq m p v) i + tms W i N * weq m p v i := rfl
      rw [sv, t0, Int32.zero_mul, Int32.add_zero]
      refine ⟨w1, fun a => ?_, fun a => ?_⟩
      · obtain ⟨s, s1, s2, s3⟩ := w2.mp a
        exact ⟨s, by omega, s2, s3⟩
      · obtain ⟨s, s1, s2, s3⟩ := a
        refine w2.mpr ⟨s, ?_, s2, s3⟩
        by_cases y2 : s = i
        · rw [y2] at s2; exact absurd s2 z
        · omega
theorem xwg {m : Nat → Int32} {W : Nat → Int32} {N : Nat} {x0 : Int32} {f : sg_F} {L : sg_L} (hm : mOk m) (hN : N ≤ 21) (hp : 0 ≤ x0.toInt ∧ x0.toInt ≤ 2) (h2 : f 2 = m) (h12 : ∀ s : Nat, s < 8 → f 12 s = tms W s N) : ∃ f1 : sg_F, sX8_weighWants x0 f L = (aS (fun s => tms W s N) (wgt m) 8, f1) ∧ xWg m x0.toNatClampNeg N W 8 f1 ∧ ∀ k : Nat, k ≠ 18 → k ≠ 19 → f1 k = f k := by
  have k0 : (0 : Int32).toInt = 0 := by decide
  have go : ∀ (q i : Nat) (y : Int32) (g : sg_F), y.toInt = i → i ≤ 61 → 61 - i < q → (∀ v : Nat, v < i → g 18 v = 0 ∧ g 19 v = 0) → (∀ k : Nat, k ≠ 18 → k ≠ 19 → g k = f k) → ∃ f1 : sg_F, sX8_weighWants_l4 x0 q y g L = (aS (fun s => tms W s N) (wgt m) 8, f1) ∧ xWg m x0.toNatClampNeg N W 8 f1 ∧ ∀ k : Nat, k ≠ 18 → k ≠ 19 → f1 k = f k := by
    intro q
    induction q with
    | zero => intro i y g _ _ h; exact absurd h (by omega)
    | succ q ih =>
      intro i y g ey hi hq h0 hfr
      have e9 : sX8_weighWants_l4 x0 (q + 1) y g L = sX8_weighWants_h4 x0 (sX8_weighWants_l4 x0 q) y g L := rfl
      have cy := bn_clI (x := y) (by omega)
      have eyn : y.toNatClampNeg = i := by omega
      rw [e9]
      unfold sX8_weighWants_h4; (repeat first | rw [spl_d] | rw [spl2_d])
      by_cases c : i < 61
      case neg =>
        rw [if_pos (show 60 < y.toInt from by omega)]
        refine xwg_l (L := L) hm hN hp 9 0 0 g (by decide) (by decide) (by decide) (by rw [hfr 2 (by decide) (by decide)]; exact h2) (fun s hs => by rw [hfr 12 (by decide) (by decide)]; exact h12 s hs) (fun v hv => ?_) hfr
        obtain ⟨a, b⟩ := h0 v (by omega)
        rw [a, b]
        exact ⟨rfl, fun x => absurd k0 x, fun x => by obtain ⟨s, s1, -⟩ := x; exact absurd s1 (by omega)⟩
      rw [if_neg (show ¬ 60 < y.toInt from by omega), eyn]
      obtain ⟨g1, eg1⟩ : ∃ x : sg_F, x = sg_up g 18 (sgu (g 18) i 0) := ⟨_, rfl⟩
      rw [← eg1]
      obtain ⟨g2, eg2⟩ : ∃ x : sg_F, x = sg_up g1 19 (sgu (g1 19) i 0) := ⟨_, rfl⟩
      rw [← eg2]
      have g18 : g2 18 = sgu (g 18) i 0 := by rw [eg2, sg_up_n (show (18 : Nat) ≠ 19 by decide), eg1, sg_up_s]
      have g19 : g2 19 = sgu (g 19) i 0 := by rw [eg2, sg_up_s, eg1, sg_up_n (show (19 : Nat) ≠ 18 by decide)]
      refine ih (i + 1) (y + 1) g2 (inc1 ey (by omega)) (by omega) (by omega) (fun v hv => ?_) (fun k a b => by rw [eg2, sg_up_n b, eg1, sg_up_n a]; exact hfr k a b)
      rw [g18, g19]
      by_cases y1 : v = i
      · rw [y1, sgu_s, sgu_s]; exact ⟨rfl, rfl⟩
      · rw [sgu_n y1, sgu_n y1]; exact h0 v (by omega)
  exact go 62 0 0 f (by decide) (by decide) (by decide) (fun v hv => absurd hv (by omega)) (fun _ _ _ => rfl)
/-- the reference's weights -/
theorem mwof {m : Nat → Int32} {hl : Bool} {T : Nat → Int32} {n : Nat} {s : Int32} {g : sg_F} {L : sg_L} (hC : mCx m hl T n g) (hs : 0 ≤ s.toInt ∧ s.toInt ≤ 7) : sX12_weightOf s g L = wgt m s.toNatClampNeg := by
  have k3 : (3 : Int32).toInt = 3 := by decide
  have k4 : (4 : Int32).toInt = 4 := by decide
  have k5 : (5 : Int32).toInt = 5 := by decide
  have cs := bn_clI hs.1
  unfold sX12_weightOf; (repeat first | rw [spl_d] | rw [spl2_d])
  rw [numM (w := 3) hs (by rw [k3]; decide), numM (w := 4) hs (by rw [k4]; decide), numM (w := 5) hs (by rw [k5]; decide), show (3 : Int32).toNatClampNeg = 3 from by decide, show (4 : Int32).toNatClampNeg = 4 from by decide, show (5 : Int32).toNatClampNeg = 5 from by decide, hC.1 _ 3 (by omega) (by decide), hC.1 _ 4 (by omega) (by decide), hC.1 _ 5 (by omega) (by decide)]
  rfl
theorem mwto {m : Nat → Int32} {S : Int} {hl : Bool} {T : Nat → Int32} {n : Nat} {W : Nat → Int32} {N : Nat} {d x1 x2 : Int32} {LM : sg_L} {f g : sg_F} {v : Nat} (h : lS m S hl T n W N d LM f g) (hS : S ≤ 8) (hN : N ≤ 21) (hp : 0 ≤ x1.toInt ∧ x1.toInt ≤ 2) (hv : x2.toInt = v) : sX12_weightTo d x1 x2 g LM = aS (fun s => tms W s N) (wlt m x1.toNatClampNeg (v + 1)) 8 := by
  obtain ⟨h1, h2, h3, h4, h5, h6⟩ := h
  have cp := bn_clI hp.1
  have hW : ∀ j : Nat, j < N → (W j).toInt = -1 ∨ (0 ≤ (W j).toInt ∧ (W j).toInt < S) := h4.W hN
  rw [aS_nS hS N hW]
  obtain ⟨l, el⟩ : ∃ z : Nat → Int32, z = wlt m x1.toNatClampNeg (v + 1) := ⟨_, rfl⟩
  rw [← el]
  have go : ∀ (q i : Nat) (y : Int32), y.toInt = i → i ≤ N → N - i < q → sX12_weightTo_l6 d x1 x2 q (nS W l i) y g LM = nS W l N := by
    intro q
    induction q with
    | zero => intro i y _ _ h; exact absurd h (by omega)
    | succ q ih =>
      intro i y ey hi hq
      have e9 : sX12_weightTo_l6 d x1 x2 (q + 1) (nS W l i) y g LM = sX12_weightTo_h6 d x1 x2 (sX12_weightTo_l6 d x1 x2 q) (nS W l i) y g LM := rfl
      have ey1 := inc1 ey (by omega)
      rw [e9]
      unfold sX12_weightTo_h6; (repeat first | rw [spl_d] | rw [spl2_d])
      by_cases c : i < N
      case neg =>
        rw [if_neg (show ¬ y.toInt < (sX12_shiftsOf d g LM).toInt from by omega)]
        have : i = N := by omega
        rw [this]
      rw [if_pos (show y.toInt < (sX12_shiftsOf d g LM).toInt from by omega)]
      have st : nS W l (i + 1) = nS W l i + (if 0 ≤ (W i).toInt then l (W i).toNatClampNeg else 0) := rfl
      rcases h4 y i ey c with ⟨w1, w2⟩ | ⟨w1, w2, w3, w4⟩
      · have w2 : (sX12_whoSits d y g LM).toInt < 0 := w2.resolve_right (fun z => z (by rw [h6]; decide))
        rw [if_neg (show ¬ 0 ≤ (W i).toInt from by omega), Int32.add_zero] at st
        rw [if_pos w2, ← st]
        exact ih (i + 1) (y + 1) ey1 (by omega) (by omega)
      · have hs : 0 ≤ (W i).toInt ∧ (W i).toInt ≤ 7 := by omega
        have cw := bn_clI w1
        rw [w3, if_neg (show ¬ (W i).toInt < 0 from by omega), numM hs ⟨hp.1, by omega⟩, h2.1 _ _ (by omega) (by omega), mwof h2 hs]
        rw [if_pos w1] at st
        have e1 : l (W i).toNatClampNeg = if (m (8 * (W i).toNatClampNeg + x1.toNatClampNeg)).toInt < ((v + 1 : Nat) : Int) then wgt m (W i).toNatClampNeg else 0 := by rw [el]; rfl
        by_cases z : x2.toInt < (m (8 * (W i).toNatClampNeg + x1.toNatClampNeg)).toInt
        · rw [if_neg (by omega)] at e1
          rw [e1, Int32.add_zero] at st
          rw [if_pos z, ← st]
          exact ih (i + 1) (y + 1) ey1 (by omega) (by omega)
        · rw [if_pos (by omega)] at e1
          rw [e1] at st
          rw [if_neg z, ← st]
          exact ih (i + 1) (y + 1) ey1 (by omega) (by omega)
  exact go 22 0 0 (by decide) (Nat.zero_le _) (by omega)
theorem mwnt {m : Nat → Int32} {S : Int} {hl : Bool} {T : Nat → Int32} {n : Nat} {W : Nat → Int32} {N : Nat} {d x1 x2 : Int32} {LM : sg_L} {f g : sg_F} (h : lS m S hl T n W N d LM f g) (hS : S ≤ 8) (hN : N ≤ 21) (hp : 0 ≤ x1.toInt ∧ x1.toInt ≤ 2) : (sX12_isWanted d x1 x2 g LM = 1 ∧ ∃ j : Nat, j < N ∧ 0 ≤ (W j).toInt ∧ (m (8 * (W j).toNatClampNeg + x1.toNatClampNeg)).toInt = x2.toInt) ∨ (sX12_isWanted d x1 x2 g LM = 0 ∧ ∀ j : Nat, j < N → 0 ≤ (W j).toInt → (m (8 * (W j).toNatClampNeg + x1.toNatClampNeg)).toInt ≠ x2.toInt) := by
  obtain ⟨h1, h2, h3, h4, h5, h6⟩ := h
  have cp := bn_clI hp.1
  have go : ∀ (q i : Nat) (y : Int32), y.toInt = i → i ≤ N → N - i < q → (∀ j : Nat, j < i → 0 ≤ (W j).toInt → (m (8 * (W j).toNatClampNeg + x1.toNatClampNeg)).toInt ≠ x2.toInt) → (sX12_isWanted_l3 d x1 x2 q y g LM = 1 ∧ ∃ j : Nat, j < N ∧ 0 ≤ (W j).toInt ∧ (m (8 * (W j).toNatClampNeg + x1.toNatClampNeg)).toInt = x2.toInt) ∨ (sX12_isWanted_l3 d x1 x2 q y g LM = 0 ∧ ∀ j : Nat, j < N → 0 ≤ (W j).toInt → (m (8 * (W j).toNatClampNeg + x1.toNatClampNeg)).toInt ≠ x2.toInt) := by
    intro q
    induction q with
    | zero => intro i y _ _ h; exact absurd h (by omega)
    | succ q ih =>
      intro i y ey hi hq hA
      have e9 : sX12_isWanted_l3 d x1 x2 (q + 1) y g LM = sX12_isWanted_h3 d x1 x2 (sX12_isWanted_l3 d x1 x2 q) y g LM := rfl
      have ey1 := inc1 ey (by omega)
      rw [e9]
      unfold sX12_isWanted_h3 sX12_isWanted_b41; (repeat first | rw [spl_d] | rw [spl2_d])
      by_cases c : i < N
      case neg =>
        rw [if_neg (show ¬ y.toInt < (sX12_shiftsOf d g LM).toInt from by omega)]
        exact Or.inr ⟨rfl, fun j hj => hA j (by omega)⟩
      rw [if_pos (show y.toInt < (sX12_shiftsOf d g LM).toInt from by omega)]
      rcases h4 y i ey c with ⟨w1, w2⟩ | ⟨w1, w2, w3, w4⟩
      · have w2 : (sX12_whoSits d y g LM).toInt < 0 := w2.resolve_right (fun z => z (by rw [h6]; decide))
        rw [if_pos w2]
        refine ih (i + 1) (y + 1) ey1 (by omega) (by omega) (fun j j1 j2 => ?_)
        by_cases z : j = i
        · rw [z] at j2; exact absurd j2 (by omega)
        · exact hA j (by omega) j2
      · have hs : 0 ≤ (W i).toInt ∧ (W i).toInt ≤ 7 := by omega
        have cw := bn_clI w1
        rw [w3, if_neg (show ¬ (W i).toInt < 0 from by omega), numM hs ⟨hp.1, by omega⟩, h2.1 _ _ (by omega) (by omega)]
        by_cases z : (m (8 * (W i).toNatClampNeg + x1.toNatClampNeg)).toInt = x2.toInt
        · rw [if_pos z]
          exact Or.inl ⟨rfl, i, c, w1, z⟩
        · rw [if_neg z]
          refine ih (i + 1) (y + 1) ey1 (by omega) (by omega) (fun j j1 j2 => ?_)
          by_cases x : j = i
          · rw [x]; exact z
          · exact hA j (by omega) j2
  exact go 22 0 0 (by decide) (Nat.zero_le _) (by omega) (fun j hj => absurd hj (by omega))
/-- both loops over the settings -/
theorem mid_l {m : Nat → Int32} {S : Int} {hl : Bool} {T : Nat → Int32} {n : Nat} {W : Nat → Int32} {N : Nat} {d x1 a : Int32} {LX LM : sg_L} {f f0 g : sg_F} (h : lS m S hl T n W N d LM f0 g) (hS : S ≤ 8) (hN : N ≤ 21) (hp : 0 ≤ x1.toInt ∧ x1.toInt ≤ 2) (hw : xWg m x1.toNatClampNeg N W 8 f) : ∀ (q i : Nat) (y : Int32), y.toInt = i → i ≤ 61 → 61 - i < q → ∃ r : Int32, sX8_middleWant_l11 x1 q a (aS (fun s => tms W s N) (wlt m x1.toNatClampNeg i) 8) y f LX = (r, f) ∧ sX12_middle_l44 d x1 q a y g LM = r := by
  have hW : ∀ j : Nat, j < N → (W j).toInt = -1 ∨ (0 ≤ (W j).toInt ∧ (W j).toInt < S) := h.2.2.2.1.W hN
  have k0 : (0 : Int32).toInt = 0 := by decide
  have k1 : (1 : Int32).toInt = 1 := by decide
  intro q
  induction q with
  | zero => intro i y _ _ h; exact absurd h (by omega)
  | succ q ih =>
    intro i y ey hi hq
    have e9 : sX8_middleWant_l11 x1 (q + 1) a (aS (fun s => tms W s N) (wlt m x1.toNatClampNeg i) 8) y f LX = sX8_middleWant_h11 x1 (sX8_middleWant_l11 x1 q) a (aS (fun s => tms W s N) (wlt m x1.toNatClampNeg i) 8) y f LX := rfl
    have e8 : sX12_middle_l44 d x1 (q + 1) a y g LM = sX12_middle_h44 d x1 (sX12_middle_l44 d x1 q) a y g LM := rfl
    have cy := bn_clI (x := y) (by omega)
    have eyn : y.toNatClampNeg = i := by omega
    have ey1 := inc1 ey (by omega)
    rw [e9, e8]
    unfold sX8_middleWant_h11 sX8_middleWant_b48 sX12_middle_h44 sX12_middle_b79; (repeat first | rw [spl_d] | rw [spl2_d])
    by_cases c : i < 61
    case neg =>
      rw [if_pos (show 60 < y.toInt from by omega), if_neg (show ¬ y.toInt < 61 from by omega)]
      exact ⟨_, rfl, rfl⟩
    rw [if_neg (show ¬ 60 < y.toInt from by omega), if_pos (show y.toInt < 61 from by omega), eyn]
    obtain ⟨w1, w2⟩ := hw i c
    have st : aS (fun s => tms W s N) (wlt m x1.toNatClampNeg i) 8 + f 18 i = aS (fun s => tms W s N) (wlt m x1.toNatClampNeg (i + 1)) 8 := by
      rw [w1]
      exact (aS_add (wlt_1 m x1.toNatClampNeg i) 8).symm
    rw [st, mwto h hS hN hp ey]
    obtain ⟨b, eb⟩ : ∃ z : Int32, z = aS (fun s => tms W s N) (wlt m x1.toNatClampNeg (i + 1)) 8 := ⟨_, rfl⟩
    have ihn := ih (i + 1) (y + 1) ey1 (by omega) (by omega)
    rw [← eb] at ihn ⊢
    have wi : (f 19 i).toInt ≠ 0 ↔ ∃ j : Nat, j < N ∧ 0 ≤ (W j).toInt ∧ (m (8 * (W j).toNatClampNeg + x1.toNatClampNeg)).toInt = y.toInt := by
      refine ⟨fun z => ?_, fun z => ?_⟩
      · obtain ⟨s, s1, s2, s3⟩ := w2.mp z
        obtain ⟨j, j1, j2⟩ := tms_ex (W := W) (s := s) N hN s2
        have cj := bn_clI (x := W j) (by omega)
        exact ⟨j, j1, by omega, by rw [show (W j).toNatClampNeg = s from by omega, s3, ey]⟩
      · obtain ⟨j, j1, j2, j3⟩ := z
        have cj := bn_clI j2
        have hj := hW j j1
        refine w2.mpr ⟨(W j).toNatClampNeg, by omega, tms_in N hN j j1 (by omega), by rw [j3, ey]⟩
    rcases mwnt (x2 := y) h hS hN hp with ⟨u1, u2⟩ | ⟨u1, u2⟩
    · have z1 := wi.mpr u2
      rw [u1, if_neg z1, if_neg (show ¬ (1 : Int32).toInt = 0 from by decide), Int32.mul_comm b 2]
      by_cases z : (2 * b).toInt < a.toInt
      · rw [if_pos z, if_pos z]; exact ihn
      · rw [if_neg z, if_neg z]; exact ⟨_, rfl, rfl⟩
    · have z1 : (f 19 i).toInt = 0 := Classical.byContradiction (fun z => by
        obtain ⟨j, j1, j2, j3⟩ := wi.mp z
        exact u2 j j1 j2 j3)
      rw [u1, if_pos z1, if_pos k0]
      exact ihn
/-- nobody sits -/
theorem mid_no {m : Nat → Int32} {S : Int} {hl : Bool} {T : Nat → Int32} {n : Nat} {W : Nat → Int32} {N : Nat} {d x1 a : Int32} {LM : sg_L} {f g : sg_F} (h : lS m S hl T n W N d LM f g) (hS : S ≤ 8) (hN : N ≤ 21) (hp : 0 ≤ x1.toInt ∧ x1.toInt ≤ 2) (hw : ∀ j : Nat, j < N → (W j).toInt < 0) : ∀ (q i : Nat) (y : Int32), y.toInt = i → i ≤ 61 → 61 - i < q → sX12_middle_l44 d x1 q a y g LM = -2 := by
  have k0 : (0 : Int32).toInt = 0 := by decide
  intro q
  induction q with
  | zero => intro i y _ _ h; exact absurd h (by omega)
  | succ q ih =>
    intro i y ey hi hq
    have e8 : sX12_middle_l44 d x1 (q + 1) a y g LM = sX12_middle_h44 d x1 (sX12_middle_l44 d x1 q) a y g LM := rfl
    rw [e8]
    unfold sX12_middle_h44 sX12_middle_b79; (repeat first | rw [spl_d] | rw [spl2_d])
    by_cases c : i < 61
    case neg => rw [if_neg (show ¬ y.toInt < 61 from by omega)]
    rw [if_pos (show y.toInt < 61 from by omega)]
    rcases mwnt (x2 := y) h hS hN hp with ⟨u1, j, j1, j2, -⟩ | ⟨u1, u2⟩
    · have := hw j j1
      exact absurd j2 (by omega)
    · rw [u1, if_pos k0]
      exact ih (i + 1) (y + 1) (inc1 ey (by omega)) (by omega) (by omega)
theorem t_middle {fX fX1 fM : sg_F} {LX LM : sg_L} {hl : Bool} {T : Nat → Int32} {n : Nat} {d p r1 r2 : Int32} (h : rAll fX fM LX LM) (hm : mOk (fX 2)) (hc : xCx (fX 2) (fX 1 3).toInt hl T n fX) (hC : mCx (fX 2) hl T n fM) (e1 : (r1, fX1) = sX11_middle d p fX LX) (e2 : r2 = sX12_middle d p fM LM) : r1 = r2 := by
  have hb : 0 ≤ (fX 1 3).toInt ∧ (fX 1 3).toInt ≤ 8 := h.2.2.2.2.2.2 1 3
  have hid := h.2.2.2.2.2.1
  have no : ∀ x : Int32, (r1, fX1) = (x, fX) → r2 = x → r1 = r2 := fun x e1 e2 => by
    obtain ⟨a1, b1⟩ := Prod.mk.inj e1
    rw [a1, e2]
  unfold sX11_middle at e1; (repeat first | rw [spl_d] at e1 | rw [spl2_d] at e1)
  unfold sX12_middle at e2; (repeat first | rw [spl_d] at e2 | rw [spl2_d] at e2)
  rw [pX_isShelf, pX_isPart] at e1
  rw [pM_isPart] at e2
  by_cases q1 : 0 ≤ d.toInt ∧ d.toInt ≤ 5
  case neg =>
    rw [if_neg q1, if_neg zk0] at e1
    rw [mbytes, if_neg q1, if_neg (by decide), if_pos rfl] at e2
    exact no _ e1 e2
  rw [if_pos q1, if_pos rfl] at e1
  by_cases q2 : 0 ≤ p.toInt ∧ p.toInt ≤ 2
  case neg =>
    rw [if_neg q2, if_neg zk0] at e1
    refine no _ e1 ?_
    rw [if_neg q2, if_neg zk0, if_neg zk0] at e2
    by_cases c1 : sX12_bytesIs d fM LM = 1
    · rw [if_pos c1] at e2; exact e2
    · rw [if_neg c1] at e2
      by_cases c2 : sX12_bytesIs d fM LM = -1
      · rw [if_pos c2] at e2; exact e2
      · rw [if_neg c2] at e2; exact e2
  rw [if_pos q2, if_pos rfl] at e1
  rw [if_pos q2, if_pos rfl, if_pos rfl] at e2
  rcases h.week hc hC q1 with ⟨a, b⟩ | ⟨a, b⟩ | ⟨b, W, N, f1, a, hN, hw, e, hr, -⟩
  · rw [a] at e1; dsimp only at e1; rw [if_neg (by decide)] at e1
    rw [b, if_neg (by decide), if_neg (by decide)] at e2
    exact no _ e1 e2
  · rw [a] at e1; dsimp only at e1; rw [if_neg (by decide)] at e1
    rw [b, if_neg (by decide), if_neg (by decide)] at e2
    exact no _ e1 e2
  · have hl1 := rl_s hid hw hr
    rw [a] at e1; dsimp only at e1; rw [if_pos (by decide)] at e1
    rw [b, if_pos rfl] at e2
    obtain ⟨t1, t2, t3⟩ := tos_b (W := W) N hN
    have e10 : f1 10 3 = tos W N := hr.2.1
    by_cases z : (f1 10 3).toInt = 0
    · rw [if_pos z] at e1
      rw [e10] at z
      rw [mid_no hl1 hb.2 hN q2 (t3.mp z) 62 0 0 (by decide) (by decide) (by decide)] at e2
      obtain ⟨a1, b1⟩ := Prod.mk.inj e1
      rw [a1, e2]
    · rw [if_neg z] at e1
      obtain ⟨f2, x1, x2, x3⟩ := xwg (L := LX) (x0 := p) hm hN q2 hw.1.1 hl1.2.2.1
      have all : sX12_weightTo d p 60 fM LM = aS (fun s => tms W s N) (wgt (fX 2)) 8 := by
        rw [mwto (v := 60) hl1 hb.2 hN q2 (by decide)]
        refine aS_cg 8 (fun s hs => ?_)
        obtain ⟨b1, -⟩ := hm s hs
        have cp := bn_clI q2.1
        have := b1 p.toNatClampNeg (by omega)
        unfold wlt
        rw [if_pos (by omega)]
      obtain ⟨r, y1, y2⟩ := mid_l (a := aS (fun s => tms W s N) (wgt (fX 2)) 8) (LX := LX) hl1 hb.2 hN q2 x2 62 0 0 (by decide) (by decide) (by decide)
      have z0 : aS (fun s => tms W s N) (wlt (fX 2) p.toNatClampNeg 0) 8 = 0 := by
        rw [aS_cg (b := fun _ => 0) 8 (fun s hs => ?_)]
        · exact aS_l0 (fun _ => rfl) 8
        · obtain ⟨b1, -⟩ := hm s hs
          have cp := bn_clI q2.1
          have := b1 p.toNatClampNeg (by omega)
          unfold wlt
          rw [if_neg (by omega)]
      rw [z0] at y1
      rw [all, y2] at e2
      have em : sX8_middleWant p f1 LX = (r, f2) := by
        unfold sX8_middleWant
        rw [spl2_d, x1]
        exact y1
      rw [em] at e1
      obtain ⟨a1, b1⟩ := Prod.mk.inj e1
      rw [a1, e2]
