/-! WHERE THE SETTINGS STAND: sit, set, night, image, back, of -/
/-- shifts that were sat, the kept image -/
def rIm (fX fM : sg_F) : Prop := fX 29 0 = fM 0 38 ∧ (fX 28 5).toInt = (fM 0 43).toInt ∧ ((fM 0 43).toInt ≠ 0 → fX 30 0 = fM 19 3 ∧ ∀ p : Nat, p < 3 → fX 31 p = fM 19 p)
theorem rIm.zero : rIm f0X f0M := ⟨rfl, by decide, fun z => absurd z (by decide)⟩
theorem rIm.fr {fX fX1 fM fM1 : sg_F} (h : rIm fX fM) (a : fX1 29 0 = fX 29 0) (b : fX1 28 5 = fX 28 5) (c : fX1 30 0 = fX 30 0) (d : ∀ j : Nat, fX1 31 j = fX 31 j) (e : fM1 0 38 = fM 0 38) (i : fM1 0 43 = fM 0 43) (k : ∀ j : Nat, fM1 19 j = fM 19 j) : rIm fX1 fM1 := by
  unfold rIm
  rw [a, b, c, e, i, show fX1 31 = fX 31 from funext d, show fM1 19 = fM 19 from funext k]
  exact h
theorem cpy_lt {α : Type} {f g : Nat → α} {n p : Nat} (h : p < n) : va_cpy f g 0 0 n p = f p := by
  unfold va_cpy
  rw [if_pos ⟨Nat.zero_le _, by omega⟩]
  exact congrArg f (by omega)
/-- of -/
theorem t_of {fX fM : sg_F} {LX LM : sg_L} {a w r1 r2 : Int32} (hn : rNum fX fM) (hs : rSt fX fM) (hI : sgI loX hiX fX) (e1 : r1 = sX11_of a w fX LX) (e2 : r2 = sX12_of a w fM LM) : r1 = r2 := by
  have hb : 0 ≤ (fX 1 3).toInt ∧ (fX 1 3).toInt ≤ 8 := hI 1 3
  unfold sX11_of at e1; (repeat first | rw [spl_d] at e1 | rw [spl2_d] at e1)
  unfold sX12_of at e2; (repeat first | rw [spl_d] at e2 | rw [spl2_d] at e2)
  rw [pX_isPart] at e1
  rw [pM_isPart] at e2
  by_cases c : w.toInt = 11
  · rw [if_pos c] at e1 e2
    by_cases q : 0 ≤ a.toInt ∧ a.toInt ≤ 2
    · have := bn_clI q.1
      rw [if_pos q, if_pos rfl] at e1 e2
      rw [e1, e2]; exact hs _ (by omega)
    · rw [if_neg q, if_neg zk0] at e1 e2
      rw [e1, e2]
  · rw [if_neg c] at e1 e2
    rcases pl_two (LX := LX) (LM := LM) (a := a) (w := w) hn hb with ⟨x, m⟩ | ⟨w1, w2, x1, x2, m1, m2, m3⟩
    · rw [if_pos x] at e1
      rw [if_pos m] at e2
      rw [e1, e2]
    · have cx := bn_clI x1
      rw [if_neg (by omega)] at e1
      rw [if_neg (by omega)] at e2
      rw [e1, e2, m2]
      exact hn.2.1 _ (by omega)
/-- set -/
theorem t_sets {fX fX1 fM fM1 : sg_F} {LX LM : sg_L} {p v r1 r2 : Int32} (hs : rSt fX fM) (hI : sgI loX hiX fX) (e1 : (r1, fX1) = sX11_set p v fX LX) (e2 : (r2, fM1) = sX12_set p v fM LM) : r1 = r2 ∧ rSt fX1 fM1 ∧ fX1 29 0 = fX 29 0 := by
  have ev := Int32.toInt_toInt64 v
  unfold sX11_set sX2_turns at e1; (repeat first | rw [spl_d] at e1 | rw [spl2_d] at e1)
  unfold sX12_set at e2; (repeat first | rw [spl_d] at e2 | rw [spl2_d] at e2)
  rw [pX_isPart, pX_isSetting] at e1
  rw [pM_isPart, pM_isSetting, ev] at e2
  by_cases q : 0 ≤ p.toInt ∧ p.toInt ≤ 2
  case neg =>
    rw [if_neg q, if_neg zk0] at e1 e2
    obtain ⟨a1, b1⟩ := Prod.mk.inj e1
    obtain ⟨a2, b2⟩ := Prod.mk.inj e2
    rw [a1, a2, b1, b2]; exact ⟨rfl, hs, rfl⟩
  rw [if_pos q, if_pos rfl] at e1 e2
  by_cases q2 : 0 ≤ v.toInt ∧ v.toInt ≤ 60
  case neg =>
    rw [if_neg q2, if_neg zk0] at e1 e2
    obtain ⟨a1, b1⟩ := Prod.mk.inj e1
    obtain ⟨a2, b2⟩ := Prod.mk.inj e2
    rw [a1, a2, b1, b2]; exact ⟨rfl, hs, rfl⟩
  rw [if_pos q2, if_pos rfl] at e1 e2
  have cp := bn_clI q.1
  have h3 : 0 ≤ (fX 3 p.toNatClampNeg).toInt ∧ (fX 3 p.toNatClampNeg).toInt ≤ 60 := hI 3 _
  have ee := hs p.toNatClampNeg (by omega)
  have eab := ab_le q2 h3
  rw [← ee, siz_ab (x := v - fX 3 p.toNatClampNeg) (by omega)] at e2
  dsimp only at e1
  obtain ⟨a1, b1⟩ := Prod.mk.inj e1
  obtain ⟨a2, b2⟩ := Prod.mk.inj e2
  refine ⟨by rw [a1, a2]; rfl, fun i hi => ?_, ?_⟩
  · rw [b1, b2, sg_up_n (by decide), sg_up_s, sg_up_n (by decide), sg_up_s]
    by_cases z : i = p.toNatClampNeg
    · rw [z, sgu_s, sgu_s]
    · rw [sgu_n z, sgu_n z]; exact hs i hi
  · rw [b1, sg_up_s, sgu_n (by decide), sg_up_n (by decide)]
/-- night -/
theorem night_l {m : Nat → Int32} {hl : Bool} {T : Nat → Int32} {n : Nat} {LX LM : sg_L} (hq : pOk m) : ∀ (k i : Nat) (y a : Int32) (f g : sg_F), y.toInt = i → i ≤ 3 → 3 - i < k → f 2 = m → mCx m hl T n g → (∀ p : Nat, p < 3 → f 3 p = g 5 p) → (∀ p : Nat, p < 3 → 0 ≤ (f 3 p).toInt ∧ (f 3 p).toInt ≤ 60) → ∃ (r : Int32) (f1 g1 : sg_F), sX2_allSlip_l4 k a y f LX = (r, f1) ∧ sX12_night_l4 k a y g LM = (r, g1) ∧ ∀ p : Nat, p < 3 → f1 3 p = g1 5 p := by
  intro k
  induction k with
  | zero => intro i y a f g _ _ h; exact absurd h (by omega)
  | succ k ih =>
    intro i y a f g ey hi hk h2 hC hs hb
    have e9 : sX2_allSlip_l4 (k + 1) a y f LX = sX2_allSlip_h4 (sX2_allSlip_l4 k) a y f LX := rfl
    have e8 : sX12_night_l4 (k + 1) a y g LM = sX12_night_h4 (sX12_night_l4 k) a y g LM := rfl
    rw [e9, e8]
    unfold sX2_allSlip_h4 sX2_allSlip_b43 sX12_night_h4; (repeat first | rw [spl_d] | rw [spl2_d])
    by_cases c : i < 3
    case neg =>
      rw [if_neg (show ¬ y.toInt < 3 from by omega), if_neg (show ¬ y.toInt < 3 from by omega)]
      exact ⟨a, f, g, rfl, rfl, hs⟩
    rw [if_pos (show y.toInt < 3 from by omega), if_pos (show y.toInt < 3 from by omega), msl1 ey c]
    have e64 := hC.2.1 (64 + i) (by omega) (by omega)
    have hv := hb i c
    have ee := hs i c
    rw [slpX ey c, h2, ← ee, slpM ey c (by rw [e64]; exact hq _ (by omega) (by omega)) hv, e64]
    have sb := slp_b (hq (64 + i) (by omega) (by omega)) hv
    obtain ⟨r, er⟩ : ∃ z : Int32, z = slp (m (64 + i)) (f 3 i) := ⟨_, rfl⟩
    rw [← er] at sb ⊢
    have ey1 := inc1 ey (by omega)
    -- a slip never goes up
    have le : r.toInt ≤ (f 3 i).toInt := by
      have ha := hq (64 + i) (by omega) (by omega)
      have e : (f 3 i - m (64 + i)).toInt = (f 3 i).toInt - (m (64 + i)).toInt := bn_subI (by omega) (by omega)
      rcases sb.2.2 with ⟨b1, b2⟩ | ⟨b1, b2⟩
      · rw [b2, show (0 : Int32).toInt = 0 from by decide]; omega
      · rw [b2]; omega
    have nx : ∀ a1 : Int32, ∃ (r1 : Int32) (f1 g1 : sg_F), sX2_allSlip_l4 k a1 (y + 1) (sg_up f 3 (sgu (f 3) i r)) LX = (r1, f1) ∧ sX12_night_l4 k a1 (y + 1) (sg_up g 5 (sgu (g 5) i r)) LM = (r1, g1) ∧ ∀ p : Nat, p < 3 → f1 3 p = g1 5 p := by
      intro a1
      refine ih (i + 1) (y + 1) a1 _ _ ey1 (by omega) (by omega) (by rw [sg_up_n (by decide)]; exact h2) (hC.fr (fun j => by rw [sg_up_n (by decide)]) (fun j => by rw [sg_up_n (by decide)]) (by rw [sg_up_n (by decide)])) (fun p hp => ?_) (fun p hp => ?_)
      · rw [sg_up_s, sg_up_s]
        by_cases z : p = i
        · rw [z, sgu_s, sgu_s]
        · rw [sgu_n z, sgu_n z]; exact hs p hp
      · rw [sg_up_s]
        by_cases z : p = i
        · rw [z, sgu_s]; exact ⟨sb.1, sb.2.1⟩
        · rw [sgu_n z]; exact hb p hp
    by_cases d : r.toInt = (f 3 i).toInt
    · rw [if_pos d, if_neg (by omega)]; exact nx a
    · rw [if_neg d, if_pos (by omega)]; exact nx (a + 1)
theorem t_night {fX fX1 fM fM1 : sg_F} {LX LM : sg_L} {hl : Bool} {T : Nat → Int32} {n : Nat} {r1 r2 : Int32} (hs : rSt fX fM) (hI : sgI loX hiX fX) (hq : pOk (fX 2)) (hC : mCx (fX 2) hl T n fM) (e1 : (r1, fX1) = sX11_night fX LX) (e2 : (r2, fM1) = sX12_night fM LM) : r1 = r2 ∧ rSt fX1 fM1 := by
  obtain ⟨r, f1, g1, u1, u2, u3⟩ := night_l (LX := LX) (LM := LM) hq 4 0 0 0 fX fM (by decide) (by decide) (by decide) rfl hC hs (fun p _ => hI 3 p)
  have e1 : (r1, fX1) = sX2_allSlip_l4 4 0 0 fX LX := e1
  have e2 : (r2, fM1) = sX12_night_l4 4 0 0 fM LM := e2
  rw [u1] at e1
  rw [u2] at e2
  obtain ⟨a1, b1⟩ := Prod.mk.inj e1
  obtain ⟨a2, b2⟩ := Prod.mk.inj e2
  exact ⟨by rw [a1, a2], fun p hp => by rw [b1, b2]; exact u3 p hp⟩
/-- image -/
theorem t_image {fX fX1 fM fM1 : sg_F} {LX LM : sg_L} {r1 r2 : Int32} (hs : rSt fX fM) (hi : rIm fX fM) (e1 : (r1, fX1) = sX11_image fX LX) (e2 : (r2, fM1) = sX12_image fM LM) : r1 = r2 ∧ rIm fX1 fM1 := by
  unfold sX11_image sX2_keepImage at e1; (repeat first | rw [spl_d] at e1 | rw [spl2_d] at e1)
  unfold sX12_image at e2
  rw [spl_d] at e2
  dsimp only at e1
  obtain ⟨a1, b1⟩ := Prod.mk.inj e1
  have c0 : (0 : Int32).toNatClampNeg = 0 := by decide
  have c3 : (3 : Int32).toNatClampNeg = 3 := by decide
  have c5 : (5 : Int32).toNatClampNeg = 5 := by decide
  rw [c0, c3, c5] at b1
  -- the reference's loop
  have go : ∀ (k i : Nat) (y : Int32) (g : sg_F), y.toInt = i → i ≤ 8 → 8 - i < k → g 0 38 = fM 0 38 → g 0 43 = 1 → (∀ p : Nat, p < 3 → g 5 p = fM 5 p) → (∀ p : Nat, p < 3 → p < i → g 19 p = fM 5 p) → (3 < i → g 19 3 = fM 0 38) → ∃ g1 : sg_F, sX12_image_l7 k y g LM = (fM 0 38, g1) ∧ g1 0 38 = fM 0 38 ∧ g1 0 43 = 1 ∧ (∀ p : Nat, p < 3 → g1 19 p = fM 5 p) ∧ g1 19 3 = fM 0 38 := by
    have k3 : (3 : Int32).toInt = 3 := by decide
    intro k
    induction k with
    | zero => intro i y g _ _ h; exact absurd h (by omega)
    | succ k ih =>
      intro i y g ey hi' hk h38 h43 h5 h19 h193
      have e8 : sX12_image_l7 (k + 1) y g LM = sX12_image_h7 (sX12_image_l7 k) y g LM := rfl
      have ey1 := inc1 ey (by omega)
      have cy := bn_clI (x := y) (by omega)
      have eyn : y.toNatClampNeg = i := by omega
      rw [e8]
      unfold sX12_image_h7; (repeat first | rw [spl_d] | rw [spl2_d])
      by_cases c : i < 8
      case neg =>
        rw [if_neg (by omega), h38]
        exact ⟨g, rfl, h38, h43, fun p hp => h19 p hp (by omega), h193 (by omega)⟩
      rw [if_pos (by omega), eyn]
      by_cases d : i < 3
      · rw [if_pos (by omega)]
        refine ih (i + 1) (y + 1) _ ey1 (by omega) (by omega) (by rw [sg_up_n (by decide)]; exact h38) (by rw [sg_up_n (by decide)]; exact h43) (fun p hp => by rw [sg_up_n (by decide)]; exact h5 p hp) (fun p hp hpi => ?_) (fun z => by omega)
        rw [sg_up_s]
        by_cases z : p = i
        · rw [z, sgu_s]; exact h5 i d
        · rw [sgu_n z]; exact h19 p hp (by omega)
      · rw [if_neg (by omega)]
        refine ih (i + 1) (y + 1) _ ey1 (by omega) (by omega) (by rw [sg_up_n (by decide)]; exact h38) (by rw [sg_up_n (by decide)]; exact h43) (fun p hp => by rw [sg_up_n (by decide)]; exact h5 p hp) (fun p hp hpi => ?_) (fun z => ?_)
        · rw [sg_up_s, sgu_n (by omega)]; exact h19 p hp (by omega)
        · rw [sg_up_s]
          by_cases w : i = 3
          · rw [w, sgu_s]
            have e0 : y - 3 = 0 := Int32.toInt_inj.mp ((bn_subI (by omega) (by omega)).trans (by rw [show (0 : Int32).toInt = 0 from by decide]; omega))
            rw [e0]
            unfold sX12_led; (repeat first | rw [spl_d] | rw [spl2_d])
            rw [if_pos (by decide)]; exact h38
          · rw [sgu_n (by omega)]; exact h193 (by omega)
  obtain ⟨g1, u1, u2, u3, u4, u5⟩ := go 9 0 0 (sg_up fM 0 (sgu (fM 0) 43 1)) (by decide) (by decide) (by decide) (by rw [sg_up_s, sgu_n (by decide)]) (by rw [sg_up_s, sgu_s]) (fun p _ => by rw [sg_up_n (by decide)]) (fun p _ h => absurd h (by omega)) (fun h => absurd h (by omega))
  rw [u1] at e2
  obtain ⟨a2, b2⟩ := Prod.mk.inj e2
  have x29 : fX1 29 = fX 29 := by rw [b1, sg_up_n (by decide), sg_up_n (by decide), sg_up_n (by decide)]
  refine ⟨?_, ?_, ?_, fun _ => ⟨?_, fun p hp => ?_⟩⟩
  · rw [a1, a2, c0, sg_up_n (by decide), sg_up_n (by decide), sg_up_n (by decide)]; exact hi.1
  · rw [x29, b2, u2]; exact hi.1
  · rw [b1, b2, u3, sg_up_s, sgu_s]
  · rw [b1, b2, u5, sg_up_n (by decide), sg_up_n (by decide), sg_up_s, cpy_lt (by decide)]; exact hi.1
  · rw [b1, b2, u4 p hp, sg_up_n (by decide), sg_up_s, cpy_lt hp, sg_up_n (by decide)]; exact hs p hp
/-- back -/
theorem t_back {fX fX1 fM fM1 : sg_F} {LX LM : sg_L} {r1 r2 : Int32} (hs : rSt fX fM) (hi : rIm fX fM) (e1 : (r1, fX1) = sX11_back fX LX) (e2 : (r2, fM1) = sX12_back fM LM) : r1 = r2 ∧ rSt fX1 fM1 ∧ rIm fX1 fM1 := by
  unfold sX11_back sX2_layBack at e1; (repeat first | rw [spl_d] at e1 | rw [spl2_d] at e1)
  unfold sX12_back at e2; (repeat first | rw [spl_d] at e2 | rw [spl2_d] at e2)
  have c0 : (0 : Int32).toNatClampNeg = 0 := by decide
  have c3 : (3 : Int32).toNatClampNeg = 3 := by decide
  have c5 : (5 : Int32).toNatClampNeg = 5 := by decide
  by_cases c : (fM 0 43).toInt = 0
  · rw [if_pos (by rw [hi.2.1]; exact c)] at e1
    rw [if_pos c] at e2
    obtain ⟨a1, b1⟩ := Prod.mk.inj e1
    obtain ⟨a2, b2⟩ := Prod.mk.inj e2
    rw [a1, a2, b1, b2]; exact ⟨rfl, hs, hi⟩
  rw [if_neg (by rw [hi.2.1]; exact c)] at e1
  dsimp only at e1
  rw [if_neg c] at e2
  obtain ⟨h30, h31⟩ := hi.2.2 c
  have go : ∀ (k i : Nat) (y : Int32) (g : sg_F), y.toInt = i → i ≤ 3 → 3 - i < k → g 19 = fM 19 → g 0 43 = fM 0 43 → (∀ p : Nat, p < i → g 5 p = fM 19 p) → ∃ g1 : sg_F, sX12_back_l12 k y g LM = (fM 19 3, g1) ∧ g1 0 38 = fM 19 3 ∧ g1 0 43 = fM 0 43 ∧ g1 19 = fM 19 ∧ ∀ p : Nat, p < 3 → g1 5 p = fM 19 p := by
    intro k
    induction k with
    | zero => intro i y g _ _ h; exact absurd h (by omega)
    | succ k ih =>
      intro i y g ey hi' hk h19 h43 h5
      have e8 : sX12_back_l12 (k + 1) y g LM = sX12_back_h12 (sX12_back_l12 k) y g LM := rfl
      have ey1 := inc1 ey (by omega)
      have cy := bn_clI (x := y) (by omega)
      have eyn : y.toNatClampNeg = i := by omega
      rw [e8]
      unfold sX12_back_h12; (repeat first | rw [spl_d] | rw [spl2_d])
      by_cases d : i < 3
      · rw [if_pos (by omega), eyn, h19]
        refine ih (i + 1) (y + 1) _ ey1 (by omega) (by omega) (by rw [sg_up_n (by decide)]; exact h19) (by rw [sg_up_n (by decide)]; exact h43) (fun p hp => ?_)
        rw [sg_up_s]
        by_cases z : p = i
        · rw [z, sgu_s]
        · rw [sgu_n z]; exact h5 p (by omega)
      · rw [if_neg (by omega), c3]
        refine ⟨_, by rw [h19], ?_, ?_, ?_, fun p hp => ?_⟩
        · rw [sg_up_s, sgu_n (by decide), sg_up_s, sgu_n (by decide), sg_up_s, sgu_n (by decide), sg_up_s, sgu_n (by decide), sg_up_s, sgu_s]
        · rw [sg_up_s, sgu_n (by decide), sg_up_s, sgu_n (by decide), sg_up_s, sgu_n (by decide), sg_up_s, sgu_n (by decide), sg_up_s, sgu_n (by decide)]; exact h43
        · rw [sg_up_n (by decide), sg_up_n (by decide), sg_up_n (by decide), sg_up_n (by decide), sg_up_n (by decide)]; exact h19
        · rw [sg_up_n (by decide), sg_up_n (by decide), sg_up_n (by decide), sg_up_n (by decide), sg_up_n (by decide)]; exact h5 p (by omega)
  obtain ⟨g1, u1, u2, u3, u4, u5⟩ := go 4 0 0 fM (by decide) (by decide) (by decide) rfl rfl (fun p h => absurd h (by omega))
  rw [u1] at e2
  obtain ⟨a1, b1⟩ := Prod.mk.inj e1
  obtain ⟨a2, b2⟩ := Prod.mk.inj e2
  rw [c0, c3, c5] at b1
  have x29 : fX1 29 0 = fX 30 0 := by rw [b1, sg_up_n (by decide), sg_up_s, cpy_lt (by decide)]
  refine ⟨?_, fun p hp => ?_, ?_, ?_, fun z => ⟨?_, fun p hp => ?_⟩⟩
  · rw [a1, a2, c0, c5, sg_up_n (by decide), sg_up_s, cpy_lt (by decide)]; exact h30
  · rw [b1, b2, u5 p hp, sg_up_s, cpy_lt hp, sg_up_n (by decide)]; exact h31 p hp
  · rw [x29, b2, u2]; exact h30
  · rw [b1, b2, u3, sg_up_n (by decide), sg_up_n (by decide)]; exact hi.2.1
  · rw [b1, b2, u4, sg_up_n (by decide), sg_up_n (by decide)]; exact h30
  · rw [b1, b2, u4, sg_up_n (by decide), sg_up_n (by decide)]; exact h31 p hp
