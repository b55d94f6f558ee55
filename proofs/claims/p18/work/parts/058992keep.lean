/-! SHIFTS and ONCE keep the class's losses right -/
def kC (m : Nat → Int32) (S : Int) (hl : Bool) (T : Nat → Int32) (n N : Nat) (f : sg_F) : Prop := xCx m S hl T n f ∧ (f 10 2).toInt = N ∧ (∀ i : Nat, i < N → (f 11 i).toInt = -1 ∨ (0 ≤ (f 11 i).toInt ∧ (f 11 i).toInt < S)) ∧ ∀ p : Nat, p < 3 → 0 ≤ (f 3 p).toInt ∧ (f 3 p).toInt ≤ 60
theorem kC.fr {m : Nat → Int32} {S : Int} {hl : Bool} {T : Nat → Int32} {n N : Nat} {f f1 : sg_F} (h : kC m S hl T n N f) (c : xCx m S hl T n f1) (a3 : f1 3 = f 3) (a10 : f1 10 = f 10) (a11 : f1 11 = f 11) : kC m S hl T n N f1 := by
  refine ⟨c, ?_⟩
  rw [a3, a10, a11]
  exact h.2
theorem kC.up {m : Nat → Int32} {S : Int} {hl : Bool} {T : Nat → Int32} {n N : Nat} {f : sg_F} (h : kC m S hl T n N f) (x : Nat → Int32) : kC m S hl T n N (sg_up f 26 x) := h.fr (h.1.fr (by rw [sg_up_n (by decide)]) (by rw [sg_up_n (by decide)]) (by rw [sg_up_n (by decide)]) (by rw [sg_up_n (by decide)]) (by rw [sg_up_n (by decide)])) (by rw [sg_up_n (by decide)]) (by rw [sg_up_n (by decide)]) (by rw [sg_up_n (by decide)])
theorem kC.loss {m : Nat → Int32} {S : Int} {hl : Bool} {T : Nat → Int32} {n N : Nat} {f : sg_F} {s p v : Int32} (h : kC m S hl T n N f) (hS : S ≤ 8) (hs : s.toInt = -1 ∨ (0 ≤ s.toInt ∧ s.toInt < S)) (hp : 0 ≤ p.toInt ∧ p.toInt ≤ 2) (hv : 0 ≤ v.toInt ∧ v.toInt ≤ 60) (L : sg_L) : kC m S hl T n N (sX0_lossAt s p v f L).2 := by
  obtain ⟨x1, x2, x3⟩ := xlossN h.1 hS hs hp hv L
  exact h.fr x2 (x3 3 (by decide) (by decide)) (x3 10 (by decide) (by decide)) (x3 11 (by decide) (by decide))
theorem kC.unturned {m : Nat → Int32} {S : Int} {hl : Bool} {T : Nat → Int32} {n N : Nat} {f : sg_F} {p x v : Int32} {i : Nat} (h : kC m S hl T n N f) (hS : S ≤ 8) (hp : 0 ≤ p.toInt ∧ p.toInt ≤ 2) (ex : x.toInt = i) (hi : i < N) (hv : 0 ≤ v.toInt ∧ v.toInt ≤ 60) (L : sg_L) : kC m S hl T n N (sX9_unturned p x v f L).2 := by
  have cx := bn_clI (x := x) (by omega)
  unfold sX9_unturned; (repeat first | rw [spl_d] | rw [spl2_d])
  dsimp only
  rw [show x.toNatClampNeg = i from by omega]
  exact h.loss hS (h.2.2.1 i hi) hp hv L
theorem kC.spread {m : Nat → Int32} {S : Int} {hl : Bool} {T : Nat → Int32} {n N : Nat} {f : sg_F} (h : kC m S hl T n N f) (a b : Int32) (L : sg_L) : kC m S hl T n N (sX9_spread a b f L) := by
  have l48 : ∀ (k : Nat) (y : Int32) (f : sg_F), kC m S hl T n N f → kC m S hl T n N (sX9_spread_l48 a b k y f L) := by
    intro k
    induction k with
    | zero => intro y f h; exact h
    | succ k ih =>
      intro y f h
      show kC m S hl T n N (sX9_spread_h48 a b (sX9_spread_l48 a b k) y f L)
      unfold sX9_spread_h48; (repeat first | rw [spl_d] | rw [spl2_d])
      by_cases c : y.toInt < 0
      · rw [if_pos c]; exact h
      · rw [if_neg c]; exact ih _ _ (h.up _)
  have l2 : ∀ (k : Nat) (y : Int32) (f : sg_F), kC m S hl T n N f → kC m S hl T n N (sX9_spread_l2 a b k y f L) := by
    intro k
    induction k with
    | zero => intro y f h; exact h
    | succ k ih =>
      intro y f h
      show kC m S hl T n N (sX9_spread_h2 a b (sX9_spread_l2 a b k) y f L)
      unfold sX9_spread_h2; (repeat first | rw [spl_d] | rw [spl2_d])
      by_cases c : 60 < y.toInt
      · rw [if_pos c]; exact l48 _ _ _ h
      · rw [if_neg c]; exact ih _ _ (h.up _)
  exact l2 61 1 f h
theorem kC.pay {m : Nat → Int32} {S : Int} {hl : Bool} {T : Nat → Int32} {n N : Nat} {f : sg_F} {p : Int32} (h : kC m S hl T n N f) (hS : S ≤ 8) (hN : N ≤ 21) (hp : 0 ≤ p.toInt ∧ p.toInt ≤ 2) (k : Int32) (L : sg_L) : kC m S hl T n N (sX9_pay p k f L) := by
  have k1 : (1 : Int32).toInt = 1 := by decide
  have km : (-1 : Int32).toInt = -1 := by decide
  -- the shifts, from the last on
  have l48 : ∀ (q : Nat) (y : Int32) (f : sg_F), y.toInt < N → -1 ≤ y.toInt → kC m S hl T n N f → kC m S hl T n N (sX9_pay_l48 p k q y f L) := by
    intro q
    induction q with
    | zero => intro y f _ _ h; exact h
    | succ q ih =>
      intro y f hy hy1 h
      show kC m S hl T n N (sX9_pay_h48 p k (sX9_pay_l48 p k q) y f L)
      unfold sX9_pay_h48
      by_cases c : y.toInt < 0
      · rw [if_pos c]; exact h
      rw [if_neg c]
      have ey : (y + -1).toInt = y.toInt - 1 := (bn_addI (by omega) (by omega)).trans (by omega)
      have b112 : ∀ g : sg_F, kC m S hl T n N g → kC m S hl T n N (sX9_pay_b112 (sX9_pay_l48 p k q) p k y g L) := fun g hg => by
        unfold sX9_pay_b112
        rw [spl_d]
        exact ih (y + -1) g (by omega) (by omega) hg
      have l56 : ∀ (r i : Nat) (z : Int32) (g : sg_F), z.toInt = i → kC m S hl T n N g → kC m S hl T n N (sX9_pay_l56 (sX9_pay_l48 p k q) p k r y z g L) := by
        intro r
        induction r with
        | zero => intro i z g _ hg; exact hg
        | succ r ihr =>
          intro i z g ez hg
          show kC m S hl T n N (sX9_pay_h56 (sX9_pay_l48 p k q) p k (sX9_pay_l56 (sX9_pay_l48 p k q) p k r) y z g L)
          unfold sX9_pay_h56; (repeat first | rw [spl_d] | rw [spl2_d])
          by_cases d : 60 < z.toInt
          · rw [if_pos d]
            by_cases e : k.toInt = 0
            · rw [if_pos e]; exact b112 g hg
            · rw [if_neg e]; exact b112 _ (hg.spread _ _ L)
          · rw [if_neg d]
            have cy := bn_clI (x := y) (by omega)
            exact ihr (i + 1) (z + 1) _ (inc1 ez (by omega)) ((hg.unturned (i := y.toNatClampNeg) hS hp (by omega) (by omega) ⟨by omega, by omega⟩ L).up _)
      exact l56 62 0 0 f (by decide) h
  have l14 : ∀ (q : Nat) (a z : Int32) (g : sg_F), kC m S hl T n N g → kC m S hl T n N (sX9_pay_l14 p k q a z g L) := by
    intro q
    induction q with
    | zero => intro a z g hg; exact hg
    | succ q ih =>
      intro a z g hg
      show kC m S hl T n N (sX9_pay_h14 p k (sX9_pay_l14 p k q) a z g L)
      unfold sX9_pay_h14; (repeat first | rw [spl_d] | rw [spl2_d])
      by_cases d : 60 < z.toInt
      · rw [if_pos d]
        have e : (g 10 2 - 1).toInt = (g 10 2).toInt - 1 := by
          have := hg.2.1
          exact (bn_subI (by omega) (by omega)).trans (by omega)
        have := hg.2.1
        exact l48 22 _ g (by omega) (by omega) hg
      · rw [if_neg d]; exact ih _ _ _ (hg.up _)
  unfold sX9_pay; (repeat first | rw [spl_d] | rw [spl2_d])
  exact l14 _ _ _ f h
theorem kC.least {m : Nat → Int32} {S : Int} {hl : Bool} {T : Nat → Int32} {n N : Nat} {f : sg_F} {p x v : Int32} {i : Nat} (h : kC m S hl T n N f) (hS : S ≤ 8) (hp : 0 ≤ p.toInt ∧ p.toInt ≤ 2) (ex : x.toInt = i) (hi : i < N) (hv : 0 ≤ v.toInt ∧ v.toInt ≤ 60) (L : sg_L) : kC m S hl T n N (sX9_leastSetting p x v f L).2 ∧ 0 ≤ (sX9_leastSetting p x v f L).1.toInt ∧ (sX9_leastSetting p x v f L).1.toInt ≤ 60 := by
  have k0 : (0 : Int32).toInt = 0 := by decide
  have l26 : ∀ (q j : Nat) (a b z : Int32) (g : sg_F), z.toInt = j → kC m S hl T n N g → kC m S hl T n N (sX9_leastSetting_l26 p x v q a b z g L).2 ∧ 0 ≤ (sX9_leastSetting_l26 p x v q a b z g L).1.toInt ∧ (sX9_leastSetting_l26 p x v q a b z g L).1.toInt ≤ 60 := by
    intro q
    induction q with
    | zero => intro j a b z g _ hg; exact ⟨hg, show 0 ≤ (0 : Int32).toInt by decide, show (0 : Int32).toInt ≤ 60 by decide⟩
    | succ q ih =>
      intro j a b z g ez hg
      have e9 : sX9_leastSetting_l26 p x v (q + 1) a b z g L = sX9_leastSetting_h26 p x v (sX9_leastSetting_l26 p x v q) a b z g L := rfl
      rw [e9]
      unfold sX9_leastSetting_h26; (repeat first | rw [spl_d] | rw [spl2_d])
      by_cases d : 60 < z.toInt
      · rw [if_pos d]; exact ⟨hg, hv⟩
      · rw [if_neg d]
        have hu := hg.unturned hS hp ex hi (v := z) ⟨by omega, by omega⟩ L
        by_cases e : (((if (0 : Int32) ≤ z - v then z - v else 0 - (z - v)) * a + (sX9_unturned p x z g L).1).toInt = b.toInt)
        · rw [if_pos e]; exact ⟨hu, by show 0 ≤ z.toInt; omega, by show z.toInt ≤ 60; omega⟩
        · rw [if_neg e]; exact ih (j + 1) a b (z + 1) _ (inc1 ez (by omega)) hu
  unfold sX9_leastSetting; (repeat first | rw [spl_d] | rw [spl2_d])
  exact l26 62 0 _ _ 0 f (by decide) h
theorem slpX_b {m : Nat → Int32} {p v : Int32} {f : sg_F} (h2 : f 2 = m) (hq : pOk m) (hp : 0 ≤ p.toInt ∧ p.toInt ≤ 2) (hv : 0 ≤ v.toInt ∧ v.toInt ≤ 60) (L : sg_L) : 0 ≤ (sX0_slipped p v f L).toInt ∧ (sX0_slipped p v f L).toInt ≤ 60 := by
  have cp := bn_clI hp.1
  rw [slpX (k := p.toNatClampNeg) (by omega) (by omega), h2]
  have := slp_b (hq (64 + p.toNatClampNeg) (by omega) (by omega)) hv
  exact ⟨this.1, this.2.1⟩
theorem kC.shifts {m : Nat → Int32} {S : Int} {hl : Bool} {T : Nat → Int32} {n N : Nat} {f : sg_F} {p x : Int32} (h : kC m S hl T n N f) (hS : S ≤ 8) (hq : pOk m) (hN : N ≤ 21) (hp : 0 ≤ p.toInt ∧ p.toInt ≤ 2) (hx : x.toInt < N) (L : sg_L) : kC m S hl T n N (sX9_shiftByShift p x f L).2 := by
  have hP := h.pay hS hN hp 1 L
  have l33 : ∀ (q i : Nat) (a b z : Int32) (g : sg_F), z.toInt = i → (0 ≤ a.toInt ∧ a.toInt ≤ 60) → kC m S hl T n N g → kC m S hl T n N (sX9_shiftByShift_l33 p x q a b z g L).2 := by
    intro q
    induction q with
    | zero => intro i a b z g _ _ hg; exact hg
    | succ q ih =>
      intro i a b z g ez ha hg
      have e9 : sX9_shiftByShift_l33 p x (q + 1) a b z g L = sX9_shiftByShift_h33 p x (sX9_shiftByShift_l33 p x q) a b z g L := rfl
      rw [e9]
      unfold sX9_shiftByShift_h33; (repeat first | rw [spl_d] | rw [spl2_d])
      by_cases d : x.toInt < z.toInt
      · rw [if_pos d]; exact hg
      · rw [if_neg d]
        obtain ⟨u1, u2, u3⟩ := hg.least hS hp ez (by omega) ha L
        exact ih (i + 1) _ _ (z + 1) _ (inc1 ez (by omega)) (slpX_b u1.1.1 hq hp ⟨u2, u3⟩ L) u1
  unfold sX9_shiftByShift; (repeat first | rw [spl_d] | rw [spl2_d])
  by_cases d : x.toInt < 0
  · rw [if_pos d]; dsimp only; exact hP
  · rw [if_neg d]
    have cp := bn_clI hp.1
    exact l33 22 0 _ _ 0 _ (by decide) (hP.2.2.2 p.toNatClampNeg (by omega)) hP
theorem kC.once {m : Nat → Int32} {S : Int} {hl : Bool} {T : Nat → Int32} {n N : Nat} {f : sg_F} {p x : Int32} (h : kC m S hl T n N f) (hS : S ≤ 8) (hq : pOk m) (hN : N ≤ 21) (hp : 0 ≤ p.toInt ∧ p.toInt ≤ 2) (L : sg_L) : kC m S hl T n N (sX9_oneTurning p x f L).2 := by
  have hP := h.pay hS hN hp 0 L
  have l49 : ∀ (q i : Nat) (y3 y4 y5 y6 y7 y8 y9 : Int32) (g : sg_F), y9.toInt = i → (0 ≤ y4.toInt ∧ y4.toInt ≤ 60) → kC m S hl T n N g → kC m S hl T n N (sX9_oneTurning_l49 p x q y3 y4 y5 y6 y7 y8 y9 g L).2 := by
    intro q
    induction q with
    | zero => intro i y3 y4 y5 y6 y7 y8 y9 g _ _ hg; exact hg
    | succ q ih =>
      intro i y3 y4 y5 y6 y7 y8 y9 g e9 h4 hg
      have en : sX9_oneTurning_l49 p x (q + 1) y3 y4 y5 y6 y7 y8 y9 g L = sX9_oneTurning_h49 p x (sX9_oneTurning_l49 p x q) y3 y4 y5 y6 y7 y8 y9 g L := rfl
      rw [en]
      unfold sX9_oneTurning_h49; (repeat first | rw [spl_d] | rw [spl2_d])
      by_cases d : y9.toInt < (g 10 2).toInt
      · rw [if_pos d]
        have hi : i < N := by
          have := hg.2.1
          omega
        have cy := bn_clI (x := y9) (by omega)
        have l64 : ∀ (r : Nat) (z y5 y6 y7 : Int32), kC m S hl T n N (sX9_oneTurning_l64 (sX9_oneTurning_l49 p x q) p x r z y3 y4 y5 y6 y7 y8 y9 g L).2 := by
          intro r
          induction r with
          | zero => intro z y5 y6 y7; exact hg
          | succ r ihr =>
            intro z y5 y6 y7
            have em : sX9_oneTurning_l64 (sX9_oneTurning_l49 p x q) p x (r + 1) z y3 y4 y5 y6 y7 y8 y9 g L = sX9_oneTurning_h64 (sX9_oneTurning_l49 p x q) p x (sX9_oneTurning_l64 (sX9_oneTurning_l49 p x q) p x r) z y3 y4 y5 y6 y7 y8 y9 g L := rfl
            rw [em]
            unfold sX9_oneTurning_h64 sX9_oneTurning_b119; (repeat first | rw [spl_d] | rw [spl2_d])
            by_cases c : 60 < z.toInt
            · rw [if_pos c, show y9.toNatClampNeg = i from by omega]
              have hu := hg.loss hS (s := g 11 i) (hg.2.2.1 i hi) hp h4 L
              exact ih (i + 1) _ _ _ _ _ _ (y9 + 1) _ (inc1 e9 (by omega)) (slpX_b hu.1.1 hq hp h4 L) hu
            · rw [if_neg c]
              (repeat' split) <;> exact ihr _ _ _ _
        exact l64 62 0 y5 y6 y7
      · rw [if_neg d]
        (repeat' split) <;> exact hg
  unfold sX9_oneTurning; (repeat first | rw [spl_d] | rw [spl2_d])
  have cp := bn_clI hp.1
  exact l49 22 0 _ _ _ _ _ _ 0 _ (by decide) (hP.2.2.2 p.toNatClampNeg (by omega)) hP
/-- the two calls -/
theorem k_shifts {fX fX1 fM : sg_F} {LX LM : sg_L} {hl : Bool} {T : Nat → Int32} {n : Nat} {d p k r1 : Int32} (h : rAll fX fM LX LM) (hq : pOk (fX 2)) (hc : xCx (fX 2) (fX 1 3).toInt hl T n fX) (hC : mCx (fX 2) hl T n fM) (e1 : (r1, fX1) = sX11_shifts d p k fX LX) : xLo (fX 2) (fX 1 3).toInt hl T n (fX1 9) := by
  have hb : 0 ≤ (fX 1 3).toInt ∧ (fX 1 3).toInt ≤ 8 := h.2.2.2.2.2.2 1 3
  have no : ∀ x : Int32, (r1, fX1) = (x, fX) → xLo (fX 2) (fX 1 3).toInt hl T n (fX1 9) := fun x e1 => by
    obtain ⟨a1, b1⟩ := Prod.mk.inj e1
    rw [b1]; exact hc.2.2.2
  unfold sX11_shifts at e1; (repeat first | rw [spl_d] at e1 | rw [spl2_d] at e1)
  rw [pX_isShelf, pX_isPart] at e1
  by_cases q1 : 0 ≤ d.toInt ∧ d.toInt ≤ 5
  case neg => rw [if_neg q1, if_neg zk0] at e1; exact no _ e1
  rw [if_pos q1, if_pos rfl] at e1
  by_cases q2 : 0 ≤ p.toInt ∧ p.toInt ≤ 2
  case neg => rw [if_neg q2, if_neg zk0] at e1; exact no _ e1
  rw [if_pos q2, if_pos rfl] at e1
  by_cases q3 : k.toInt < -1
  · rw [if_pos q3] at e1; exact no _ e1
  rw [if_neg q3] at e1
  rcases h.week (LM := LM) hc hC q1 with ⟨a, b⟩ | ⟨a, b⟩ | ⟨b, W, N, f1, a, hN, hw, e, -⟩
  · rw [a] at e1; dsimp only at e1; rw [if_neg (by decide)] at e1; exact no _ e1
  · rw [a] at e1; dsimp only at e1; rw [if_neg (by decide)] at e1; exact no _ e1
  · rw [a] at e1; dsimp only at e1; rw [if_pos (by decide)] at e1
    have hW := hw.2.2.2.2.2.1.W hN
    have hv : (f1 10 2).toInt = N := hw.2.2.2.2.2.2.2.2
    have hk : kC (fX 2) (fX 1 3).toInt hl T n N f1 := ⟨hw.1, hv, fun i hi => by rw [hw.2.2.2.2.2.2.2.1 i hi]; exact hW i hi, hw.2.2.2.1⟩
    by_cases c : k.toInt < (f1 10 2).toInt
    · rw [if_pos c] at e1
      obtain ⟨a1, b1⟩ := Prod.mk.inj e1
      rw [b1]
      exact (hk.shifts hb.2 hq hN q2 (by omega) LX).1.2.2.2
    · rw [if_neg c] at e1
      obtain ⟨a1, b1⟩ := Prod.mk.inj e1
      rw [b1]; exact hw.1.2.2.2
theorem k_once {fX fX1 fM : sg_F} {LX LM : sg_L} {hl : Bool} {T : Nat → Int32} {n : Nat} {d p k r1 : Int32} (h : rAll fX fM LX LM) (hq : pOk (fX 2)) (hc : xCx (fX 2) (fX 1 3).toInt hl T n fX) (hC : mCx (fX 2) hl T n fM) (e1 : (r1, fX1) = sX11_once d p k fX LX) : xLo (fX 2) (fX 1 3).toInt hl T n (fX1 9) := by
  have hb : 0 ≤ (fX 1 3).toInt ∧ (fX 1 3).toInt ≤ 8 := h.2.2.2.2.2.2 1 3
  have no : ∀ x : Int32, (r1, fX1) = (x, fX) → xLo (fX 2) (fX 1 3).toInt hl T n (fX1 9) := fun x e1 => by
    obtain ⟨a1, b1⟩ := Prod.mk.inj e1
    rw [b1]; exact hc.2.2.2
  unfold sX11_once at e1; (repeat first | rw [spl_d] at e1 | rw [spl2_d] at e1)
  rw [pX_isShelf, pX_isPart] at e1
  by_cases q1 : 0 ≤ d.toInt ∧ d.toInt ≤ 5
  case neg => rw [if_neg q1, if_neg zk0] at e1; exact no _ e1
  rw [if_pos q1, if_pos rfl] at e1
  by_cases q2 : 0 ≤ p.toInt ∧ p.toInt ≤ 2
  case neg => rw [if_neg q2, if_neg zk0] at e1; exact no _ e1
  rw [if_pos q2, if_pos rfl] at e1
  by_cases q3 : k.toInt < 0
  · rw [if_pos q3] at e1; exact no _ e1
  rw [if_neg q3] at e1
  by_cases q4 : 2 < k.toInt
  · rw [if_pos q4] at e1; exact no _ e1
  rw [if_neg q4] at e1
  rcases h.week (LM := LM) hc hC q1 with ⟨a, b⟩ | ⟨a, b⟩ | ⟨b, W, N, f1, a, hN, hw, e, -⟩
  · rw [a] at e1; dsimp only at e1; rw [if_neg (by decide)] at e1; exact no _ e1
  · rw [a] at e1; dsimp only at e1; rw [if_neg (by decide)] at e1; exact no _ e1
  · rw [a] at e1; dsimp only at e1; rw [if_pos (by decide)] at e1
    have hW := hw.2.2.2.2.2.1.W hN
    have hk : kC (fX 2) (fX 1 3).toInt hl T n N f1 := ⟨hw.1, hw.2.2.2.2.2.2.2.2, fun i hi => by rw [hw.2.2.2.2.2.2.2.1 i hi]; exact hW i hi, hw.2.2.2.1⟩
    obtain ⟨a1, b1⟩ := Prod.mk.inj e1
    rw [b1]
    exact (hk.once hb.2 hq hN q2 LX).1.2.2.2
