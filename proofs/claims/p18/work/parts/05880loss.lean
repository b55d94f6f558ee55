/-! LOSSES on both sides -/
def ab (x : Int32) : Int32 := if (0 : Int32) ≤ x then x else 0 - x
theorem ab_I {x : Int32} (h : -2147483648 < x.toInt) : (0 ≤ x.toInt ∧ (ab x).toInt = x.toInt) ∨ (x.toInt < 0 ∧ (ab x).toInt = -x.toInt) := bn_absI h
theorem siz_ab {x : Int32} (h : -2147483648 < x.toInt) (f : sg_F) (L : sg_L) : sX12_sizeOf x f L = ab x := by
  refine Int32.toInt_inj.mp ?_
  have a := ab_I h
  unfold sX12_sizeOf; (repeat first | rw [spl_d] | rw [spl2_d])
  by_cases c : x.toInt < 0
  · have e : (-x).toInt = -x.toInt := bn_negI h
    rw [if_pos c]; omega
  · rw [if_neg c]; omega
/-- held within 0 .. 9999 -/
def lcl (x : Int32) : Int32 := if x.toInt < 0 then 0 else if 9999 < x.toInt then 9999 else x
/-- what a law, or none, gives: m: the numbers as the class has them -/
noncomputable def lsr (m : Nat → Int32) (hl : Bool) (T : Nat → Int32) (n : Nat) (s p : Nat) (k v : Int32) : Int32 := if hl = true then (pLaw T n).2.2.2 (vN v (m (8 * s + p)) (m (8 * s + 5)) k) else ab (v - m (8 * s + p)) * (if (m (8 * s + p)).toInt < v.toInt then m (8 * s + 3) else m (8 * s + 4)) * m (8 * s + 5)
noncomputable def lsv (m : Nat → Int32) (hl : Bool) (T : Nat → Int32) (n : Nat) (s p v : Int32) : Int32 := lcl (lsr m hl T n s.toNatClampNeg p.toNatClampNeg p v)
/-- the numbers are within what they may be -/
def mOk (m : Nat → Int32) : Prop := ∀ s : Nat, s < 8 → (∀ p : Nat, p < 3 → 0 ≤ (m (8 * s + p)).toInt ∧ (m (8 * s + p)).toInt ≤ 60) ∧ (0 ≤ (m (8 * s + 3)).toInt ∧ (m (8 * s + 3)).toInt ≤ 9) ∧ (0 ≤ (m (8 * s + 4)).toInt ∧ (m (8 * s + 4)).toInt ≤ 9) ∧ (0 ≤ (m (8 * s + 5)).toInt ∧ (m (8 * s + 5)).toInt ≤ 12) ∧ (0 ≤ (m (8 * s + 6)).toInt ∧ (m (8 * s + 6)).toInt ≤ 60) ∧ (0 ≤ (m (8 * s + 7)).toInt ∧ (m (8 * s + 7)).toInt ≤ 12)
/-- the class's law -/
def xLw (hl : Bool) (T : Nat → Int32) (n : Nat) (f : sg_F) : Prop := (hl = false ∧ (f 4 2).toInt = 0) ∨ (hl = true ∧ (f 4 2).toInt ≠ 0 ∧ (pLaw T n).2.1 = true ∧ (pLaw T n).2.2.1.length ≤ 121 ∧ (f 4 9).toInt = (pLaw T n).2.2.1.length ∧ trL (f 7) 0 (pLaw T n).2.2.1)
/-- the losses that are kept are right -/
def xLo (m : Nat → Int32) (S : Int) (hl : Bool) (T : Nat → Int32) (n : Nat) (g : Nat → Int32) : Prop := ∀ s p v : Int32, 0 ≤ s.toInt → s.toInt < S → 0 ≤ p.toInt → p.toInt ≤ 2 → 0 ≤ v.toInt → v.toInt ≤ 60 → (g (183 * s.toNatClampNeg + 61 * p.toNatClampNeg + v.toNatClampNeg)).toInt = -1 ∨ g (183 * s.toNatClampNeg + 61 * p.toNatClampNeg + v.toNatClampNeg) = lsv m hl T n s p v
def xCx (m : Nat → Int32) (S : Int) (hl : Bool) (T : Nat → Int32) (n : Nat) (f : sg_F) : Prop := f 2 = m ∧ (f 1 3).toInt = S ∧ xLw hl T n f ∧ xLo m S hl T n (f 9)
theorem xCx.fr {m : Nat → Int32} {S : Int} {hl : Bool} {T : Nat → Int32} {n : Nat} {f f1 : sg_F} (h : xCx m S hl T n f) (a1 : f1 1 = f 1) (a2 : f1 2 = f 2) (a4 : f1 4 = f 4) (a7 : f1 7 = f 7) (a9 : f1 9 = f 9) : xCx m S hl T n f1 := by
  unfold xCx xLw
  rw [a1, a2, a4, a7, a9]
  exact h
theorem lcl_X {x : Int32} : (if (0 : Int32) < (if x < (9999 : Int32) then x else 9999) then (if x < (9999 : Int32) then x else 9999) else 0) = lcl x := by
  refine Int32.toInt_inj.mp ?_
  have k0 : (0 : Int32).toInt = 0 := by decide
  have k9 : (9999 : Int32).toInt = 9999 := by decide
  have a := bn_minI x 9999
  have b := bn_maxI 0 (if x < (9999 : Int32) then x else 9999)
  unfold lcl
  by_cases c1 : x.toInt < 0
  · rw [if_pos c1]; omega
  rw [if_neg c1]
  by_cases c2 : 9999 < x.toInt
  · rw [if_pos c2]; omega
  · rw [if_neg c2]; omega
theorem lcl_id {x : Int32} (h : 0 ≤ x.toInt) (h1 : x.toInt ≤ 9999) : lcl x = x := by
  unfold lcl
  rw [if_neg (by omega), if_neg (by omega)]
theorem cellX {s p v : Int32} (hs : 0 ≤ s.toInt ∧ s.toInt ≤ 7) (hp : 0 ≤ p.toInt ∧ p.toInt ≤ 2) (hv : 0 ≤ v.toInt ∧ v.toInt ≤ 60) : (s * 183 + p * 61 + v).toNatClampNeg = 183 * s.toNatClampNeg + 61 * p.toNatClampNeg + v.toNatClampNeg := by
  have k1 : (183 : Int32).toInt = 183 := by decide
  have k2 : (61 : Int32).toInt = 61 := by decide
  have e1 : (s * 183).toInt = s.toInt * 183 := bn_mulI k1 (by omega) (by omega)
  have e2 : (p * 61).toInt = p.toInt * 61 := bn_mulI k2 (by omega) (by omega)
  have e3 : (s * 183 + p * 61).toInt = (s * 183).toInt + (p * 61).toInt := bn_addI (by omega) (by omega)
  have e4 : (s * 183 + p * 61 + v).toInt = (s * 183 + p * 61).toInt + v.toInt := bn_addI (by omega) (by omega)
  have c1 := bn_clI hs.1
  have c2 := bn_clI hp.1
  have c3 := bn_clI hv.1
  have c4 := bn_clI (x := s * 183 + p * 61 + v) (by omega)
  omega
theorem numX {s w : Int32} (hs : 0 ≤ s.toInt ∧ s.toInt ≤ 7) (hw : 0 ≤ w.toInt ∧ w.toInt ≤ 7) (f : sg_F) (L : sg_L) : sX0_numberOf s w f L = f 2 (8 * s.toNatClampNeg + w.toNatClampNeg) := by
  have k1 : (8 : Int32).toInt = 8 := by decide
  have e1 : (s * 8).toInt = s.toInt * 8 := bn_mulI k1 (by omega) (by omega)
  have e2 : (s * 8 + w).toInt = (s * 8).toInt + w.toInt := bn_addI (by omega) (by omega)
  have c1 := bn_clI hs.1
  have c2 := bn_clI hw.1
  have c4 := bn_clI (x := s * 8 + w) (by omega)
  unfold sX0_numberOf; (repeat first | rw [spl_d] | rw [spl2_d])
  rw [show (s * 8 + w).toNatClampNeg = 8 * s.toNatClampNeg + w.toNatClampNeg from by omega]
theorem numM {s w : Int32} (hs : 0 ≤ s.toInt ∧ s.toInt ≤ 7) (hw : 0 ≤ w.toInt ∧ w.toInt ≤ 7) (f : sg_F) (L : sg_L) : sX12_numberOf s w f L = f 1 (8 * w.toNatClampNeg + s.toNatClampNeg) := by
  have k1 : (8 : Int32).toInt = 8 := by decide
  have e1 : (8 * w).toInt = 8 * w.toInt := bn_mulJ k1 (by omega) (by omega)
  have e2 : (8 * w + s).toInt = (8 * w).toInt + s.toInt := bn_addI (by omega) (by omega)
  have c1 := bn_clI hs.1
  have c2 := bn_clI hw.1
  have c4 := bn_clI (x := 8 * w + s) (by omega)
  unfold sX12_numberOf; (repeat first | rw [spl_d] | rw [spl2_d])
  rw [show (8 * w + s).toNatClampNeg = 8 * w.toNatClampNeg + s.toNatClampNeg from by omega]
/-- the class's loss of one who sits -/
theorem xloss {m : Nat → Int32} {S : Int} {hl : Bool} {T : Nat → Int32} {n : Nat} {s p v : Int32} {f : sg_F} (h : xCx m S hl T n f) (hS : S ≤ 8) (hs : 0 ≤ s.toInt ∧ s.toInt < S) (hp : 0 ≤ p.toInt ∧ p.toInt ≤ 2) (hv : 0 ≤ v.toInt ∧ v.toInt ≤ 60) (L : sg_L) : (sX0_lossAt s p v f L).1 = lsv m hl T n s p v ∧ xCx m S hl T n (sX0_lossAt s p v f L).2 ∧ ∀ q : Nat, q ≠ 8 → q ≠ 9 → (sX0_lossAt s p v f L).2 q = f q := by
  obtain ⟨h1, h2, h3, h4⟩ := h
  have hs7 : 0 ≤ s.toInt ∧ s.toInt ≤ 7 := by omega
  have ci := cellX hs7 hp hv
  have hc := h4 s p v hs.1 hs.2 hp.1 hp.2 hv.1 hv.2
  have k3 : (3 : Int32).toInt = 3 := by decide
  have k4 : (4 : Int32).toInt = 4 := by decide
  have k5 : (5 : Int32).toInt = 5 := by decide
  obtain ⟨j, ej⟩ : ∃ z : Nat, z = 183 * s.toNatClampNeg + 61 * p.toNatClampNeg + v.toNatClampNeg := ⟨_, rfl⟩
  rw [← ej] at ci hc
  -- what is put keeps the rest right
  have put : ∀ (x : Int32), x = lsv m hl T n s p v → xLo m S hl T n (sgu (f 9) j x) := by
    intro x ex s' p' v' a1 a2 a3 a4 a5 a6
    by_cases z : 183 * s'.toNatClampNeg + 61 * p'.toNatClampNeg + v'.toNatClampNeg = j
    · right
      have b1 := bn_clI a1
      have b2 := bn_clI a3
      have b3 := bn_clI a5
      have b4 := bn_clI hs.1
      have b5 := bn_clI hp.1
      have b6 := bn_clI hv.1
      have es : s' = s := Int32.toInt_inj.mp (by omega)
      have ep : p' = p := Int32.toInt_inj.mp (by omega)
      have ev : v' = v := Int32.toInt_inj.mp (by omega)
      rw [z, sgu_s, ex, es, ep, ev]
    · rw [sgu_n z]; exact h4 s' p' v' a1 a2 a3 a4 a5 a6
  have fin : ∀ (g : sg_F) (x : Int32), x = lsv m hl T n s p v → (∀ q : Nat, q ≠ 8 → g q = f q) → (x = lsv m hl T n s p v ∧ xCx m S hl T n (sg_up g 9 (sgu (g 9) j x)) ∧ ∀ q : Nat, q ≠ 8 → q ≠ 9 → sg_up g 9 (sgu (g 9) j x) q = f q) := by
    intro g x ex hg
    refine ⟨ex, ⟨?_, ?_, ?_, ?_⟩, fun q a b => by rw [sg_up_n b, hg q a]⟩
    · rw [sg_up_n (by decide), hg 2 (by decide)]; exact h1
    · rw [sg_up_n (by decide), hg 1 (by decide)]; exact h2
    · unfold xLw
      rw [sg_up_n (show (4 : Nat) ≠ 9 by decide), sg_up_n (show (7 : Nat) ≠ 9 by decide), hg 4 (by decide), hg 7 (by decide)]; exact h3
    · rw [sg_up_s, hg 9 (by decide)]; exact put x ex
  unfold sX0_lossAt; (repeat first | rw [spl_d] | rw [spl2_d])
  rw [if_neg (show ¬ s.toInt = -1 from by omega), ci]
  by_cases c : (f 9 j).toInt = -1
  case neg =>
    rw [if_neg c]
    exact ⟨hc.resolve_left c, ⟨h1, h2, h3, h4⟩, fun _ _ _ => rfl⟩
  rw [if_pos c, numX hs7 ⟨hp.1, by omega⟩, numX (w := 5) hs7 (by rw [k5]; decide), numX (w := 3) hs7 (by rw [k3]; decide), numX (w := 4) hs7 (by rw [k4]; decide), h1, show (3 : Int32).toNatClampNeg = 3 from by decide, show (4 : Int32).toNatClampNeg = 4 from by decide, show (5 : Int32).toNatClampNeg = 5 from by decide]
  rcases h3 with ⟨e, z⟩ | ⟨e, z, w1, w2, w3, w4⟩
  · have el : ∀ r : Int32, r = (if (m (8 * s.toNatClampNeg + p.toNatClampNeg)).toInt < v.toInt then m (8 * s.toNatClampNeg + 3) else m (8 * s.toNatClampNeg + 4)) → lcl (ab (v - m (8 * s.toNatClampNeg + p.toNatClampNeg)) * r * m (8 * s.toNatClampNeg + 5)) = lsv m hl T n s p v := by
      intro r er
      unfold lsv lsr
      rw [e, if_neg Bool.false_ne_true, er]
    by_cases d : (m (8 * s.toNatClampNeg + p.toNatClampNeg)).toInt < v.toInt
    · rw [if_pos d, if_pos z, lcl_X]
      exact fin f _ (el _ (by rw [if_pos d])) (fun _ _ => rfl)
    · rw [if_neg d, if_pos z, lcl_X]
      exact fin f _ (el _ (by rw [if_neg d])) (fun _ _ => rfl)
  · have ev := vvalue (T := T) (n := n) v (m (8 * s.toNatClampNeg + p.toNatClampNeg)) (m (8 * s.toNatClampNeg + 5)) p f L w1 w4 w3 w2
    have el : lcl (sX5_valueOf v (m (8 * s.toNatClampNeg + p.toNatClampNeg)) (m (8 * s.toNatClampNeg + 5)) p f L).1 = lsv m hl T n s p v := by
      unfold lsv lsr
      rw [e, if_pos rfl, ev]
    have ek : ∀ q : Nat, q ≠ 8 → (sX5_valueOf v (m (8 * s.toNatClampNeg + p.toNatClampNeg)) (m (8 * s.toNatClampNeg + 5)) p f L).2 q = f q := fun q hq => by
      unfold sX5_valueOf
      exact vvalue_K _ _ _ _ L _ _ _ _ f q hq
    by_cases d : (m (8 * s.toNatClampNeg + p.toNatClampNeg)).toInt < v.toInt
    · rw [if_pos d, if_neg z, lcl_X]
      exact fin _ _ el ek
    · rw [if_neg d, if_neg z, lcl_X]
      exact fin _ _ el ek
/-- the reference's chair: its numbers, its law -/
def mCx (m : Nat → Int32) (hl : Bool) (T : Nat → Int32) (n : Nat) (g : sg_F) : Prop := (∀ s w : Nat, s < 8 → w < 8 → g 1 (8 * w + s) = m (8 * s + w)) ∧ (∀ p : Nat, 64 ≤ p → p < 71 → g 1 p = m p) ∧ ((hl = false ∧ (g 0 11).toInt < 0) ∨ (hl = true ∧ (g 0 11).toInt = n ∧ n ≤ 120 ∧ (∀ i : Nat, i < n → g 7 i = T i) ∧ (pLaw T n).2.1 = true))
/-- all but what a loss uses is as it was -/
def mX (g g1 : sg_F) : Prop := ∀ k j : Nat, k ≠ 8 → (k ≠ 0 ∨ (j ≠ 12 ∧ j ≠ 13 ∧ j ≠ 14 ∧ j ≠ 15 ∧ j ≠ 16)) → g1 k j = g k j
theorem mX.rf {g : sg_F} : mX g g := fun _ _ _ _ => rfl
theorem mX.tr {g g1 g2 : sg_F} (h : mX g g1) (h1 : mX g1 g2) : mX g g2 := fun k j a b => (h1 k j a b).trans (h k j a b)
theorem mW.X {g g1 : sg_F} (h : mW g g1) : mX g g1 := fun k j _ b => h k j b
theorem mX.p8 {g : sg_F} {x : Nat → Int32} : mX g (sg_up g 8 x) := fun k j hk _ => by rw [sg_up_n hk]
theorem mCx.fr {m : Nat → Int32} {hl : Bool} {T : Nat → Int32} {n : Nat} {g g1 : sg_F} (h : mCx m hl T n g) (a1 : ∀ j : Nat, g1 1 j = g 1 j) (a7 : ∀ j : Nat, g1 7 j = g 7 j) (a0 : g1 0 11 = g 0 11) : mCx m hl T n g1 := by
  unfold mCx
  rw [show g1 1 = g 1 from funext a1, show g1 7 = g 7 from funext a7, a0]
  exact h
theorem mCx.X {m : Nat → Int32} {hl : Bool} {T : Nat → Int32} {n : Nat} {g g1 : sg_F} (h : mCx m hl T n g) (k : mX g g1) : mCx m hl T n g1 := h.fr (fun j => k 1 j (by decide) (Or.inl (by decide))) (fun j => k 7 j (by decide) (Or.inl (by decide))) (k 0 11 (by decide) (Or.inr (by decide)))
theorem ab_le {v w : Int32} (hv : 0 ≤ v.toInt ∧ v.toInt ≤ 60) (hw : 0 ≤ w.toInt ∧ w.toInt ≤ 60) : (v - w).toInt = v.toInt - w.toInt ∧ 0 ≤ (ab (v - w)).toInt ∧ (ab (v - w)).toInt ≤ 60 ∧ ((0 ≤ v.toInt - w.toInt ∧ (ab (v - w)).toInt = v.toInt - w.toInt) ∨ (v.toInt - w.toInt < 0 ∧ (ab (v - w)).toInt = w.toInt - v.toInt)) := by
  have e : (v - w).toInt = v.toInt - w.toInt := bn_subI (by omega) (by omega)
  have a := ab_I (x := v - w) (by omega)
  exact ⟨e, by omega, by omega, by omega⟩
theorem mul_le {a b : Int32} {x y : Int} (ha : 0 ≤ a.toInt ∧ a.toInt ≤ x) (hb : 0 ≤ b.toInt ∧ b.toInt ≤ y) (h : x * y ≤ 2147483647) : (a * b).toInt = a.toInt * b.toInt ∧ 0 ≤ (a * b).toInt ∧ (a * b).toInt ≤ x * y := by
  have p1 : 0 ≤ a.toInt * b.toInt := Int.mul_nonneg ha.1 hb.1
  have p2 : a.toInt * b.toInt ≤ x * y := Int.mul_le_mul ha.2 hb.2 hb.1 (Int.le_trans ha.1 ha.2)
  have e : (a * b).toInt = a.toInt * b.toInt := bn_mulI rfl (by omega) (by omega)
  exact ⟨e, by omega, by omega⟩
theorem mloss {m : Nat → Int32} {hl : Bool} {T : Nat → Int32} {n : Nat} {s p v : Int32} {g : sg_F} (h : mCx m hl T n g) (hm : mOk m) (hs : 0 ≤ s.toInt ∧ s.toInt ≤ 7) (hp : 0 ≤ p.toInt ∧ p.toInt ≤ 2) (hv : 0 ≤ v.toInt ∧ v.toInt ≤ 60) (L : sg_L) : (sX12_lossOf s p v g L).1 = lsv m hl T n s p v ∧ mX g (sX12_lossOf s p v g L).2 := by
  obtain ⟨h1, h2, h3⟩ := h
  have k3 : (3 : Int32).toInt = 3 := by decide
  have k4 : (4 : Int32).toInt = 4 := by decide
  have k5 : (5 : Int32).toInt = 5 := by decide
  have cs := bn_clI hs.1
  have cp := bn_clI hp.1
  obtain ⟨b1, b2, b3, b4, -, -⟩ := hm s.toNatClampNeg (by omega)
  have w1 := b1 p.toNatClampNeg (by omega)
  have g8 : ∀ (g' : sg_F), g' 1 = g 1 → ∀ w : Nat, w < 8 → g' 1 (8 * w + s.toNatClampNeg) = m (8 * s.toNatClampNeg + w) := fun g' e w hw => by rw [e]; exact h1 _ _ (by omega) hw
  obtain ⟨W, eW⟩ : ∃ z : Int32, z = m (8 * s.toNatClampNeg + p.toNatClampNeg) := ⟨_, rfl⟩
  obtain ⟨a1, a2, a3, a4⟩ := ab_le hv (w := W) (by rw [eW]; exact w1)
  unfold sX12_lossOf
  rw [spl_d, numM hs ⟨hp.1, by omega⟩, h1 _ _ (by omega) (by omega), ← eW]
  (repeat first | rw [spl_d] | rw [spl2_d])
  rw [siz_ab (x := v - W) (by omega)]
  rcases h3 with ⟨e, z⟩ | ⟨e, z1, z2, z3, z4⟩
  · rw [if_pos z, numM (w := 3) hs (by rw [k3]; decide), numM (w := 4) hs (by rw [k4]; decide), numM (w := 5) hs (by rw [k5]; decide), show (3 : Int32).toNatClampNeg = 3 from by decide, show (4 : Int32).toNatClampNeg = 4 from by decide, show (5 : Int32).toNatClampNeg = 5 from by decide, h1 _ 3 (by omega) (by decide), h1 _ 4 (by omega) (by decide), h1 _ 5 (by omega) (by decide)]
    have el : ∀ r : Int32, (0 ≤ r.toInt ∧ r.toInt ≤ 9) → r = (if W.toInt < v.toInt then m (8 * s.toNatClampNeg + 3) else m (8 * s.toNatClampNeg + 4)) → ab (v - W) * r * m (8 * s.toNatClampNeg + 5) = lsv m hl T n s p v := by
      intro r hr er
      obtain ⟨q1, q2, q3⟩ := mul_le (x := 60) (y := 9) ⟨a2, a3⟩ hr (by decide)
      obtain ⟨q4, q5, q6⟩ := mul_le (a := ab (v - W) * r) (b := m (8 * s.toNatClampNeg + 5)) (x := 540) (y := 12) ⟨q2, by omega⟩ b4 (by decide)
      unfold lsv lsr
      rw [e, if_neg Bool.false_ne_true, ← eW, ← er, lcl_id q5 (by omega)]
    by_cases d : W.toInt < v.toInt
    · rw [if_pos d]
      exact ⟨el _ b2 (by rw [if_pos d]), mX.rf⟩
    · rw [if_neg d]
      exact ⟨el _ b3 (by rw [if_neg d]), mX.rf⟩
  · rw [if_neg (show ¬ (g 0 11).toInt < 0 from by omega)]
    -- the names' values are told, then the text is worked out
    have go : ∀ (u : Int32) (g6 : sg_F), u = (if W.toInt < v.toInt then 1 else 0) → (∀ k : Nat, k ≠ 8 → g6 k = g k) → g6 8 0 = ab (v - W) → g6 8 1 = u → g6 8 2 = v → g6 8 3 = W → g6 8 4 = m (8 * s.toNatClampNeg + 5) → g6 8 5 = p → ((if (sX12_workOut 0 (g 0 11) g6 L).1.toInt < 0 then ((0 : Int32), (sX12_workOut 0 (g 0 11) g6 L).2) else if 9999 < (sX12_workOut 0 (g 0 11) g6 L).1.toInt then (9999, (sX12_workOut 0 (g 0 11) g6 L).2) else ((sX12_workOut 0 (g 0 11) g6 L).1, (sX12_workOut 0 (g 0 11) g6 L).2)).1 = lsv m hl T n s p v ∧ mX g (if (sX12_workOut 0 (g 0 11) g6 L).1.toInt < 0 then ((0 : Int32), (sX12_workOut 0 (g 0 11) g6 L).2) else if 9999 < (sX12_workOut 0 (g 0 11) g6 L).1.toInt then (9999, (sX12_workOut 0 (g 0 11) g6 L).2) else ((sX12_workOut 0 (g 0 11) g6 L).1, (sX12_workOut 0 (g 0 11) g6 L).2)).2) := by
      intro u g6 eu gk n0 n1 n2 n3 n4 n5
      have M := mwork (T := T) (N := vN v W (m (8 * s.toNatClampNeg + 5)) p) (n := n) (x0 := 0) (x1 := g 0 11) (g := g6) L z1 z2 (Or.inr ⟨by decide, fun i hi => by rw [gk 7 (by decide)]; exact z3 i hi⟩) (by
        intro i hi
        rcases (show i = 0 ∨ i = 1 ∨ i = 2 ∨ i = 3 ∨ i = 4 ∨ i = 5 from by omega) with rfl | rfl | rfl | rfl | rfl | rfl
        · exact n0
        · rw [n1, eu]; rfl
        · exact n2
        · exact n3
        · exact n4
        · exact n5)
      have K := mwork_W 0 (g 0 11) g6 L
      obtain ⟨o, eo⟩ : ∃ z : Int32 × sg_F, z = sX12_workOut 0 (g 0 11) g6 L := ⟨_, rfl⟩
      rw [← eo] at M K ⊢
      have e1 : o.1 = lsr m hl T n s.toNatClampNeg p.toNatClampNeg p v := by
        unfold lsr
        rw [e, if_pos rfl, ← eW]
        exact (M.1 z4).1
      have fx : mX g o.2 := mX.tr (fun k j hk _ => by rw [gk k hk]) K.X
      unfold lsv lcl
      rw [← e1]
      by_cases d1 : o.1.toInt < 0
      · rw [if_pos d1, if_pos d1]; exact ⟨rfl, fx⟩
      rw [if_neg d1, if_neg d1]
      by_cases d2 : 9999 < o.1.toInt
      · rw [if_pos d2, if_pos d2]; exact ⟨rfl, fx⟩
      · rw [if_neg d2, if_neg d2]; exact ⟨rfl, fx⟩
    have c0 : (0 : Int32).toNatClampNeg = 0 := by decide
    have c1 : (1 : Int32).toNatClampNeg = 1 := by decide
    have c2 : (2 : Int32).toNatClampNeg = 2 := by decide
    have c3 : (3 : Int32).toNatClampNeg = 3 := by decide
    have c4 : (4 : Int32).toNatClampNeg = 4 := by decide
    have c5 : (5 : Int32).toNatClampNeg = 5 := by decide
    have nm : ∀ g' : sg_F, g' 1 = g 1 → sX12_numberOf s 5 g' L = m (8 * s.toNatClampNeg + 5) := fun g' e => by
      rw [numM (w := 5) hs (by rw [k5]; decide), c5]
      exact g8 g' e 5 (by decide)
    rw [c0, c1, c2, c3, c4, c5]
    by_cases d : W.toInt < v.toInt
    · rw [if_pos d, nm _ (by rw [sg_up_n (by decide), sg_up_n (by decide), sg_up_n (by decide), sg_up_n (by decide)])]
      refine go 1 _ (by rw [if_pos d]) (fun k hk => by rw [sg_up_n hk, sg_up_n hk, sg_up_n hk, sg_up_n hk, sg_up_n hk, sg_up_n hk]) rfl rfl rfl rfl rfl rfl
    · rw [if_neg d, nm _ (by rw [sg_up_n (by decide), sg_up_n (by decide), sg_up_n (by decide), sg_up_n (by decide)])]
      refine go 0 _ (by rw [if_neg d]) (fun k hk => by rw [sg_up_n hk, sg_up_n hk, sg_up_n hk, sg_up_n hk, sg_up_n hk, sg_up_n hk]) rfl rfl rfl rfl rfl rfl
