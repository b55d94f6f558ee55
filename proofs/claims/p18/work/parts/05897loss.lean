/-! LOSSES of a row: loss, never, best -/
/-- the class's loss of one who sits, or of nobody -/
theorem xlossN {m : Nat → Int32} {S : Int} {hl : Bool} {T : Nat → Int32} {n : Nat} {s p v : Int32} {f : sg_F} (h : xCx m S hl T n f) (hS : S ≤ 8) (hs : s.toInt = -1 ∨ (0 ≤ s.toInt ∧ s.toInt < S)) (hp : 0 ≤ p.toInt ∧ p.toInt ≤ 2) (hv : 0 ≤ v.toInt ∧ v.toInt ≤ 60) (L : sg_L) : (sX0_lossAt s p v f L).1 = (if 0 ≤ s.toInt then lsv m hl T n s p v else 0) ∧ xCx m S hl T n (sX0_lossAt s p v f L).2 ∧ ∀ q : Nat, q ≠ 8 → q ≠ 9 → (sX0_lossAt s p v f L).2 q = f q := by
  rcases hs with hs | hs
  · have e : sX0_lossAt s p v f L = (0, f) := by
      unfold sX0_lossAt; (repeat first | rw [spl_d] | rw [spl2_d])
      rw [if_pos hs]
    rw [e, if_neg (by omega)]
    exact ⟨rfl, h, fun _ _ _ => rfl⟩
  · rw [if_pos hs.1]
    exact xloss h hS hs hp hv L
theorem t_loss {fX fX1 fM fM1 : sg_F} {LX LM : sg_L} {hl : Bool} {T : Nat → Int32} {n : Nat} {s p v r1 r2 : Int32} (h : rAll fX fM LX LM) (hm : mOk (fX 2)) (hc : xCx (fX 2) (fX 1 3).toInt hl T n fX) (hC : mCx (fX 2) hl T n fM) (e1 : (r1, fX1) = sX11_loss s p v fX LX) (e2 : (r2, fM1) = sX12_loss s p v fM LM) : r1 = r2 ∧ xLo (fX 2) (fX 1 3).toInt hl T n (fX1 9) := by
  have hb : 0 ≤ (fX 1 3).toInt ∧ (fX 1 3).toInt ≤ 8 := h.2.2.2.2.2.2 1 3
  have e13 : (fX 1 3).toInt = (fM 0 6).toInt := h.1.1
  have es := Int32.toInt_toInt64 s
  have ev := Int32.toInt_toInt64 v
  have no : ∀ x : Int32, (r1, fX1) = (x, fX) → (r2, fM1) = (x, fM) → r1 = r2 ∧ xLo (fX 2) (fX 1 3).toInt hl T n (fX1 9) := fun x e1 e2 => by
    obtain ⟨a1, b1⟩ := Prod.mk.inj e1
    obtain ⟨a2, b2⟩ := Prod.mk.inj e2
    exact ⟨by rw [a1, a2], by rw [b1]; exact hc.2.2.2⟩
  unfold sX11_loss at e1; (repeat first | rw [spl_d] at e1 | rw [spl2_d] at e1)
  unfold sX12_loss at e2; (repeat first | rw [spl_d] at e2 | rw [spl2_d] at e2)
  rw [has_X, pX_isPart, pX_isSetting] at e1
  rw [pM_isSitter _ _ _ (by omega), pM_isPart, pM_isSetting, es, ev, ← e13] at e2
  by_cases q2 : 0 ≤ s.toInt ∧ s.toInt < (fX 1 3).toInt
  case neg => rw [if_neg q2, if_neg zk0] at e1 e2; exact no _ e1 e2
  rw [if_pos q2, if_pos rfl] at e1 e2
  by_cases qp : 0 ≤ p.toInt ∧ p.toInt ≤ 2
  case neg => rw [if_neg qp, if_neg zk0] at e1 e2; exact no _ e1 e2
  rw [if_pos qp, if_pos rfl] at e1 e2
  by_cases qv : 0 ≤ v.toInt ∧ v.toInt ≤ 60
  case neg => rw [if_neg qv, if_neg zk0] at e1 e2; exact no _ e1 e2
  rw [if_pos qv, if_pos rfl] at e1 e2
  obtain ⟨a1, b1⟩ := Prod.mk.inj e1
  obtain ⟨a2, b2⟩ := Prod.mk.inj e2
  obtain ⟨x1, x2, x3⟩ := xloss hc hb.2 q2 qp qv LX
  obtain ⟨y1, y2⟩ := mloss (s := s) hC hm (by omega) qp qv LM
  exact ⟨by rw [a1, a2, x1, y1], by rw [b1]; exact x2.2.2.2⟩
/-! sums over sitters and over shifts -/
theorem tms_b {W : Nat → Int32} {s : Nat} : ∀ i : Nat, i ≤ 21 → 0 ≤ (tms W s i).toInt ∧ (tms W s i).toInt ≤ (i : Int) := by
  have k1 : (1 : Int32).toInt = 1 := by decide
  intro i
  induction i with
  | zero => intro _; exact ⟨show 0 ≤ (0 : Int32).toInt by decide, show (0 : Int32).toInt ≤ ((0 : Nat) : Int) by decide⟩
  | succ i ih =>
    intro hi
    obtain ⟨a, b⟩ := ih (by omega)
    show 0 ≤ (if (W i).toInt = s then tms W s i + 1 else tms W s i).toInt ∧ (if (W i).toInt = s then tms W s i + 1 else tms W s i).toInt ≤ ((i + 1 : Nat) : Int)
    by_cases c : (W i).toInt = s
    · have e : (tms W s i + 1).toInt = (tms W s i).toInt + 1 := (bn_addI (by omega) (by omega)).trans (by omega)
      rw [if_pos c]; omega
    · rw [if_neg c]; omega
/-- who sits at all sits in a shift -/
theorem tms_ex {W : Nat → Int32} {s : Nat} : ∀ i : Nat, i ≤ 21 → 0 < (tms W s i).toInt → ∃ j : Nat, j < i ∧ (W j).toInt = s := by
  intro i
  induction i with
  | zero => intro _ h; exact absurd (show 0 < (0 : Int32).toInt from h) (by decide)
  | succ i ih =>
    intro hi h
    have h : 0 < (if (W i).toInt = s then tms W s i + 1 else tms W s i).toInt := h
    by_cases c : (W i).toInt = s
    · exact ⟨i, by omega, c⟩
    · rw [if_neg c] at h
      obtain ⟨j, a, b⟩ := ih (by omega) h
      exact ⟨j, by omega, b⟩
theorem tms_in {W : Nat → Int32} {s : Nat} : ∀ i : Nat, i ≤ 21 → ∀ j : Nat, j < i → (W j).toInt = s → 0 < (tms W s i).toInt := by
  have k1 : (1 : Int32).toInt = 1 := by decide
  intro i
  induction i with
  | zero => intro _ j h; exact absurd h (by omega)
  | succ i ih =>
    intro hi j hj e
    obtain ⟨a, b⟩ := tms_b (W := W) (s := s) i (by omega)
    show 0 < (if (W i).toInt = s then tms W s i + 1 else tms W s i).toInt
    by_cases c : (W i).toInt = s
    · have e : (tms W s i + 1).toInt = (tms W s i).toInt + 1 := (bn_addI (by omega) (by omega)).trans (by omega)
      rw [if_pos c]; omega
    · rw [if_neg c]
      have : j ≠ i := fun z => c (by rw [← z]; exact e)
      exact ih (by omega) j (by omega) e
def aS (h l : Nat → Int32) : Nat → Int32
  | 0 => 0
  | k + 1 => aS h l k + h k * l k
def nS (W : Nat → Int32) (l : Nat → Int32) : Nat → Int32
  | 0 => 0
  | i + 1 => nS W l i + (if 0 ≤ (W i).toInt then l (W i).toNatClampNeg else 0)
theorem aS_up {h h1 l : Nat → Int32} {s : Nat} (e : ∀ k : Nat, h1 k = if k = s then h k + 1 else h k) : ∀ k : Nat, aS h1 l k = aS h l k + (if s < k then l s else 0) := by
  intro k
  induction k with
  | zero => rw [if_neg (by omega)]; rfl
  | succ k ih =>
    show aS h1 l k + h1 k * l k = aS h l k + h k * l k + _
    rw [ih, e k]
    by_cases z : k = s
    · rw [if_pos z, if_neg (by omega), if_pos (by omega), z, Int32.add_mul, Int32.one_mul, Int32.add_zero, Int32.add_assoc]
    · rw [if_neg z]
      by_cases y : s < k
      · rw [if_pos y, if_pos (by omega), Int32.add_assoc, Int32.add_assoc, Int32.add_comm (l s)]
      · rw [if_neg y, if_neg (by omega), Int32.add_zero, Int32.add_zero]
theorem aS_0 {l : Nat → Int32} {h : Nat → Int32} (e : ∀ k : Nat, h k = 0) : ∀ k : Nat, aS h l k = 0 := by
  intro k
  induction k with
  | zero => rfl
  | succ k ih =>
    show aS h l k + h k * l k = 0
    rw [ih, e k, Int32.zero_mul]; rfl
theorem aS_nS {W l : Nat → Int32} {S : Int} (hS : S ≤ 8) : ∀ i : Nat, (∀ j : Nat, j < i → (W j).toInt = -1 ∨ (0 ≤ (W j).toInt ∧ (W j).toInt < S)) → aS (fun s => tms W s i) l 8 = nS W l i := by
  intro i
  induction i with
  | zero => intro _; exact aS_0 (fun _ => rfl) 8
  | succ i ih =>
    intro h
    show _ = nS W l i + (if 0 ≤ (W i).toInt then l (W i).toNatClampNeg else 0)
    rw [← ih (fun j hj => h j (by omega))]
    rcases h i (by omega) with w | ⟨w1, w2⟩
    · rw [if_neg (by omega), Int32.add_zero]
      have e : (fun s => tms W s (i + 1)) = fun s => tms W s i := funext fun s => by
        show (if (W i).toInt = s then tms W s i + 1 else tms W s i) = tms W s i
        rw [if_neg (by omega)]
      rw [e]
    · have cw := bn_clI w1
      rw [if_pos w1, aS_up (s := (W i).toNatClampNeg) (h := fun s => tms W s i) (h1 := fun s => tms W s (i + 1)) (fun k => ?_), if_pos (by omega)]
      show (if (W i).toInt = k then tms W k i + 1 else tms W k i) = if k = (W i).toNatClampNeg then tms W k i + 1 else tms W k i
      by_cases z : (W i).toInt = k
      · rw [if_pos z, if_pos (by omega)]
      · rw [if_neg z, if_neg (by omega)]
/-- what losses of a row find -/
def lS (m : Nat → Int32) (S : Int) (hl : Bool) (T : Nat → Int32) (n : Nat) (W : Nat → Int32) (N : Nat) (d : Int32) (LM : sg_L) (f g : sg_F) : Prop := xCx m S hl T n f ∧ mCx m hl T n g ∧ (∀ s : Nat, s < 8 → f 12 s = tms W s N) ∧ hWho W S N d g LM ∧ (sX12_shiftsOf d g LM).toInt = N ∧ ∀ j : Nat, g 11 j = 0
theorem lS.K {m : Nat → Int32} {S : Int} {hl : Bool} {T : Nat → Int32} {n : Nat} {W : Nat → Int32} {N : Nat} {d : Int32} {LM : sg_L} {f g f1 g1 : sg_F} (h : lS m S hl T n W N d LM f g) (c : xCx m S hl T n f1) (a : f1 12 = f 12) (b : mX g g1) : lS m S hl T n W N d LM f1 g1 := by
  obtain ⟨h1, h2, h3, h4, h5, h6⟩ := h
  refine ⟨c, h2.X b, fun s hs => by rw [a]; exact h3 s hs, h4.H (b 0 6 (by decide) (Or.inr (by decide))) (fun j => b 11 j (by decide) (Or.inl (by decide))), ?_, fun j => ?_⟩
  · rw [shfM_fr (show g1 23 = g 23 from funext fun j => b 23 j (by decide) (Or.inl (by decide)))]; exact h5
  · rw [b 11 j (by decide) (Or.inl (by decide))]; exact h6 j
/-- the loss of the sitter at a place -/
noncomputable def lvf (m : Nat → Int32) (hl : Bool) (T : Nat → Int32) (n : Nat) (p v : Int32) (s : Nat) : Int32 := lsv m hl T n (Int32.ofNat s) p v
theorem lvf_W {m : Nat → Int32} {hl : Bool} {T : Nat → Int32} {n : Nat} {p v w : Int32} (hw : 0 ≤ w.toInt ∧ w.toInt ≤ 7) : lvf m hl T n p v w.toNatClampNeg = lsv m hl T n w p v := by
  unfold lvf
  rw [ofNat8 hw]
/-- all losses, to the class -/
theorem xall {m : Nat → Int32} {S : Int} {hl : Bool} {T : Nat → Int32} {n : Nat} {W : Nat → Int32} {N : Nat} {p v : Int32} {L : sg_L} (hS : S ≤ 8) (hN : N ≤ 21) (hW : ∀ j : Nat, j < N → (W j).toInt = -1 ∨ (0 ≤ (W j).toInt ∧ (W j).toInt < S)) (hp : 0 ≤ p.toInt ∧ p.toInt ≤ 2) (hv : 0 ≤ v.toInt ∧ v.toInt ≤ 60) : ∀ (q i : Nat) (y : Int32) (f : sg_F), y.toInt = i → i ≤ 8 → 8 - i < q → xCx m S hl T n f → (∀ s : Nat, s < 8 → f 12 s = tms W s N) → ∃ f1 : sg_F, sX8_allLosses_l5 p v q (aS (fun s => tms W s N) (lvf m hl T n p v) i) y f L = (nS W (lvf m hl T n p v) N, f1) ∧ xCx m S hl T n f1 ∧ ∀ k : Nat, k ≠ 8 → k ≠ 9 → f1 k = f k := by
  intro q
  induction q with
  | zero => intro i y f _ _ h; exact absurd h (by omega)
  | succ q ih =>
    intro i y f ey hi hq hc h12
    have e9 : sX8_allLosses_l5 p v (q + 1) (aS (fun s => tms W s N) (lvf m hl T n p v) i) y f L = sX8_allLosses_h5 p v (sX8_allLosses_l5 p v q) (aS (fun s => tms W s N) (lvf m hl T n p v) i) y f L := rfl
    have cy := bn_clI (x := y) (by omega)
    have eyn : y.toNatClampNeg = i := by omega
    rw [e9]
    unfold sX8_allLosses_h5 sX8_allLosses_b50; (repeat first | rw [spl_d] | rw [spl2_d])
    by_cases c : i < 8
    case neg =>
      rw [if_neg (by omega)]
      have : i = 8 := by omega
      subst this
      rw [aS_nS hS N hW]
      exact ⟨f, rfl, hc, fun _ _ _ => rfl⟩
    rw [if_pos (by omega), eyn, h12 i c]
    have ey1 := inc1 ey (by omega)
    have st : aS (fun s => tms W s N) (lvf m hl T n p v) (i + 1) = aS (fun s => tms W s N) (lvf m hl T n p v) i + tms W i N * lvf m hl T n p v i := rfl
    obtain ⟨tb1, tb2⟩ := tms_b (W := W) (s := i) N hN
    by_cases z : 0 < (tms W i N).toInt
    · obtain ⟨j, j1, j2⟩ := tms_ex (W := W) (s := i) N hN z
      have hyS : 0 ≤ y.toInt ∧ y.toInt < S := by
        rcases hW j j1 with w | ⟨w1, w2⟩ <;> omega
      rw [if_pos z]
      obtain ⟨x1, x2, x3⟩ := xloss hc hS hyS hp hv L
      have el : lvf m hl T n p v i = lsv m hl T n y p v := by rw [← eyn]; exact lvf_W (by omega)
      rw [x1, ← el, ← st]
      obtain ⟨f1, u1, u2, u3⟩ := ih (i + 1) (y + 1) _ ey1 (by omega) (by omega) x2 (fun s hs => by rw [x3 12 (by decide) (by decide)]; exact h12 s hs)
      exact ⟨f1, u1, u2, fun k a b => (u3 k a b).trans (x3 k a b)⟩
    · rw [if_neg z]
      have e0 : tms W i N = 0 := Int32.toInt_inj.mp (by rw [show (0 : Int32).toInt = 0 from by decide]; omega)
      rw [e0, Int32.zero_mul, Int32.add_zero] at st
      rw [← st]
      exact ih (i + 1) (y + 1) f ey1 (by omega) (by omega) hc h12
/-- all losses, to the reference -/
theorem mall {m : Nat → Int32} {S : Int} {hl : Bool} {T : Nat → Int32} {n : Nat} {W : Nat → Int32} {N : Nat} {d p v : Int32} {LM : sg_L} {f : sg_F} (hm : mOk m) (hS : S ≤ 8) (hN : N ≤ 21) (hp : 0 ≤ p.toInt ∧ p.toInt ≤ 2) (hv : 0 ≤ v.toInt ∧ v.toInt ≤ 60) : ∀ (q i : Nat) (y : Int32) (g : sg_F), y.toInt = i → i ≤ N → N - i < q → lS m S hl T n W N d LM f g → ∃ g1 : sg_F, sX12_neverOf_l6 d p v q (nS W (lvf m hl T n p v) i) y g LM = (nS W (lvf m hl T n p v) N, g1) ∧ mX g g1 := by
  intro q
  induction q with
  | zero => intro i y g _ _ h; exact absurd h (by omega)
  | succ q ih =>
    intro i y g ey hi hq h
    have e9 : sX12_neverOf_l6 d p v (q + 1) (nS W (lvf m hl T n p v) i) y g LM = sX12_neverOf_h6 d p v (sX12_neverOf_l6 d p v q) (nS W (lvf m hl T n p v) i) y g LM := rfl
    have ey1 := inc1 ey (by omega)
    obtain ⟨h1, h2, h3, h4, h5, h6⟩ := h
    rw [e9]
    unfold sX12_neverOf_h6; (repeat first | rw [spl_d] | rw [spl2_d])
    by_cases c : i < N
    case neg =>
      rw [if_neg (by omega)]
      have : i = N := by omega
      subst this
      exact ⟨g, rfl, mX.rf⟩
    rw [if_pos (by omega)]
    have st : nS W (lvf m hl T n p v) (i + 1) = nS W (lvf m hl T n p v) i + (if 0 ≤ (W i).toInt then lvf m hl T n p v (W i).toNatClampNeg else 0) := rfl
    rcases h4 y i ey c with ⟨w1, w2⟩ | ⟨w1, w2, w3, w4⟩
    · have w2 : (sX12_whoSits d y g LM).toInt < 0 := w2.resolve_right (fun z => z (by rw [h6]; decide))
      rw [if_neg (by omega), Int32.add_zero] at st
      rw [if_pos w2, ← st]
      exact ih (i + 1) (y + 1) g ey1 (by omega) (by omega) ⟨h1, h2, h3, h4, h5, h6⟩
    · rw [w3, if_neg (show ¬ (W i).toInt < 0 from by omega)]
      obtain ⟨y1, y2⟩ := mloss (s := W i) h2 hm (by omega) hp hv LM
      rw [if_pos w1, lvf_W (by omega)] at st
      rw [y1, ← st]
      obtain ⟨g1, u1, u2⟩ := ih (i + 1) (y + 1) _ ey1 (by omega) (by omega) (lS.K ⟨h1, h2, h3, h4, h5, h6⟩ h1 rfl y2)
      exact ⟨g1, u1, y2.tr u2⟩
