/-! NEVER and BEST -/
/-- how both answer for a row: no week -/
theorem rl_s {fX f1 fM : sg_F} {LM : sg_L} {d : Int32} {hl : Bool} {T : Nat → Int32} {n : Nat} {W : Nat → Int32} {N : Nat} (hid : rIdle fX fM) (hw : wS (fX 2) (fX 1 3).toInt hl T n W N d LM f1 fM) (hr : xRd W N fX f1) : lS (fX 2) (fX 1 3).toInt hl T n W N d LM f1 fM := by
  obtain ⟨h1, h2, h3, h4, h5, h6, h7, h8, h9⟩ := hw
  exact ⟨h1, h2, hr.2.2.2.1, h6, h7, hid.2.2.2.2.2.2⟩
theorem t_never {fX fX1 fM fM1 : sg_F} {LX LM : sg_L} {hl : Bool} {T : Nat → Int32} {n : Nat} {d p v r1 r2 : Int32} (h : rAll fX fM LX LM) (hm : mOk (fX 2)) (hc : xCx (fX 2) (fX 1 3).toInt hl T n fX) (hC : mCx (fX 2) hl T n fM) (e1 : (r1, fX1) = sX11_never d p v fX LX) (e2 : (r2, fM1) = sX12_never d p v fM LM) : r1 = r2 ∧ xLo (fX 2) (fX 1 3).toInt hl T n (fX1 9) := by
  have hb : 0 ≤ (fX 1 3).toInt ∧ (fX 1 3).toInt ≤ 8 := h.2.2.2.2.2.2 1 3
  have hid := h.2.2.2.2.2.1
  have ev := Int32.toInt_toInt64 v
  have no : ∀ x : Int32, (r1, fX1) = (x, fX) → (r2, fM1) = (x, fM) → r1 = r2 ∧ xLo (fX 2) (fX 1 3).toInt hl T n (fX1 9) := fun x e1 e2 => by
    obtain ⟨a1, b1⟩ := Prod.mk.inj e1
    obtain ⟨a2, b2⟩ := Prod.mk.inj e2
    exact ⟨by rw [a1, a2], by rw [b1]; exact hc.2.2.2⟩
  unfold sX11_never at e1; (repeat first | rw [spl_d] at e1 | rw [spl2_d] at e1)
  unfold sX12_never at e2; (repeat first | rw [spl_d] at e2 | rw [spl2_d] at e2)
  rw [pX_isShelf, pX_isPart, pX_isSetting] at e1
  rw [pM_isPart, pM_isSetting, ev] at e2
  by_cases q1 : 0 ≤ d.toInt ∧ d.toInt ≤ 5
  case neg =>
    rw [if_neg q1, if_neg zk0] at e1
    rw [mbytes, if_neg q1, if_neg (by decide), if_pos rfl] at e2
    exact no _ e1 e2
  rw [if_pos q1, if_pos rfl] at e1
  have e2n : (¬ (0 ≤ p.toInt ∧ p.toInt ≤ 2) ∨ ¬ (0 ≤ v.toInt ∧ v.toInt ≤ 60)) → (r2, fM1) = (-1, fM) := fun z => by
    have inner : ∀ x : Int32 × sg_F, (if (if 0 ≤ p.toInt ∧ p.toInt ≤ 2 then (1 : Int32) else 0) = 1 then (if (if 0 ≤ v.toInt ∧ v.toInt ≤ 60 then (1 : Int32) else 0) = 1 then x else (-1, fM)) else (-1, fM)) = (-1, fM) := fun x => by
      by_cases z1 : 0 ≤ p.toInt ∧ p.toInt ≤ 2
      · have z2 : ¬ (0 ≤ v.toInt ∧ v.toInt ≤ 60) := z.resolve_left (fun w => w z1)
        rw [if_pos z1, if_pos rfl, if_neg z2, if_neg zk0]
      · rw [if_neg z1, if_neg zk0]
    by_cases y : sX12_bytesIs d fM LM = 1
    · rw [if_pos y, inner] at e2; exact e2
    · rw [if_neg y] at e2
      by_cases y2 : sX12_bytesIs d fM LM = -1
      · rw [if_pos y2] at e2; exact e2
      · rw [if_neg y2, inner] at e2; exact e2
  by_cases q2 : 0 ≤ p.toInt ∧ p.toInt ≤ 2
  case neg => rw [if_neg q2, if_neg zk0] at e1; exact no _ e1 (e2n (Or.inl q2))
  rw [if_pos q2, if_pos rfl] at e1
  by_cases q3 : 0 ≤ v.toInt ∧ v.toInt ≤ 60
  case neg => rw [if_neg q3, if_neg zk0] at e1; exact no _ e1 (e2n (Or.inr q3))
  rw [if_pos q3, if_pos rfl] at e1
  rw [if_pos q2, if_pos q3, if_pos rfl, if_pos rfl, if_pos rfl, if_pos rfl] at e2
  rcases h.week hc hC q1 with ⟨a, b⟩ | ⟨a, b⟩ | ⟨b, W, N, f1, a, hN, hw, e, hr, -⟩
  · rw [a] at e1; dsimp only at e1; rw [if_neg (by decide)] at e1
    rw [b, if_neg (by decide), if_neg (by decide)] at e2
    exact no _ e1 e2
  · rw [a] at e1; dsimp only at e1; rw [if_neg (by decide)] at e1
    rw [b, if_neg (by decide), if_neg (by decide)] at e2
    exact no _ e1 e2
  · have hl1 := rl_s hid hw hr
    have hW := hw.2.2.2.2.2.1.W hN
    rw [a] at e1; dsimp only at e1; rw [if_pos (by decide)] at e1
    obtain ⟨F, x1, x2, x3⟩ := xall (L := LX) (p := p) (v := v) hb.2 hN hW q2 q3 9 0 0 f1 (by decide) (by decide) (by decide) hl1.1 hl1.2.2.1
    obtain ⟨G, y1, y2⟩ := mall (d := d) (LM := LM) (p := p) (v := v) (f := f1) hm hb.2 hN q2 q3 22 0 0 fM (by decide) (by omega) (by omega) hl1
    have x1 : sX8_allLosses p v f1 LX = (nS W (lvf (fX 2) hl T n p v) N, F) := x1
    have y1 : sX12_neverOf d p v fM LM = (nS W (lvf (fX 2) hl T n p v) N, G) := y1
    rw [x1] at e1
    rw [b, if_pos rfl, y1] at e2
    obtain ⟨a1, b1⟩ := Prod.mk.inj e1
    obtain ⟨a2, b2⟩ := Prod.mk.inj e2
    exact ⟨by rw [a1, a2], by rw [b1]; exact x2.2.2.2⟩
/-- the largest of the losses, or 0 -/
def isW (W l : Nat → Int32) (N : Nat) (z : Int32) : Prop := 0 ≤ z.toInt ∧ (∀ i : Nat, i < N → 0 ≤ (W i).toInt → (l (W i).toNatClampNeg).toInt ≤ z.toInt) ∧ (z = 0 ∨ ∃ i : Nat, i < N ∧ 0 ≤ (W i).toInt ∧ z = l (W i).toNatClampNeg)
theorem isW.one {W l : Nat → Int32} {N : Nat} {z w : Int32} (hz : isW W l N z) (hw : isW W l N w) : z = w := by
  have k0 : (0 : Int32).toInt = 0 := by decide
  obtain ⟨a1, a2, a3⟩ := hz
  obtain ⟨b1, b2, b3⟩ := hw
  refine Int32.toInt_inj.mp ?_
  have h1 : z.toInt ≤ w.toInt := by
    rcases a3 with a | ⟨i, i1, i2, i3⟩
    · rw [a]; omega
    · rw [i3]; exact b2 i i1 i2
  have h2 : w.toInt ≤ z.toInt := by
    rcases b3 with a | ⟨i, i1, i2, i3⟩
    · rw [a]; omega
    · rw [i3]; exact a2 i i1 i2
  omega
theorem lvf_b {m : Nat → Int32} {hl : Bool} {T : Nat → Int32} {n : Nat} {p v : Int32} {s : Nat} : 0 ≤ (lvf m hl T n p v s).toInt := lsv_b.1
theorem xworst {m : Nat → Int32} {S : Int} {hl : Bool} {T : Nat → Int32} {n : Nat} {W : Nat → Int32} {N : Nat} {p v : Int32} {L : sg_L} (hS : S ≤ 8) (hN : N ≤ 21) (hW : ∀ j : Nat, j < N → (W j).toInt = -1 ∨ (0 ≤ (W j).toInt ∧ (W j).toInt < S)) (hp : 0 ≤ p.toInt ∧ p.toInt ≤ 2) (hv : 0 ≤ v.toInt ∧ v.toInt ≤ 60) : ∀ (q i : Nat) (y a : Int32) (f : sg_F), y.toInt = i → i ≤ 8 → 8 - i < q → xCx m S hl T n f → (∀ s : Nat, s < 8 → f 12 s = tms W s N) → 0 ≤ a.toInt → (∀ j : Nat, j < N → 0 ≤ (W j).toInt → (W j).toInt < i → (lvf m hl T n p v (W j).toNatClampNeg).toInt ≤ a.toInt) → (a = 0 ∨ ∃ j : Nat, j < N ∧ 0 ≤ (W j).toInt ∧ a = lvf m hl T n p v (W j).toNatClampNeg) → ∃ (z : Int32) (f1 : sg_F), sX8_worstLoss_l5 p v q a y f L = (z, f1) ∧ isW W (lvf m hl T n p v) N z ∧ xCx m S hl T n f1 ∧ ∀ k : Nat, k ≠ 8 → k ≠ 9 → f1 k = f k := by
  intro q
  induction q with
  | zero => intro i y a f _ _ h; exact absurd h (by omega)
  | succ q ih =>
    intro i y a f ey hi hq hc h12 h0 hA hB
    have e9 : sX8_worstLoss_l5 p v (q + 1) a y f L = sX8_worstLoss_h5 p v (sX8_worstLoss_l5 p v q) a y f L := rfl
    have cy := bn_clI (x := y) (by omega)
    have eyn : y.toNatClampNeg = i := by omega
    rw [e9]
    unfold sX8_worstLoss_h5 sX8_worstLoss_b41; (repeat first | rw [spl_d] | rw [spl2_d])
    by_cases c : i < 8
    case neg =>
      rw [if_neg (by omega)]
      exact ⟨a, f, rfl, ⟨h0, fun j j1 j2 => hA j j1 j2 (by rcases hW j j1 with w | ⟨w1, w2⟩ <;> omega), hB⟩, hc, fun _ _ _ => rfl⟩
    rw [if_pos (by omega), eyn, h12 i c]
    have ey1 := inc1 ey (by omega)
    obtain ⟨tb1, tb2⟩ := tms_b (W := W) (s := i) N hN
    by_cases z : 0 < (tms W i N).toInt
    · obtain ⟨j, j1, j2⟩ := tms_ex (W := W) (s := i) N hN z
      have hyS : 0 ≤ y.toInt ∧ y.toInt < S := by
        rcases hW j j1 with w | ⟨w1, w2⟩ <;> omega
      rw [if_pos z]
      obtain ⟨x1, x2, x3⟩ := xloss hc hS hyS hp hv L
      have el : lvf m hl T n p v i = lsv m hl T n y p v := by rw [← eyn]; exact lvf_W (by omega)
      rw [x1, ← el]
      have mx := bn_maxI a (lvf m hl T n p v i)
      have lb := lvf_b (m := m) (hl := hl) (T := T) (n := n) (p := p) (v := v) (s := i)
      have ma : ∀ x y : Int32, (if x < y then y else x) = x ∨ (if x < y then y else x) = y := fun x y => by
        by_cases z : x < y
        · exact Or.inr (if_pos z)
        · exact Or.inl (if_neg z)
      have mb := ma a (lvf m hl T n p v i)
      obtain ⟨b, eb⟩ : ∃ z : Int32, z = (if a < lvf m hl T n p v i then lvf m hl T n p v i else a) := ⟨_, rfl⟩
      rw [← eb] at mx mb ⊢
      have cwj := bn_clI (x := W j) (by omega)
      obtain ⟨z1, f1, u1, u2, u3, u4⟩ := ih (i + 1) (y + 1) b _ ey1 (by omega) (by omega) x2 (fun s hs => by rw [x3 12 (by decide) (by decide)]; exact h12 s hs) (by omega) (fun k k1 k2 k3 => by
        have ck := bn_clI k2
        by_cases w : (W k).toInt = i
        · rw [show (W k).toNatClampNeg = i from by omega]; omega
        · have := hA k k1 k2 (by omega); omega) (by
        rcases mb with w | w
        · rw [w]; exact hB
        · exact Or.inr ⟨j, j1, by omega, by rw [w, show (W j).toNatClampNeg = i from by omega]⟩)
      exact ⟨z1, f1, u1, u2, u3, fun k a b => (u4 k a b).trans (x3 k a b)⟩
    · rw [if_neg z]
      refine ih (i + 1) (y + 1) a f ey1 (by omega) (by omega) hc h12 h0 (fun k k1 k2 k3 => ?_) hB
      by_cases w : (W k).toInt = i
      · exact absurd (tms_in (W := W) (s := i) N hN k k1 w) z
      · exact hA k k1 k2 (by omega)
theorem mworst {m : Nat → Int32} {S : Int} {hl : Bool} {T : Nat → Int32} {n : Nat} {W : Nat → Int32} {N : Nat} {d p v : Int32} {LM : sg_L} {f : sg_F} (hm : mOk m) (hS : S ≤ 8) (hN : N ≤ 21) (hp : 0 ≤ p.toInt ∧ p.toInt ≤ 2) (hv : 0 ≤ v.toInt ∧ v.toInt ≤ 60) : ∀ (q i : Nat) (y a : Int32) (g : sg_F), y.toInt = i → i ≤ N → N - i < q → lS m S hl T n W N d LM f g → 0 ≤ a.toInt → (∀ j : Nat, j < i → 0 ≤ (W j).toInt → (lvf m hl T n p v (W j).toNatClampNeg).toInt ≤ a.toInt) → (a = 0 ∨ ∃ j : Nat, j < N ∧ 0 ≤ (W j).toInt ∧ a = lvf m hl T n p v (W j).toNatClampNeg) → ∃ (z : Int32) (g1 : sg_F), sX12_worstOf_l6 d p v q a y g LM = (z, g1) ∧ isW W (lvf m hl T n p v) N z ∧ mX g g1 := by
  intro q
  induction q with
  | zero => intro i y a g _ _ h; exact absurd h (by omega)
  | succ q ih =>
    intro i y a g ey hi hq h h0 hA hB
    have e9 : sX12_worstOf_l6 d p v (q + 1) a y g LM = sX12_worstOf_h6 d p v (sX12_worstOf_l6 d p v q) a y g LM := rfl
    have ey1 := inc1 ey (by omega)
    obtain ⟨h1, h2, h3, h4, h5, h6⟩ := h
    rw [e9]
    unfold sX12_worstOf_h6; (repeat first | rw [spl_d] | rw [spl2_d])
    by_cases c : i < N
    case neg =>
      rw [if_neg (by omega)]
      exact ⟨a, g, rfl, ⟨h0, fun j j1 j2 => hA j (by omega) j2, hB⟩, mX.rf⟩
    rw [if_pos (by omega)]
    rcases h4 y i ey c with ⟨w1, w2⟩ | ⟨w1, w2, w3, w4⟩
    · have w2 : (sX12_whoSits d y g LM).toInt < 0 := w2.resolve_right (fun z => z (by rw [h6]; decide))
      rw [if_pos w2]
      refine ih (i + 1) (y + 1) a g ey1 (by omega) (by omega) ⟨h1, h2, h3, h4, h5, h6⟩ h0 (fun j j1 j2 => ?_) hB
      by_cases z : j = i
      · rw [z] at j2; exfalso; omega
      · exact hA j (by omega) j2
    · rw [w3, if_neg (show ¬ (W i).toInt < 0 from by omega)]
      obtain ⟨y1, y2⟩ := mloss (s := W i) h2 hm (by omega) hp hv LM
      have el : lvf m hl T n p v (W i).toNatClampNeg = lsv m hl T n (W i) p v := lvf_W (by omega)
      rw [y1, ← el]
      have lb := lvf_b (m := m) (hl := hl) (T := T) (n := n) (p := p) (v := v) (s := (W i).toNatClampNeg)
      have hk := lS.K ⟨h1, h2, h3, h4, h5, h6⟩ h1 rfl y2
      by_cases z : a.toInt < (lvf m hl T n p v (W i).toNatClampNeg).toInt
      · rw [if_pos z]
        obtain ⟨z1, g1, u1, u2, u3⟩ := ih (i + 1) (y + 1) (lvf m hl T n p v (W i).toNatClampNeg) _ ey1 (by omega) (by omega) hk (by omega) (fun j j1 j2 => by
          by_cases w : j = i
          · rw [w]; exact Int.le_refl _
          · have := hA j (by omega) j2; omega) (Or.inr ⟨i, c, w1, rfl⟩)
        exact ⟨z1, g1, u1, u2, y2.tr u3⟩
      · rw [if_neg z]
        obtain ⟨z1, g1, u1, u2, u3⟩ := ih (i + 1) (y + 1) a _ ey1 (by omega) (by omega) hk h0 (fun j j1 j2 => by
          by_cases w : j = i
          · rw [w]; omega
          · exact hA j (by omega) j2) hB
        exact ⟨z1, g1, u1, u2, y2.tr u3⟩
/-- one setting of best, both sides -/
theorem best1 {m : Nat → Int32} {S : Int} {hl : Bool} {T : Nat → Int32} {n : Nat} {W : Nat → Int32} {N : Nat} {d p v : Int32} {LX LM : sg_L} {f g : sg_F} (hm : mOk m) (hS : S ≤ 8) (hN : N ≤ 21) (hW : ∀ j : Nat, j < N → (W j).toInt = -1 ∨ (0 ≤ (W j).toInt ∧ (W j).toInt < S)) (hp : 0 ≤ p.toInt ∧ p.toInt ≤ 2) (hv : 0 ≤ v.toInt ∧ v.toInt ≤ 60) (h : lS m S hl T n W N d LM f g) : (∃ (z : Int32) (f1 g1 : sg_F), sX8_allLosses p v f LX = (z, f1) ∧ sX12_neverOf d p v g LM = (z, g1) ∧ lS m S hl T n W N d LM f1 g1 ∧ mX g g1 ∧ ∀ k : Nat, k ≠ 8 → k ≠ 9 → f1 k = f k) ∧ ∃ (z : Int32) (f1 g1 : sg_F), sX8_worstLoss p v f LX = (z, f1) ∧ sX12_worstOf d p v g LM = (z, g1) ∧ lS m S hl T n W N d LM f1 g1 ∧ mX g g1 ∧ ∀ k : Nat, k ≠ 8 → k ≠ 9 → f1 k = f k := by
  refine ⟨?_, ?_⟩
  · obtain ⟨F, x1, x2, x3⟩ := xall (L := LX) (p := p) (v := v) hS hN hW hp hv 9 0 0 f (by decide) (by decide) (by decide) h.1 h.2.2.1
    obtain ⟨G, y1, y2⟩ := mall (d := d) (LM := LM) (p := p) (v := v) (f := f) hm hS hN hp hv 22 0 0 g (by decide) (by omega) (by omega) h
    exact ⟨_, F, G, x1, y1, h.K x2 (x3 12 (by decide) (by decide)) y2, y2, x3⟩
  · obtain ⟨z, F, x1, x2, x3, x4⟩ := xworst (L := LX) (p := p) (v := v) hS hN hW hp hv 9 0 0 0 f (by decide) (by decide) (by decide) h.1 h.2.2.1 (by decide) (fun j _ j2 j3 => by exfalso; omega) (Or.inl rfl)
    obtain ⟨w, G, y1, y2, y3⟩ := mworst (d := d) (LM := LM) (p := p) (v := v) (f := f) hm hS hN hp hv 22 0 0 0 g (by decide) (by omega) (by omega) h (by decide) (fun j j1 => by exfalso; omega) (Or.inl rfl)
    have e := isW.one x2 y2
    subst e
    exact ⟨_, F, G, x1, y1, h.K x3 (x4 12 (by decide) (by decide)) y3, y3, x4⟩
theorem best_l {m : Nat → Int32} {S : Int} {hl : Bool} {T : Nat → Int32} {n : Nat} {W : Nat → Int32} {N : Nat} {d p k : Int32} {LX LM : sg_L} (hm : mOk m) (hS : S ≤ 8) (hN : N ≤ 21) (hW : ∀ j : Nat, j < N → (W j).toInt = -1 ∨ (0 ≤ (W j).toInt ∧ (W j).toInt < S)) (hp : 0 ≤ p.toInt ∧ p.toInt ≤ 2) : ∀ (q i : Nat) (y y3 y4 z4 z5 : Int32) (f g : sg_F), y.toInt = i → i ≤ 61 → 61 - i < q → lS m S hl T n W N d LM f g → ((i = 0 ∧ z4 = -1) ∨ (0 < i ∧ y3 = z4 ∧ y4 = z5 ∧ 0 ≤ z4.toInt)) → ∃ (r : Int32) (f1 g1 : sg_F), sX8_bestOf_l8 p k q y3 y4 y f LX = (r, f1) ∧ sX12_best_l64 d p k q z4 z5 y g LM = (r, g1) ∧ xCx m S hl T n f1 := by
  intro q
  induction q with
  | zero => intro i y y3 y4 z4 z5 f g _ _ h; exact absurd h (by omega)
  | succ q ih =>
    intro i y y3 y4 z4 z5 f g ey hi hq h hb
    have e9 : sX8_bestOf_l8 p k (q + 1) y3 y4 y f LX = sX8_bestOf_h8 p k (sX8_bestOf_l8 p k q) y3 y4 y f LX := rfl
    have e8 : sX12_best_l64 d p k (q + 1) z4 z5 y g LM = sX12_best_h64 d p k (sX12_best_l64 d p k q) z4 z5 y g LM := rfl
    have ey1 := inc1 ey (by omega)
    rw [e9, e8]
    unfold sX8_bestOf_h8 sX12_best_h64; (repeat first | rw [spl_d] | rw [spl2_d])
    by_cases c : i ≤ 60
    case neg =>
      rw [if_pos (show 60 < y.toInt from by omega), if_neg (show ¬ y.toInt < 61 from by omega)]
      rcases hb with ⟨a, -⟩ | ⟨a, b1, b2, -⟩
      · exfalso; omega
      · rw [b1, b2]
        by_cases z : (k - k / 2 * 2).toInt = 0
        · rw [if_pos z, if_pos z]; exact ⟨_, _, _, rfl, rfl, h.1⟩
        · rw [if_neg z, if_neg z]; exact ⟨_, _, _, rfl, rfl, h.1⟩
    rw [if_neg (show ¬ 60 < y.toInt from by omega), if_pos (show y.toInt < 61 from by omega)]
    -- with what one setting gives
    have go : ∀ (z : Int32) (f1 g1 : sg_F), lS m S hl T n W N d LM f1 g1 → ∃ (r : Int32) (f2 g2 : sg_F), (if y.toInt = 0 then sX8_bestOf_b51 (sX8_bestOf_l8 p k q) p k y z f1 LX else if z.toInt < y4.toInt then sX8_bestOf_b51 (sX8_bestOf_l8 p k q) p k y z f1 LX else sX8_bestOf_b58 (sX8_bestOf_l8 p k q) p k y3 y4 y f1 LX) = (r, f2) ∧ (if z4.toInt < 0 then sX12_best_b109 (sX12_best_l64 d p k q) d p k y z g1 LM else if z.toInt < z5.toInt then sX12_best_b109 (sX12_best_l64 d p k q) d p k y z g1 LM else sX12_best_b117 (sX12_best_l64 d p k q) d p k z4 z5 y g1 LM) = (r, g2) ∧ xCx m S hl T n f2 := by
      intro z f1 g1 h1
      have b51 : sX8_bestOf_b51 (sX8_bestOf_l8 p k q) p k y z f1 LX = sX8_bestOf_l8 p k q y z (y + 1) f1 LX := rfl
      have b58 : sX8_bestOf_b58 (sX8_bestOf_l8 p k q) p k y3 y4 y f1 LX = sX8_bestOf_l8 p k q y3 y4 (y + 1) f1 LX := rfl
      have c109 : sX12_best_b109 (sX12_best_l64 d p k q) d p k y z g1 LM = sX12_best_l64 d p k q y z (y + 1) g1 LM := rfl
      have c117 : sX12_best_b117 (sX12_best_l64 d p k q) d p k z4 z5 y g1 LM = sX12_best_l64 d p k q z4 z5 (y + 1) g1 LM := rfl
      rw [b51, b58, c109, c117]
      rcases hb with ⟨a, b⟩ | ⟨a, b1, b2, b3⟩
      · rw [if_pos (show y.toInt = 0 from by omega), if_pos (show z4.toInt < 0 from by rw [b]; decide)]
        exact ih (i + 1) (y + 1) y z y z f1 g1 ey1 (by omega) (by omega) h1 (Or.inr ⟨by omega, rfl, rfl, by omega⟩)
      · rw [if_neg (show ¬ y.toInt = 0 from by omega), if_neg (show ¬ z4.toInt < 0 from by omega), b2]
        by_cases w : z.toInt < z5.toInt
        · rw [if_pos w, if_pos w]
          exact ih (i + 1) (y + 1) y z y z f1 g1 ey1 (by omega) (by omega) h1 (Or.inr ⟨by omega, rfl, rfl, by omega⟩)
        · rw [if_neg w, if_neg w]
          exact ih (i + 1) (y + 1) y3 z5 z4 z5 f1 g1 ey1 (by omega) (by omega) h1 (Or.inr ⟨by omega, b1, rfl, b3⟩)
    obtain ⟨⟨z, f1, g1, u1, u2, u3, u4, u5⟩, ⟨w, f2, g2, v1, v2, v3, v4, v5⟩⟩ := best1 (d := d) (LX := LX) (LM := LM) hm hS hN hW hp (v := y) ⟨by omega, by omega⟩ h
    by_cases ck : k.toInt < 2
    · rw [if_pos ck, if_pos ck, u1, u2]
      exact go z f1 g1 u3
    · rw [if_neg ck, if_neg ck, v1, v2]
      exact go w f2 g2 v3
