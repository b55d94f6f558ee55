/-! JUDGE: the first shift that is unlike -/
theorem judge_l {W : Nat → Int32} {B g : sg_F} {LX LM : sg_L} {N len t : Nat} {x0 x1 y3 : Int32} {p : Nat} (hN : N ≤ 21) (hp : x1.toInt = p) (hp3 : p < 3) (h11 : ∀ j : Nat, j ≤ N → ∀ i : Nat, i < N → xSq W B LX j 11 i = W i) (hh : hHs W B LX N g) (hsh : (sX12_shiftsOf (x0 / 10) g LM).toInt = N) (h23 : (g 23 (x0 - x0 / 10 * 10).toNatClampNeg).toInt = len) (ht : (x0 - x0 / 10 * 10).toInt = t) (ht6 : t < 6) (hlen : len ≤ 60) (h3 : y3.toInt = if len < N then len else N) (hel : ∀ i : Nat, i < len → LX (41 + 2 * t) i = LM 24 (60 * t + i)) : ∀ (q i : Nat) (y : Int32), y.toInt = i → i ≤ N → i ≤ len → N - i < q → ∃ (r : Int32) (j : Nat), j ≤ N ∧ sX11_firstUnlike_l25 t x1 q y3 y (xSq W B LX i) LX = (r, xSq W B LX j) ∧ sX12_judge_l98 x0 x1 q y g LM = (r, g) := by
  have cp : x1.toNatClampNeg = p := by
    have := bn_clI (x := x1) (by omega)
    omega
  have k60 : (60 : Int32).toInt = 60 := by decide
  intro q
  induction q with
  | zero => intro i y _ _ _ h; exact absurd h (by omega)
  | succ q ih =>
    intro i y ey hi hil hq
    have e9 : sX11_firstUnlike_l25 t x1 (q + 1) y3 y (xSq W B LX i) LX = sX11_firstUnlike_h25 t x1 (sX11_firstUnlike_l25 t x1 q) y3 y (xSq W B LX i) LX := rfl
    have e8 : sX12_judge_l98 x0 x1 (q + 1) y g LM = sX12_judge_h98 x0 x1 (sX12_judge_l98 x0 x1 q) y g LM := rfl
    have cy := bn_clI (x := y) (by omega)
    have eyn : y.toNatClampNeg = i := by omega
    rw [e9, e8]
    unfold sX11_firstUnlike_h25 sX11_firstUnlike_b86 sX12_judge_h98; (repeat first | rw [spl_d] | rw [spl2_d])
    by_cases c1 : i < N
    case neg =>
      rw [if_neg (show ¬ y.toInt < y3.toInt from by by_cases z : len < N <;> simp only [z, if_true, if_false] at h3 <;> omega), if_neg (show ¬ y.toInt < (sX12_shiftsOf (x0 / 10) g LM).toInt from by omega)]
      exact ⟨-2, i, hi, rfl, rfl⟩
    by_cases c2 : i < len
    case neg =>
      rw [if_neg (show ¬ y.toInt < y3.toInt from by by_cases z : len < N <;> simp only [z, if_true, if_false] at h3 <;> omega), if_pos (show y.toInt < (sX12_shiftsOf (x0 / 10) g LM).toInt from by omega), if_neg (show ¬ y.toInt < (g 23 (x0 - x0 / 10 * 10).toNatClampNeg).toInt from by omega)]
      exact ⟨-2, i, hi, rfl, rfl⟩
    rw [if_pos (show y.toInt < y3.toInt from by by_cases z : len < N <;> simp only [z, if_true, if_false] at h3 <;> omega), if_pos (show y.toInt < (sX12_shiftsOf (x0 / 10) g LM).toInt from by omega), if_pos (show y.toInt < (g 23 (x0 - x0 / 10 * 10).toNatClampNeg).toInt from by omega)]
    have ey1 := inc1 ey (by omega)
    have en : sX4_pass (xSq W B LX i 11 i) (xSq W B LX i) LX = xSq W B LX (i + 1) := by
      rw [h11 i hi i c1]; rfl
    have e60 : (60 * (x0 - x0 / 10 * 10)).toInt = 60 * (x0 - x0 / 10 * 10).toInt := bn_mulJ k60 (by omega) (by omega)
    have e61 : (60 * (x0 - x0 / 10 * 10) + y).toInt = (60 * (x0 - x0 / 10 * 10)).toInt + y.toInt := bn_addI (by omega) (by omega)
    have c60 := bn_clI (x := 60 * (x0 - x0 / 10 * 10) + y) (by omega)
    have eh : g 13 (3 * (y + 1) + x1).toNatClampNeg = xSq W B LX (i + 1) 14 p := by
      rw [idx3 ey1 (by omega) hp hp3]
      exact hh (i + 1) (by omega) (by omega) p hp3
    have ew : LM 24 (60 * (x0 - x0 / 10 * 10) + y).toNatClampNeg = LX (41 + 2 * t) i := by
      rw [hel i c2]
      exact congrArg _ (by omega)
    unfold sX12_isSeen; (repeat first | rw [spl_d] | rw [spl2_d])
    rw [eyn, en, eh, ew, cp]
    obtain ⟨w, hw⟩ : ∃ z : Int64, z = LX (41 + 2 * t) i := ⟨_, rfl⟩
    obtain ⟨v, hv⟩ : ∃ z : Int32, z = xSq W B LX (i + 1) 14 p := ⟨_, rfl⟩
    rw [← hw, ← hv]
    have k1 : ¬ (1 : Int32).toInt = 0 := by decide
    have k0 : (0 : Int32).toInt = 0 := by decide
    by_cases d1 : (lg_cmp w (-1)).toInt = 0
    · rw [if_pos d1, if_pos d1, if_neg k1]
      exact ih (i + 1) (y + 1) ey1 (by omega) (by omega) (by omega)
    rw [if_neg d1, if_neg d1]
    by_cases d2 : (lg_cmp w (Int32.toInt64 v)).toInt = 0
    · rw [if_pos d2, if_pos d2, if_neg k1]
      exact ih (i + 1) (y + 1) ey1 (by omega) (by omega) (by omega)
    · rw [if_neg d2, if_neg d2, if_pos k0]
      exact ⟨y, i + 1, by omega, rfl, rfl⟩
theorem t_judge {fX fX1 fM fM1 : sg_F} {LX LM : sg_L} {hl : Bool} {T : Nat → Int32} {n : Nat} {x p r1 r2 : Int32} (h : rAll fX fM LX LM) (hm : mOk (fX 2)) (hq : pOk (fX 2)) (hc : xCx (fX 2) (fX 1 3).toInt hl T n fX) (hC : mCx (fX 2) hl T n fM) (e1 : (r1, fX1) = sX11_judge x p fX LX) (e2 : (r2, fM1) = sX12_judge x p fM LM) : r1 = r2 ∧ xLo (fX 2) (fX 1 3).toInt hl T n (fX1 9) := by
  have hI := h.2.2.2.2.2.2
  have hb : 0 ≤ (fX 1 3).toInt ∧ (fX 1 3).toInt ≤ 8 := hI 1 3
  have hs := h.2.1
  have h36 : (fX 36 2).toInt ≤ 50 := (hI 36 2).2
  have he := h.2.2.1
  obtain ⟨hs1, hs2⟩ := shB hI
  have k10 : (10 : Int32).toInt = 10 := by decide
  have k0 : (0 : Int32).toInt = 0 := by decide
  have k11 : (-11 : Int32).toInt = -11 := by decide
  have k12 : (-12 : Int32).toInt = -12 := by decide
  have no : ∀ x : Int32, (r1, fX1) = (x, fX) → (r2, fM1) = (x, fM) → r1 = r2 ∧ xLo (fX 2) (fX 1 3).toInt hl T n (fX1 9) := fun x e1 e2 => by
    obtain ⟨a1, b1⟩ := Prod.mk.inj e1
    obtain ⟨a2, b2⟩ := Prod.mk.inj e2
    exact ⟨by rw [a1, a2], by rw [b1]; exact hc.2.2.2⟩
  unfold sX11_judge at e1; (repeat first | rw [spl_d] at e1 | rw [spl2_d] at e1)
  unfold sX12_judge at e2; (repeat first | rw [spl_d] at e2 | rw [spl2_d] at e2)
  rw [pX_isShelf, pX_isShelf, pX_isPart] at e1
  rw [pM_isShelf, pM_isShelf, pM_isPart] at e2
  by_cases c0 : x.toInt < 0
  · rw [if_pos c0] at e1 e2; exact no _ e1 e2
  rw [if_neg c0] at e1 e2
  obtain ⟨v1, ev1⟩ : ∃ z : Int32, z = x / 10 := ⟨_, rfl⟩
  obtain ⟨v3, ev3⟩ : ∃ z : Int32, z = x - x / 10 * 10 := ⟨_, rfl⟩
  rw [← ev3] at e1 e2
  rw [← ev1] at e1 e2
  by_cases q1 : 0 ≤ v1.toInt ∧ v1.toInt ≤ 5
  case neg => rw [if_neg q1, if_neg zk0] at e1 e2; exact no _ e1 e2
  rw [if_pos q1, if_pos rfl] at e1 e2
  by_cases q3 : 0 ≤ v3.toInt ∧ v3.toInt ≤ 5
  case neg => rw [if_neg q3, if_neg zk0] at e1 e2; exact no _ e1 e2
  rw [if_pos q3, if_pos rfl] at e1 e2
  by_cases qp : 0 ≤ p.toInt ∧ p.toInt ≤ 2
  case neg => rw [if_neg qp, if_neg zk0] at e1 e2; exact no _ e1 e2
  rw [if_pos qp, if_pos rfl] at e1 e2
  rw [xref, xref] at e1
  rw [mbytes, mbytes, if_pos q1, if_pos q3] at e2
  have cd1 := bn_clI q1.1
  have cd3 := bn_clI q3.1
  have A1 := hs.at q1.1 q1.2
  have A3 := hs.at q3.1 q3.2
  by_cases z1 : (fX (40 + 2 * v1.toNatClampNeg) 1).toInt = -1
  · rw [if_pos z1, if_pos k11] at e1
    rw [if_pos (show (fM 22 v1.toNatClampNeg).toInt < 0 from by omega)] at e2
    exact no _ e1 e2
  rw [if_neg (show ¬ (fM 22 v1.toNatClampNeg).toInt < 0 from by omega)] at e2
  have n1 : ¬ (if (fX (40 + 2 * v1.toNatClampNeg) 1).toInt = -1 then (-11 : Int32) else if (fX (40 + 2 * v1.toNatClampNeg) 1).toInt = 0 then 0 else -12).toInt = -11 := by
    rw [if_neg z1]
    by_cases w : (fX (40 + 2 * v1.toNatClampNeg) 1).toInt = 0
    · rw [if_pos w]; decide
    · rw [if_neg w]; decide
  rw [if_neg n1] at e1
  by_cases z3 : (fX (40 + 2 * v3.toNatClampNeg) 1).toInt = -1
  · rw [if_pos z3, if_pos k11] at e1
    rw [if_pos (show (fM 22 v3.toNatClampNeg).toInt < 0 from by omega)] at e2
    exact no _ e1 e2
  rw [if_neg (show ¬ (fM 22 v3.toNatClampNeg).toInt < 0 from by omega)] at e2
  have n3 : ¬ (if (fX (40 + 2 * v3.toNatClampNeg) 1).toInt = -1 then (-11 : Int32) else if (fX (40 + 2 * v3.toNatClampNeg) 1).toInt = 0 then 0 else -12).toInt = -11 := by
    rw [if_neg z3]
    by_cases w : (fX (40 + 2 * v3.toNatClampNeg) 1).toInt = 0
    · rw [if_pos w]; decide
    · rw [if_neg w]; decide
  rw [if_neg n3, if_neg z1, if_neg z3] at e1
  rw [if_neg (show ¬ (fM 22 v1.toNatClampNeg).toInt < 0 from by omega), if_neg (show ¬ (fM 22 v3.toNatClampNeg).toInt < 0 from by omega)] at e2
  by_cases y1 : (fX (40 + 2 * v1.toNatClampNeg) 1).toInt = 0
  case neg =>
    rw [if_neg y1, if_neg (by decide)] at e1
    rw [if_neg (show ¬ (fM 22 v1.toNatClampNeg).toInt = 50 from by omega), if_neg (by decide), if_neg (by decide)] at e2
    exact no _ e1 e2
  rw [if_pos y1, if_pos k0] at e1
  rw [if_pos (show (fM 22 v1.toNatClampNeg).toInt = 50 from by omega), if_pos rfl] at e2
  by_cases y3 : (fX (40 + 2 * v3.toNatClampNeg) 1).toInt = 0
  case neg =>
    rw [if_neg y3, if_neg (by decide)] at e1
    rw [if_neg (show ¬ (fM 22 v3.toNatClampNeg).toInt = 50 from by omega), if_neg (by decide), if_neg (by decide)] at e2
    exact no _ e1 e2
  rw [if_pos y3, if_pos k0] at e1
  rw [if_pos (show (fM 22 v3.toNatClampNeg).toInt = 50 from by omega), if_pos rfl] at e2
  have kb3 := hs2 v3.toNatClampNeg (by omega)
  have l3 : (fX (40 + 2 * v3.toNatClampNeg) 2).toInt = (fM 23 v3.toNatClampNeg).toInt := by omega
  rcases h.week (LM := LM) hc hC q1 with ⟨a, b⟩ | ⟨a, b⟩ | ⟨b, W, N, f1, a, hN, hw, e, -⟩
  · exfalso
    rw [mbytes, if_pos q1, if_neg (show ¬ (fM 22 v1.toNatClampNeg).toInt < 0 from by omega), if_pos (show (fM 22 v1.toNatClampNeg).toInt = 50 from by omega)] at b
    exact absurd b (by decide)
  · exfalso
    rw [mbytes, if_pos q1, if_neg (show ¬ (fM 22 v1.toNatClampNeg).toInt < 0 from by omega), if_pos (show (fM 22 v1.toNatClampNeg).toInt = 50 from by omega)] at b
    exact absurd b (by decide)
  · obtain ⟨g1, p1, p2, p3, p4, p5, p6⟩ := hw.go hb.2 hm hq hN LX
    have hv : (f1 10 2).toInt = N := hw.2.2.2.2.2.2.2.2
    rw [a] at e1
    dsimp only at e1
    unfold sX11_firstUnlike at e1; (repeat first | rw [spl_d] at e1 | rw [spl2_d] at e1)
    rw [p1] at e2
    dsimp only at e2
    have ef3 : f1 (40 + 2 * v3.toNatClampNeg) = fX (40 + 2 * v3.toNatClampNeg) := e _ (by omega) (by omega) (by omega)
    rw [ef3] at e1
    have mn := bn_minI (fX (40 + 2 * v3.toNatClampNeg) 2) (f1 10 2)
    obtain ⟨w, ew⟩ : ∃ z : Int32, z = (if fX (40 + 2 * v3.toNatClampNeg) 2 < f1 10 2 then fX (40 + 2 * v3.toNatClampNeg) 2 else f1 10 2) := ⟨_, rfl⟩
    rw [← ew] at mn e1
    have cl := bn_clI kb3.1
    have hwv : w.toInt = if (fX (40 + 2 * v3.toNatClampNeg) 2).toNatClampNeg < N then (((fX (40 + 2 * v3.toNatClampNeg) 2).toNatClampNeg : Nat) : Int) else (N : Int) := by
      by_cases z : (fX (40 + 2 * v3.toNatClampNeg) 2).toNatClampNeg < N
      · rw [if_pos z]; omega
      · rw [if_neg z]; omega
    obtain ⟨r, j, u1, u2, u3⟩ := judge_l (W := W) (B := sX4_begin f1 LX) (g := g1) (LX := LX) (LM := LM) (N := N) (len := (fX (40 + 2 * v3.toNatClampNeg) 2).toNatClampNeg) (t := v3.toNatClampNeg) (x0 := x) (x1 := p) (y3 := w) (p := p.toNatClampNeg) hN (bn_clI qp.1).symm (by have := bn_clI qp.1; omega) (fun j hj i hi => by
      rw [(p5 j hj).2.1.1 11 (by decide) (by decide) (by decide) (by decide) (by decide) (by decide)]
      exact hw.2.2.2.2.2.2.2.1 i hi) p4 (by
      rw [← ev1, shfM_fr (show g1 23 = fM 23 from funext fun j => p3 23 j (by decide) (by decide) (by decide) (Or.inl (by decide)))]
      exact hw.2.2.2.2.2.2.1) (by rw [← ev3, p3 23 _ (by decide) (by decide) (by decide) (Or.inl (by decide))]; omega) (by rw [← ev3]; omega) (by omega) (by omega) (by rw [hwv]; split <;> rfl) (fun i hi => he _ (by omega) (by omega) i (by omega)) 22 0 0 (by decide) (Nat.zero_le _) (Nat.zero_le _) (by omega)
    have e1 : (r1, fX1) = sX11_firstUnlike_l25 v3.toNatClampNeg p 22 w 0 (xSq W (sX4_begin f1 LX) LX 0) LX := e1
    rw [u2] at e1
    rw [u3] at e2
    obtain ⟨a1, b1⟩ := Prod.mk.inj e1
    obtain ⟨a2, b2⟩ := Prod.mk.inj e2
    exact ⟨by rw [a1, a2], by rw [b1]; exact (p5 j u1).1.2.2.2⟩
