/-! BEST: the call -/
theorem tos_b {W : Nat → Int32} : ∀ i : Nat, i ≤ 21 → 0 ≤ (tos W i).toInt ∧ (tos W i).toInt ≤ (i : Int) ∧ ((tos W i).toInt = 0 ↔ ∀ j : Nat, j < i → (W j).toInt < 0) := by
  have k1 : (1 : Int32).toInt = 1 := by decide
  intro i
  induction i with
  | zero => intro _; exact ⟨show 0 ≤ (0 : Int32).toInt by decide, show (0 : Int32).toInt ≤ ((0 : Nat) : Int) by decide, ⟨fun _ j h => absurd h (by omega), fun _ => show (0 : Int32).toInt = 0 by decide⟩⟩
  | succ i ih =>
    intro hi
    obtain ⟨a, b, c⟩ := ih (by omega)
    have e0 : tos W (i + 1) = if 0 ≤ (W i).toInt then tos W i + 1 else tos W i := rfl
    rw [e0]
    by_cases z : 0 ≤ (W i).toInt
    · have e : (tos W i + 1).toInt = (tos W i).toInt + 1 := (bn_addI (by omega) (by omega)).trans (by omega)
      rw [if_pos z]
      refine ⟨by omega, by omega, ⟨fun h => by omega, fun h => ?_⟩⟩
      have := h i (by omega)
      omega
    · rw [if_neg z]
      refine ⟨a, by omega, ⟨fun h j hj => ?_, fun h => c.mpr (fun j hj => h j (by omega))⟩⟩
      by_cases y : j = i
      · rw [y]; omega
      · exact c.mp h j (by omega)
theorem many {m : Nat → Int32} {S : Int} {hl : Bool} {T : Nat → Int32} {n : Nat} {W : Nat → Int32} {N : Nat} {d : Int32} {LM : sg_L} {f g : sg_F} (h : lS m S hl T n W N d LM f g) : ∀ (q i : Nat) (y : Int32), y.toInt = i → i ≤ N → N - i < q → N ≤ 21 → (∀ j : Nat, j < i → (W j).toInt < 0) → (sX12_anySits_l2 d q y g LM = 1 ∧ ∃ j : Nat, j < N ∧ 0 ≤ (W j).toInt) ∨ (sX12_anySits_l2 d q y g LM = 0 ∧ ∀ j : Nat, j < N → (W j).toInt < 0) := by
  obtain ⟨h1, h2, h3, h4, h5, h6⟩ := h
  intro q
  induction q with
  | zero => intro i y _ _ h; exact absurd h (by omega)
  | succ q ih =>
    intro i y ey hi hq hN hw
    have e9 : sX12_anySits_l2 d (q + 1) y g LM = sX12_anySits_h2 d (sX12_anySits_l2 d q) y g LM := rfl
    have ey1 := inc1 ey (by omega)
    rw [e9]
    unfold sX12_anySits_h2; (repeat first | rw [spl_d] | rw [spl2_d])
    by_cases c : i < N
    case neg =>
      rw [if_neg (by omega)]
      exact Or.inr ⟨rfl, fun j hj => hw j (by omega)⟩
    rw [if_pos (by omega)]
    rcases h4 y i ey c with ⟨w1, w2⟩ | ⟨w1, w2, w3, w4⟩
    · have w2 : (sX12_whoSits d y g LM).toInt < 0 := w2.resolve_right (fun z => z (by rw [h6]; decide))
      rw [if_pos w2]
      refine ih (i + 1) (y + 1) ey1 (by omega) (by omega) hN (fun j hj => ?_)
      by_cases z : j = i
      · rw [z]; omega
      · exact hw j (by omega)
    · rw [w3, if_neg (show ¬ (W i).toInt < 0 from by omega)]
      exact Or.inl ⟨rfl, i, c, w1⟩
theorem t_best {fX fX1 fM fM1 : sg_F} {LX LM : sg_L} {hl : Bool} {T : Nat → Int32} {n : Nat} {d p k r1 r2 : Int32} (h : rAll fX fM LX LM) (hm : mOk (fX 2)) (hc : xCx (fX 2) (fX 1 3).toInt hl T n fX) (hC : mCx (fX 2) hl T n fM) (e1 : (r1, fX1) = sX11_best d p k fX LX) (e2 : (r2, fM1) = sX12_best d p k fM LM) : r1 = r2 ∧ xLo (fX 2) (fX 1 3).toInt hl T n (fX1 9) := by
  have hb : 0 ≤ (fX 1 3).toInt ∧ (fX 1 3).toInt ≤ 8 := h.2.2.2.2.2.2 1 3
  have hid := h.2.2.2.2.2.1
  have ek := Int32.toInt_toInt64 k
  have j0 : (0 : Int64).toInt = 0 := by decide
  have j3 : (3 : Int64).toInt = 3 := by decide
  have no : ∀ x : Int32, (r1, fX1) = (x, fX) → (r2, fM1) = (x, fM) → r1 = r2 ∧ xLo (fX 2) (fX 1 3).toInt hl T n (fX1 9) := fun x e1 e2 => by
    obtain ⟨a1, b1⟩ := Prod.mk.inj e1
    obtain ⟨a2, b2⟩ := Prod.mk.inj e2
    exact ⟨by rw [a1, a2], by rw [b1]; exact hc.2.2.2⟩
  unfold sX11_best at e1; (repeat first | rw [spl_d] at e1 | rw [spl2_d] at e1)
  unfold sX12_best at e2; (repeat first | rw [spl_d] at e2 | rw [spl2_d] at e2)
  rw [pX_isShelf, pX_isPart] at e1
  rw [pM_isPart, pM_within, ek, j0, j3] at e2
  by_cases q1 : 0 ≤ d.toInt ∧ d.toInt ≤ 5
  case neg =>
    rw [if_neg q1, if_neg zk0] at e1
    rw [mbytes, if_neg q1, if_neg (by decide), if_pos rfl] at e2
    exact no _ e1 e2
  rw [if_pos q1, if_pos rfl] at e1
  have e2n : (¬ (0 ≤ p.toInt ∧ p.toInt ≤ 2) ∨ ¬ (0 ≤ k.toInt ∧ k.toInt ≤ 3)) → (r2, fM1) = (-1, fM) := fun z => by
    have inner : ∀ x : Int32 × sg_F, (if (if 0 ≤ p.toInt ∧ p.toInt ≤ 2 then (1 : Int32) else 0) = 1 then (if (if 0 ≤ k.toInt ∧ k.toInt ≤ 3 then (1 : Int32) else 0) = 1 then x else (-1, fM)) else (-1, fM)) = (-1, fM) := fun x => by
      by_cases z1 : 0 ≤ p.toInt ∧ p.toInt ≤ 2
      · have z2 : ¬ (0 ≤ k.toInt ∧ k.toInt ≤ 3) := z.resolve_left (fun w => w z1)
        rw [if_pos z1, if_pos rfl, if_neg z2, if_neg zk0]
      · rw [if_neg z1, if_neg zk0]
    by_cases y : sX12_bytesIs d fM LM = 1
    · rw [if_pos y, inner] at e2; exact e2
    · rw [if_neg y] at e2
      by_cases y2 : sX12_bytesIs d fM LM = -1
      · rw [if_pos y2] at e2; exact e2
      · rw [if_neg y2, inner] at e2; exact e2
  by_cases q2 : 0 ≤ p.toInt ∧ p.toInt ≤ 2
  case neg => rw [if_neg q2, if_neg zk0] at e1; exact no _ e1 (e2n (Or.inl q2))
  rw [if_pos q2, if_pos rfl] at e1
  by_cases q3 : 0 ≤ k.toInt ∧ k.toInt ≤ 3
  case neg =>
    refine no (-1) ?_ (e2n (Or.inr q3))
    by_cases c1 : k.toInt < 0
    · rw [if_pos c1] at e1; exact e1
    · rw [if_neg c1, if_pos (by omega)] at e1; exact e1
  rw [if_neg (show ¬ k.toInt < 0 from by omega), if_neg (show ¬ 3 < k.toInt from by omega)] at e1
  rw [if_pos q2, if_pos q3, if_pos rfl, if_pos rfl, if_pos rfl, if_pos rfl] at e2
  rcases h.week hc hC q1 with ⟨a, b⟩ | ⟨a, b⟩ | ⟨b, W, N, f1, a, hN, hw, e, hr, -⟩
  · rw [a] at e1; dsimp only at e1; rw [if_neg (by decide)] at e1
    rw [b, if_neg (by decide), if_neg (by decide)] at e2
    exact no _ e1 e2
  · rw [a] at e1; dsimp only at e1; rw [if_neg (by decide)] at e1
    rw [b, if_neg (by decide), if_neg (by decide)] at e2
    exact no _ e1 e2
  · have hl1 := rl_s hid hw hr
    have hW := hw.2.2.2.2.2.1.W hN
    rw [a] at e1; dsimp only at e1; rw [if_pos (by decide)] at e1
    rw [b, if_pos rfl] at e2
    obtain ⟨t1, t2, t3⟩ := tos_b (W := W) N hN
    have e10 : f1 10 3 = tos W N := hr.2.1
    have my := many hl1 22 0 0 (by decide) (Nat.zero_le _) (by omega) hN (fun j hj => absurd hj (by omega))
    have ea : sX12_anySits d fM LM = sX12_anySits_l2 d 22 0 fM LM := rfl
    rw [ea] at e2
    rcases my with ⟨u1, j, j1, j2⟩ | ⟨u1, u2⟩
    · rw [u1, if_neg (by decide)] at e2
      rw [if_neg (show ¬ (f1 10 3).toInt = 0 from fun z => by rw [e10] at z; have := t3.mp z j j1; omega)] at e1
      obtain ⟨r, F, G, x1, x2, x3⟩ := best_l (d := d) (p := p) (k := k) (LX := LX) (LM := LM) hm hb.2 hN hW q2 62 0 0 0 0 (-1) 0 f1 fM (by decide) (by decide) (by decide) hl1 (Or.inl ⟨rfl, rfl⟩)
      have x1 : sX8_bestOf p k f1 LX = (r, F) := x1
      rw [x1] at e1
      rw [x2] at e2
      obtain ⟨a1, b1⟩ := Prod.mk.inj e1
      obtain ⟨a2, b2⟩ := Prod.mk.inj e2
      exact ⟨by rw [a1, a2], by rw [b1]; exact x3.2.2.2⟩
    · rw [u1, if_pos (by decide)] at e2
      rw [if_pos (show (f1 10 3).toInt = 0 from by rw [e10]; exact t3.mpr u2)] at e1
      obtain ⟨a1, b1⟩ := Prod.mk.inj e1
      obtain ⟨a2, b2⟩ := Prod.mk.inj e2
      exact ⟨by rw [a1, a2], by rw [b1]; exact hl1.1.2.2.2⟩
