/-! THE LAW is read, on both sides -/
theorem xread {f : sg_F} {L : sg_L} {n : Nat} (hn : (f 4 1).toInt = n) (hb : n ≤ 120) : ((pLaw (f 5) n).2.1 = true → (sX5_isRead f L).1 = 1 ∧ (sX5_isRead f L).2 4 2 = 1 ∧ ((sX5_isRead f L).2 4 9).toInt = (pLaw (f 5) n).2.2.1.length ∧ trL ((sX5_isRead f L).2 7) 0 (pLaw (f 5) n).2.2.1 ∧ (pLaw (f 5) n).2.2.1.length ≤ 121) ∧ ((pLaw (f 5) n).2.1 = false → (sX5_isRead f L).1.toInt = -100 - ((pLaw (f 5) n).1 : Int) ∧ (pLaw (f 5) n).1 ≤ 120 ∧ (sX5_isRead f L).2 4 2 = f 4 2 ∧ (sX5_isRead f L).2 4 9 = f 4 9 ∧ (sX5_isRead f L).2 7 = f 7) := by
  unfold sX5_isRead
  rw [spl_d, spl_d, spl_d]
  obtain ⟨f3, e3⟩ : ∃ z : sg_F, z = sg_up (sg_up (sg_up f 4 (sgu (f 4) 6 0)) 4 (sgu (sg_up f 4 (sgu (f 4) 6 0) 4) 7 (-1))) 4 (sgu (sg_up (sg_up f 4 (sgu (f 4) 6 0)) 4 (sgu (sg_up f 4 (sgu (f 4) 6 0) 4) 7 (-1)) 4) 8 0) := ⟨_, rfl⟩
  rw [← e3]
  have q1 : f3 4 1 = f 4 1 := by rw [e3]; rfl
  have q6 : f3 4 6 = 0 := by rw [e3]; rfl
  have q7 : f3 4 7 = -1 := by rw [e3]; rfl
  have q8 : f3 4 8 = 0 := by rw [e3]; rfl
  have q2 : f3 4 2 = f 4 2 := by rw [e3]; rfl
  have q9 : f3 4 9 = f 4 9 := by rw [e3]; rfl
  have qk : ∀ k : Nat, k ≠ 4 → f3 k = f k := fun k hk => by rw [e3, sg_up_n hk, sg_up_n hk, sg_up_n hk]
  have hS : xS (f 5) n 0 0 f3 := ⟨by rw [q6]; decide, by rw [q1]; exact hn, by rw [q7]; decide, by rw [q8]; decide, fun i _ => by rw [qk 5 (by decide)], hb, Nat.zero_le _, Nat.le_refl _⟩
  have w := xlines hS L
  have K : xK f3 (sX5_lines f3 L) := by
    unfold sX5_lines; (repeat first | rw [spl_d] | rw [spl2_d])
    exact (xline_K f3 L).tr (xlines_K L _ _ _)
  obtain ⟨g, eg⟩ : ∃ z : sg_F, z = sX5_lines f3 L := ⟨_, rfl⟩
  rw [← eg] at w K ⊢
  obtain ⟨r, er⟩ : ∃ z : pR, z = pLaw (f 5) n := ⟨_, rfl⟩
  rw [← er] at w ⊢
  (repeat first | rw [spl_d] | rw [spl2_d])
  have g7 : sg_up g 4 (sgu (g 4) 1 0) 4 7 = g 4 7 := by rw [sg_up_s, sgu_n (show (7 : Nat) ≠ 1 by decide)]
  have g8 : sg_up g 4 (sgu (g 4) 1 0) 4 8 = g 4 8 := by rw [sg_up_s, sgu_n (show (8 : Nat) ≠ 1 by decide)]
  rw [g7, g8]
  obtain ⟨p, r2, c, v⟩ := r
  cases r2 with
  | true =>
    obtain ⟨⟨w1, w2, w3, w4, w5, w6, w7, w8⟩, w9⟩ := w.1 rfl
    have w4 : (g 4 8).toInt = c.length := w4
    have w8 : c.length ≤ p + 1 := w8
    have w7 : p ≤ n := w7
    have w9 : trL (g 6) 0 c := w9
    have ec := bn_clI (x := g 4 8) (by omega)
    rw [if_pos (show (g 4 7).toInt < 0 from by omega)]
    refine ⟨fun _ => ⟨rfl, rfl, ?_, ?_, by show c.length ≤ 121; omega⟩, fun z => (by cases z)⟩
    · show (g 4 8).toInt = c.length
      exact w4
    · show trL (va_cpy (g 6) (g 7) (0 : Int32).toNatClampNeg (0 : Int32).toNatClampNeg (g 4 8).toNatClampNeg) 0 c
      refine trL.kp c 0 w9 (fun j hj => ?_)
      rw [show (0 : Int32).toNatClampNeg = 0 from by decide]
      unfold va_cpy
      rw [if_pos ⟨Nat.zero_le _, by omega⟩, Nat.sub_zero, Nat.zero_add]
  | false =>
    obtain ⟨w1, w2, w3⟩ := w.2 rfl
    have w4 : p ≤ 120 := w3.2
    have w3 : (g 4 7).toInt = p := w3.1
    have w1 : (g 4 6).toInt = p := w1
    have k100 : (-100 : Int32).toInt = -100 := by decide
    have bt := bn_top (g 4 7)
    have e : (-100 - g 4 7).toInt = -100 - (g 4 7).toInt := (bn_subI (by omega) (by omega)).trans (by omega)
    rw [if_neg (show ¬ (g 4 7).toInt < 0 from by omega)]
    refine ⟨fun z => (by cases z), fun _ => ⟨by show (-100 - g 4 7).toInt = -100 - (p : Int); omega, w4, ?_, ?_, ?_⟩⟩
    · show g 4 2 = f 4 2
      rw [K 4 2 (by decide) (by decide), q2]
    · show g 4 9 = f 4 9
      rw [K 4 9 (by decide) (by decide), q9]
    · show g 7 = f 7
      funext j
      rw [K 7 j (by decide) (Or.inl (by decide)), qk 7 (by decide)]
theorem mcopy (L : sg_L) : ∀ (m : Nat) (a b : Int32) (f : sg_F), 0 ≤ b.toInt → b.toInt ≤ a.toInt → a.toInt ≤ 120 → a.toInt - b.toInt < (m : Int) → (sX12_law_l37 m a b f L).1 = 1 ∧ (sX12_law_l37 m a b f L).2 0 11 = a ∧ (∀ i : Nat, (i : Int) < b.toInt → (sX12_law_l37 m a b f L).2 7 i = f 7 i) ∧ ∀ i : Nat, b.toInt ≤ (i : Int) → (i : Int) < a.toInt → (sX12_law_l37 m a b f L).2 7 i = f 6 i := by
  intro m
  induction m with
  | zero => intro a b f h0 h1 h2 h3; exact absurd h3 (by omega)
  | succ m ih =>
    intro a b f h0 h1 h2 h3
    have e9 : sX12_law_l37 (m + 1) a b f L = sX12_law_h37 (sX12_law_l37 m) a b f L := rfl
    rw [e9]
    unfold sX12_law_h37; (repeat first | rw [spl_d] | rw [spl2_d])
    by_cases c : b.toInt < a.toInt
    · rw [if_pos c]
      obtain ⟨e1, e2⟩ := cl_inc h0 (by omega)
      have ec := bn_clI h0
      obtain ⟨a1, a2, a3, a4⟩ := ih a (b + 1) (sg_up f 7 (sgu (f 7) b.toNatClampNeg (f 6 b.toNatClampNeg))) (by omega) (by omega) h2 (by omega)
      refine ⟨a1, a2, fun i hi => ?_, fun i h4 h5 => ?_⟩
      · rw [a3 i (by omega), sg_up_s, sgu_n (by omega)]
      · by_cases z : i = b.toNatClampNeg
        · rw [a3 i (by omega), sg_up_s, z, sgu_s]
        · rw [a4 i (by omega) h5, sg_up_n (by decide)]
    · rw [if_neg c]
      refine ⟨rfl, ?_, fun i hi => ?_, fun i h4 h5 => absurd h5 (by omega)⟩
      · show sg_up f 0 (sgu (f 0) 11 a) 0 11 = a
        rw [sg_up_s, sgu_s]
      · show sg_up f 0 (sgu (f 0) 11 a) 7 i = f 7 i
        rw [sg_up_n (by decide)]
/-- the laws of both are the same -/
def rLaw (fX fM : sg_F) (hl : Bool) (T : Nat → Int32) (n : Nat) : Prop := (hl = false ∧ (fX 4 2).toInt = 0 ∧ (fM 0 11).toInt < 0) ∨ (hl = true ∧ (fX 4 2).toInt ≠ 0 ∧ (fM 0 11).toInt = n ∧ n ≤ 120 ∧ (∀ i : Nat, i < n → fM 7 i = T i) ∧ (pLaw T n).2.1 = true ∧ (pLaw T n).2.2.1.length ≤ 121 ∧ (fX 4 9).toInt = (pLaw T n).2.2.1.length ∧ trL (fX 7) 0 (pLaw T n).2.2.1)
def rLw (fX fM : sg_F) : Prop := ∃ (hl : Bool) (T : Nat → Int32) (n : Nat), rLaw fX fM hl T n
theorem rLw.zero : rLw f0X f0M := ⟨false, fun _ => 0, 0, Or.inl ⟨rfl, by decide, by decide⟩⟩
theorem rLaw.fr {fX fX1 fM fM1 : sg_F} {hl : Bool} {T : Nat → Int32} {n : Nat} (h : rLaw fX fM hl T n) (a : fX1 4 2 = fX 4 2) (b : fX1 4 9 = fX 4 9) (c : ∀ j : Nat, fX1 7 j = fX 7 j) (d : fM1 0 11 = fM 0 11) (e : ∀ j : Nat, fM1 7 j = fM 7 j) : rLaw fX1 fM1 hl T n := by
  unfold rLaw
  rw [a, b, d, show fX1 7 = fX 7 from funext c, show fM1 7 = fM 7 from funext e]
  exact h
theorem rLw.fr {fX fX1 fM fM1 : sg_F} (h : rLw fX fM) (a : fX1 4 2 = fX 4 2) (b : fX1 4 9 = fX 4 9) (c : ∀ j : Nat, fX1 7 j = fX 7 j) (d : fM1 0 11 = fM 0 11) (e : ∀ j : Nat, fM1 7 j = fM 7 j) : rLw fX1 fM1 := by
  obtain ⟨hl, T, n, h⟩ := h
  exact ⟨hl, T, n, h.fr a b c d e⟩
theorem rTape.read {fX fX1 fM fM1 : sg_F} {LX LM : sg_L} {r1 r2 : Int32} (h : rTape fX fM) (hI : sgI loX hiX fX) (e1 : (r1, fX1) = sX11_law fX LX) (e2 : (r2, fM1) = sX12_law fM LM) : r1 = r2 ∧ ((r1.toInt = 1 ∧ ∃ n : Nat, rLaw fX1 fM1 true (fX 5) n) ∨ (fX1 4 2 = fX 4 2 ∧ fX1 4 9 = fX 4 9 ∧ (∀ j : Nat, fX1 7 j = fX 7 j) ∧ fM1 0 11 = fM 0 11 ∧ ∀ j : Nat, fM1 7 j = fM 7 j)) := by
  have hb : 0 ≤ (fX 4 1).toInt ∧ (fX 4 1).toInt ≤ 120 := hI 4 1
  have ec := bn_clI hb.1
  have ee : fX 4 1 = fM 0 9 := Int32.toInt_inj.mp h.1
  obtain ⟨n, en⟩ : ∃ z : Nat, z = (fX 4 1).toNatClampNeg := ⟨_, rfl⟩
  rw [← en] at ec
  have X := xread (f := fX) (L := LX) (n := n) (by omega) (by omega)
  have km1 : (-1 : Int32).toInt = -1 := by decide
  have M := mwork (T := fX 5) (N := fM 8) (n := n) (x0 := -1) (x1 := fM 0 9) (g := fM) LM (by rw [← ee]; omega) (by omega) (Or.inl ⟨by omega, fun i hi => (h.2 i (by omega)).symm⟩) (fun _ _ => rfl)
  have W := mwork_W (-1) (fM 0 9) fM LM
  unfold sX11_law at e1; (repeat first | rw [spl_d] at e1 | rw [spl2_d] at e1)
  unfold sX12_law at e2
  rw [spl_d] at e2
  obtain ⟨o, eo⟩ : ∃ z : Int32 × sg_F, z = sX12_workOut (-1) (fM 0 9) fM LM := ⟨_, rfl⟩
  rw [← eo] at M W e2
  (repeat first | rw [spl_d] at e2 | rw [spl2_d] at e2)
  rw [show sg_up o.2 0 (sgu (o.2 0) 9 0) 0 15 = o.2 0 15 from by rw [sg_up_s, sgu_n (by decide)]] at e2
  obtain ⟨u, eu⟩ : ∃ z : Int32 × sg_F, z = sX5_isRead fX LX := ⟨_, rfl⟩
  rw [← eu] at X e1
  obtain ⟨r, er⟩ : ∃ z : pR, z = pLaw (fX 5) n := ⟨_, rfl⟩
  rw [← er] at X M
  cases hr : r.2.1 with
  | true =>
    obtain ⟨x1, x2, x3, x4, x5⟩ := X.1 hr
    obtain ⟨m1, m2⟩ := M.1 hr
    rw [if_pos (show (o.2 0 15).toInt < 0 from by omega)] at e2
    rw [x1, if_pos (show (1 : Int32).toInt = 1 from by decide)] at e1
    obtain ⟨a1, b1⟩ := Prod.mk.inj e1
    have k0 : (0 : Int32).toInt = 0 := by decide
    obtain ⟨c1, c2, c3, c4⟩ := mcopy LM 121 (fM 0 9) 0 (sg_up o.2 0 (sgu (o.2 0) 9 0)) (by omega) (by rw [← ee]; omega) (by rw [← ee]; omega) (by rw [← ee]; omega)
    rw [← e2] at c1 c2 c3 c4
    have c1 : r2 = 1 := c1
    refine ⟨by rw [a1, c1], Or.inl ⟨by rw [a1]; decide, n, Or.inr ⟨rfl, ?_, ?_, by omega, fun i hi => ?_, by rw [← er]; exact hr, by rw [← er]; exact x5, ?_, ?_⟩⟩⟩
    · rw [b1, bX_forgetAll _ _ 4 (by decide), x2]; decide
    · rw [show fM1 0 11 = fM 0 9 from c2, ← ee]; omega
    · rw [show fM1 7 i = _ from c4 i (by omega) (by rw [← ee]; omega), sg_up_n (by decide), W 6 i (Or.inl (by decide))]
      exact (h.2 i (by omega)).symm
    · rw [b1, bX_forgetAll _ _ 4 (by decide), ← er]; exact x3
    · rw [b1, bX_forgetAll _ _ 7 (by decide), ← er]; exact x4
  | false =>
    obtain ⟨x1, x5, x2, x3, x4⟩ := X.2 hr
    have m1 := M.2 hr
    rw [if_neg (show ¬ (o.2 0 15).toInt < 0 from by omega)] at e2
    rw [if_neg (show ¬ u.1.toInt = 1 from by omega)] at e1
    obtain ⟨a1, b1⟩ := Prod.mk.inj e1
    obtain ⟨a2, b2⟩ := Prod.mk.inj e2
    have k100 : (-100 : Int32).toInt = -100 := by decide
    have bt := bn_top (o.2 0 15)
    have e : (-100 - o.2 0 15).toInt = -100 - (o.2 0 15).toInt := (bn_subI (by omega) (by omega)).trans (by omega)
    refine ⟨Int32.toInt_inj.mp (by rw [a1, a2]; omega), Or.inr ⟨by rw [b1, x2], by rw [b1, x3], fun j => by rw [b1, x4], ?_, fun j => ?_⟩⟩
    · rw [b2, sg_up_s, sgu_n (by decide)]; exact W 0 11 (Or.inr (by decide))
    · rw [b2, sg_up_n (by decide)]; exact W 7 j (Or.inl (by decide))
theorem rLw.law {fX fX1 fM fM1 : sg_F} {LX LM : sg_L} {r1 r2 : Int32} (k : rLw fX fM) (h : rTape fX fM) (hI : sgI loX hiX fX) (e1 : (r1, fX1) = sX11_law fX LX) (e2 : (r2, fM1) = sX12_law fM LM) : r1 = r2 ∧ rLw fX1 fM1 := by
  obtain ⟨a, b⟩ := h.read hI e1 e2
  rcases b with ⟨-, n, b⟩ | ⟨b1, b2, b3, b4, b5⟩
  · exact ⟨a, true, fX 5, n, b⟩
  · exact ⟨a, k.fr b1 b2 b3 b4 b5⟩
