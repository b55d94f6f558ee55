/-! LAW, numbers and kept losses: both worlds -/
def rLs (fX fM : sg_F) : Prop := ∃ (hl : Bool) (T : Nat → Int32) (n : Nat), rLaw fX fM hl T n ∧ xH hl T n fX
theorem rLs.lw {fX fM : sg_F} (h : rLs fX fM) : rLw fX fM := by
  obtain ⟨hl, T, n, h, -⟩ := h
  exact ⟨hl, T, n, h⟩
theorem rLs.mo {fX fM : sg_F} (h : rLs fX fM) : xMo fX := by
  obtain ⟨hl, T, n, -, h⟩ := h
  exact h.1
theorem rLs.zero : rLs f0X f0M := by
  refine ⟨false, fun _ => 0, 0, Or.inl ⟨rfl, by decide, by decide⟩, ⟨fun p hp => ?_, fun d hd => ?_⟩, fun s p v a1 a2 => ?_⟩
  · have hz : ∀ q : Fin 71, 0 ≤ (f0X 2 q.1).toInt ∧ (f0X 2 q.1).toInt ≤ mpl q.1 := by decide
    exact hz ⟨p, hp⟩
  · exact absurd hd (by rw [show ((f0X 32 4).toInt) = 0 from by decide]; omega)
  · exact absurd a2 (by rw [show ((f0X 1 3).toInt) = 0 from by decide]; omega)
theorem rLs.fr {fX fX1 fM fM1 : sg_F} (h : rLs fX fM) (a : fX1 4 2 = fX 4 2) (b : fX1 4 9 = fX 4 9) (c : ∀ j : Nat, fX1 7 j = fX 7 j) (z1 : fX1 1 3 = fX 1 3) (z2 : ∀ j : Nat, fX1 2 j = fX 2 j) (z3 : fX1 32 4 = fX 32 4) (z4 : ∀ j : Nat, fX1 33 j = fX 33 j) (z5 : ∀ j : Nat, fX1 34 j = fX 34 j) (z6 : ∀ j : Nat, fX1 35 j = fX 35 j) (z7 : ∀ j : Nat, fX1 9 j = fX 9 j) (d : fM1 0 11 = fM 0 11) (e : ∀ j : Nat, fM1 7 j = fM 7 j) : rLs fX1 fM1 := by
  obtain ⟨hl, T, n, h, k⟩ := h
  exact ⟨hl, T, n, h.fr a b c d e, k.fr z1 z2 z3 z4 z5 z6 z7⟩
/-- the law stands, the class's numbers and losses by a word of its own -/
theorem rLs.by_ {fX fX1 fM fM1 : sg_F} (h : rLs fX fM) (k : ∀ (hl : Bool) (T : Nat → Int32) (n : Nat), xH hl T n fX → xH hl T n fX1) (a : fX1 4 2 = fX 4 2) (b : fX1 4 9 = fX 4 9) (c : ∀ j : Nat, fX1 7 j = fX 7 j) (d : fM1 0 11 = fM 0 11) (e : ∀ j : Nat, fM1 7 j = fM 7 j) : rLs fX1 fM1 := by
  obtain ⟨hl, T, n, h, k1⟩ := h
  exact ⟨hl, T, n, h.fr a b c d e, k hl T n k1⟩
/-- reading a law leaves numbers and losses alone -/
theorem xread_k (f : sg_F) (L : sg_L) (k : Nat) (h4 : k ≠ 4) (h6 : k ≠ 6) (h7 : k ≠ 7) : (sX5_isRead f L).2 k = f k := by
  unfold sX5_isRead
  rw [spl_d, spl_d, spl_d]
  obtain ⟨f3, e3⟩ : ∃ z : sg_F, z = sg_up (sg_up (sg_up f 4 (sgu (f 4) 6 0)) 4 (sgu (sg_up f 4 (sgu (f 4) 6 0) 4) 7 (-1))) 4 (sgu (sg_up (sg_up f 4 (sgu (f 4) 6 0)) 4 (sgu (sg_up f 4 (sgu (f 4) 6 0) 4) 7 (-1)) 4) 8 0) := ⟨_, rfl⟩
  rw [← e3]
  have q : f3 k = f k := by rw [e3, sg_up_n h4, sg_up_n h4, sg_up_n h4]
  have K : xK f3 (sX5_lines f3 L) := by
    unfold sX5_lines; (repeat first | rw [spl_d] | rw [spl2_d])
    exact (xline_K f3 L).tr (xlines_K L _ _ _)
  obtain ⟨g, eg⟩ : ∃ z : sg_F, z = sX5_lines f3 L := ⟨_, rfl⟩
  rw [← eg] at K ⊢
  have qg : g k = f k := (funext fun j => K k j h6 (Or.inl h4)).trans q
  (repeat first | rw [spl_d] | rw [spl2_d])
  by_cases c : (sg_up g 4 (sgu (g 4) 1 0) 4 7).toInt < 0
  · rw [if_pos c]
    dsimp only
    rw [sg_up_n h4, sg_up_n h4, sg_up_n h7, sg_up_n h4]; exact qg
  · rw [if_neg c]
    dsimp only
    rw [sg_up_n h4]; exact qg
theorem xlaw_k (f : sg_F) (L : sg_L) (k : Nat) (h4 : k ≠ 4) (h6 : k ≠ 6) (h7 : k ≠ 7) (h9 : k ≠ 9) : (sX11_law f L).2 k = f k := by
  have e := xread_k f L k h4 h6 h7
  unfold sX11_law; (repeat first | rw [spl_d] | rw [spl2_d])
  by_cases c : (sX5_isRead f L).1.toInt = 1
  · rw [if_pos c]
    dsimp only
    rw [bX_forgetAll _ _ k h9]; exact e
  · rw [if_neg c]; dsimp only; exact e
theorem xlaw_9 (f : sg_F) (L : sg_L) : ((sX11_law f L).1.toInt = 1 ∧ ∀ j : Nat, j < 1464 → (sX11_law f L).2 9 j = -1) ∨ ((sX11_law f L).1.toInt ≠ 1 ∧ (sX11_law f L).2 9 = f 9) := by
  have e := xread_k f L 9 (by decide) (by decide) (by decide)
  unfold sX11_law; (repeat first | rw [spl_d] | rw [spl2_d])
  by_cases c : (sX5_isRead f L).1.toInt = 1
  · rw [if_pos c]
    dsimp only
    exact Or.inl ⟨c, fun j hj => fgtA _ L j hj⟩
  · rw [if_neg c]
    dsimp only
    exact Or.inr ⟨c, e⟩
theorem rLs.law {fX fX1 fM fM1 : sg_F} {LX LM : sg_L} {r1 r2 : Int32} (k : rLs fX fM) (h : rTape fX fM) (hI : sgI loX hiX fX) (e1 : (r1, fX1) = sX11_law fX LX) (e2 : (r2, fM1) = sX12_law fM LM) : r1 = r2 ∧ rLs fX1 fM1 := by
  obtain ⟨a, b⟩ := h.read hI e1 e2
  obtain ⟨hl, T, n, k1, k2⟩ := k
  have hb : 0 ≤ (fX 1 3).toInt ∧ (fX 1 3).toInt ≤ 8 := hI 1 3
  have e3 : ∀ q : Nat, q ≠ 4 → q ≠ 6 → q ≠ 7 → q ≠ 9 → fX1 q = fX q := fun q a b c d => by
    have := xlaw_k fX LX q a b c d
    rw [← e1] at this
    exact this
  have mo : xMo fX1 := k2.1.fr (fun j => by rw [e3 2 (by decide) (by decide) (by decide) (by decide)]) (by rw [e3 32 (by decide) (by decide) (by decide) (by decide)]) (fun j => by rw [e3 33 (by decide) (by decide) (by decide) (by decide)]) (fun j => by rw [e3 34 (by decide) (by decide) (by decide) (by decide)]) (fun j => by rw [e3 35 (by decide) (by decide) (by decide) (by decide)])
  have e9 := xlaw_9 fX LX
  rw [← e1] at e9
  refine ⟨a, ?_⟩
  rcases e9 with ⟨c1, c2⟩ | ⟨c1, c2⟩
  · have lo : ∀ (hl : Bool) (T : Nat → Int32) (n : Nat), xH hl T n fX1 := fun hl T n => ⟨mo, xLo.all (by rw [e3 1 (by decide) (by decide) (by decide) (by decide)]; exact hb.2) c2⟩
    rcases b with ⟨b0, n1, b⟩ | ⟨b1, b2, b3, b4, b5⟩
    · exact ⟨true, fX 5, n1, b, lo _ _ _⟩
    · exact ⟨hl, T, n, k1.fr b1 b2 b3 b4 b5, lo _ _ _⟩
  · rcases b with ⟨b0, n1, b⟩ | ⟨b1, b2, b3, b4, b5⟩
    · exact absurd b0 c1
    · refine ⟨hl, T, n, k1.fr b1 b2 b3 b4 b5, mo, ?_⟩
      rw [e3 1 (by decide) (by decide) (by decide) (by decide), e3 2 (by decide) (by decide) (by decide) (by decide)]
      have c2 : fX1 9 = fX 9 := c2
      rw [c2]; exact k2.2
/-- what a question about losses finds -/
theorem rLaw.cx {fX fM : sg_F} {hl : Bool} {T : Nat → Int32} {n : Nat} (h : rLaw fX fM hl T n) (k : xH hl T n fX) (hn : rNum fX fM) : xCx (fX 2) (fX 1 3).toInt hl T n fX ∧ mCx (fX 2) hl T n fM := by
  refine ⟨⟨rfl, rfl, ?_, k.2⟩, fun s w hs hw => ?_, fun p h1 h2 => ?_, ?_⟩
  · rcases h with ⟨a, b, c⟩ | ⟨a, b, c, d, e, i, j, o, q⟩
    · exact Or.inl ⟨a, b⟩
    · exact Or.inr ⟨a, b, i, j, o, q⟩
  · rw [hn.2.1 (8 * s + w) (by omega), npl_s hs hw]
  · rw [hn.2.1 p h2, npl_t h1]
  · rcases h with ⟨a, b, c⟩ | ⟨a, b, c, d, e, i, j, o, q⟩
    · exact Or.inl ⟨a, c⟩
    · exact Or.inr ⟨a, c, d, e, i⟩
/-- and leaves -/
theorem rLs.used {fX fX1 fM fM1 : sg_F} (h : rLs fX fM) (hn : rNum fX fM) (k : ∀ (hl : Bool) (T : Nat → Int32) (n : Nat), mOk (fX 2) → pOk (fX 2) → xCx (fX 2) (fX 1 3).toInt hl T n fX → mCx (fX 2) hl T n fM → xLo (fX 2) (fX 1 3).toInt hl T n (fX1 9)) (a : fX1 4 2 = fX 4 2) (b : fX1 4 9 = fX 4 9) (c : ∀ j : Nat, fX1 7 j = fX 7 j) (z1 : fX1 1 3 = fX 1 3) (z2 : ∀ j : Nat, fX1 2 j = fX 2 j) (z3 : fX1 32 4 = fX 32 4) (z4 : ∀ j : Nat, fX1 33 j = fX 33 j) (z5 : ∀ j : Nat, fX1 34 j = fX 34 j) (z6 : ∀ j : Nat, fX1 35 j = fX 35 j) (d : fM1 0 11 = fM 0 11) (e : ∀ j : Nat, fM1 7 j = fM 7 j) : rLs fX1 fM1 := by
  obtain ⟨hl, T, n, h, k1⟩ := h
  obtain ⟨x1, x2⟩ := h.cx k1 hn
  obtain ⟨o1, o2⟩ := k1.1.ok
  refine ⟨hl, T, n, h.fr a b c d e, k1.1.fr z2 z3 z4 z5 z6, ?_⟩
  rw [z1, show fX1 2 = fX 2 from funext z2]
  exact k hl T n o1 o2 x1 x2
