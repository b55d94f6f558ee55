/-! THE TAPE, COUNTS -/
/-- the tapes of both are the same -/
def rTape (fX fM : sg_F) : Prop := (fX 4 1).toInt = (fM 0 9).toInt ∧ ∀ i : Nat, (i : Int) < (fX 4 1).toInt → fX 5 i = fM 6 i
theorem rTape.zero : rTape f0X f0M := ⟨by decide, fun i h => absurd h (by rw [show ((f0X 4 1).toInt) = 0 from by decide]; omega)⟩
theorem rTape.fr {fX fX1 fM fM1 : sg_F} (h : rTape fX fM) (a : fX1 4 1 = fX 4 1) (b : ∀ j : Nat, fX1 5 j = fX 5 j) (c : fM1 0 9 = fM 0 9) (d : ∀ j : Nat, fM1 6 j = fM 6 j) : rTape fX1 fM1 := by
  refine ⟨by rw [a, c]; exact h.1, fun i hi => ?_⟩
  rw [b, d]
  rw [a] at hi
  exact h.2 i hi
theorem bX_forgetAll_l (L : sg_L) (k : Nat) (hk : k ≠ 9) : ∀ (n : Nat) (a : Int32) (f : sg_F), sX0_forgetAll_l2 n a f L k = f k := by
  intro n
  induction n with
  | zero => intro a f; rfl
  | succ n ih =>
    intro a f
    show sX0_forgetAll_h2 (sX0_forgetAll_l2 n) a f L k = f k
    unfold sX0_forgetAll_h2; (repeat first | rw [spl_d] | rw [spl2_d])
    by_cases c : a.toInt < 8
    · rw [if_pos c, ih, bX_forget _ _ _ k hk]
    · rw [if_neg c]
theorem bX_forgetAll (f : sg_F) (L : sg_L) (k : Nat) (hk : k ≠ 9) : sX0_forgetAll f L k = f k := bX_forgetAll_l L k hk 9 0 f
theorem bX_isRead1 (f : sg_F) (L : sg_L) : (sX5_isRead f L).2 4 1 = 0 := by
  unfold sX5_isRead
  rw [spl_d, spl_d, spl_d]
  generalize sX5_lines _ L = g
  (repeat first | rw [spl_d] | rw [spl2_d])
  split
  · rfl
  · rfl
theorem bX_law1 (f : sg_F) (L : sg_L) : (sX11_law f L).2 4 1 = 0 := by
  have h := bX_isRead1 f L
  unfold sX11_law
  obtain ⟨o, eo⟩ : ∃ z : Int32 × sg_F, z = sX5_isRead f L := ⟨_, rfl⟩
  rw [← eo] at h ⊢
  rw [spl2_d]
  by_cases c : o.1.toInt = 1
  · rw [if_pos c, spl_d]
    dsimp only
    rw [bX_forgetAll _ _ 4 (by decide)]
    exact h
  · rw [if_neg c]
    exact h
theorem bM_law_l (L : sg_L) : ∀ (n : Nat) (a b : Int32) (f : sg_F), f 0 9 = 0 → (sX12_law_l37 n a b f L).2 0 9 = 0 := by
  intro n
  induction n with
  | zero => intro a b f h; exact h
  | succ n ih =>
    intro a b f h
    show (sX12_law_h37 (sX12_law_l37 n) a b f L).2 0 9 = 0
    unfold sX12_law_h37; (repeat first | rw [spl_d] | rw [spl2_d])
    by_cases c : b.toInt < a.toInt
    · rw [if_pos c]
      exact ih _ _ _ (by rw [sg_up_n (by decide)]; exact h)
    · rw [if_neg c]
      show sg_up f 0 (sgu (f 0) 11 a) 0 9 = 0
      rw [sg_up_s, sgu_n (by decide)]; exact h
theorem bM_law1 (f : sg_F) (L : sg_L) : (sX12_law f L).2 0 9 = 0 := by
  unfold sX12_law
  rw [spl_d]
  generalize sX12_workOut (-1) (f 0 9) f L = o
  (repeat first | rw [spl_d] | rw [spl2_d])
  split
  · exact bM_law_l L _ _ _ _ (by rw [sg_up_s, sgu_s])
  · rfl
theorem rTape.law {fX fX1 fM fM1 : sg_F} {LX LM : sg_L} {r1 r2 : Int32} (e1 : (r1, fX1) = sX11_law fX LX) (e2 : (r2, fM1) = sX12_law fM LM) : rTape fX1 fM1 := by
  have a := bX_law1 fX LX
  have b := bM_law1 fM LM
  rw [← e1] at a
  rw [← e2] at b
  have a : fX1 4 1 = 0 := a
  have b : fM1 0 9 = 0 := b
  exact ⟨by rw [a, b], fun i hi => absurd hi (by rw [a, show ((0 : Int32).toInt) = 0 from by decide]; omega)⟩
theorem rTape.feed {fX fX1 fM fM1 : sg_F} {LX LM : sg_L} {x r1 r2 : Int32} (h : rTape fX fM) (hI : sgI loX hiX fX) (e1 : (r1, fX1) = sX11_feed x fX LX) (e2 : (r2, fM1) = sX12_feed x fM LM) : r1 = r2 ∧ rTape fX1 fM1 := by
  have hb : 0 ≤ (fX 4 1).toInt ∧ (fX 4 1).toInt ≤ 120 := hI 4 1
  have ee : fX 4 1 = fM 0 9 := Int32.toInt_inj.mp h.1
  have k0 : (0 : Int64).toInt = 0 := by decide
  have k2 : (255 : Int64).toInt = 255 := by decide
  have ex := Int32.toInt_toInt64 x
  have k1 : (1 : Int32).toInt = 1 := by decide
  unfold sX11_feed sX5_takes at e1; (repeat first | rw [spl_d] at e1 | rw [spl2_d] at e1)
  unfold sX12_feed at e2; (repeat first | rw [spl_d] at e2 | rw [spl2_d] at e2)
  rw [pM_within, k0, k2, ex, ← ee] at e2
  by_cases c1 : x.toInt < 0
  · rw [if_pos c1] at e1
    rw [if_neg (show ¬ (0 ≤ x.toInt ∧ x.toInt ≤ 255) from fun z => by omega), if_neg zk0] at e2
    obtain ⟨a1, b1⟩ := Prod.mk.inj e1
    obtain ⟨a2, b2⟩ := Prod.mk.inj e2
    rw [a1, a2, b1, b2]; exact ⟨rfl, h⟩
  rw [if_neg c1] at e1
  by_cases c2 : 255 < x.toInt
  · rw [if_pos c2] at e1
    rw [if_neg (show ¬ (0 ≤ x.toInt ∧ x.toInt ≤ 255) from fun z => by omega), if_neg zk0] at e2
    obtain ⟨a1, b1⟩ := Prod.mk.inj e1
    obtain ⟨a2, b2⟩ := Prod.mk.inj e2
    rw [a1, a2, b1, b2]; exact ⟨rfl, h⟩
  rw [if_neg c2] at e1
  rw [if_pos (show 0 ≤ x.toInt ∧ x.toInt ≤ 255 from ⟨by omega, by omega⟩), if_pos rfl] at e2
  by_cases c3 : (fX 4 1).toInt < 120
  · rw [if_pos c3] at e1
    rw [if_neg (show ¬ (fX 4 1).toInt = 120 from by omega)] at e2
    have e9 : (fX 4 1 + 1).toInt = (fX 4 1).toInt + 1 := (bn_addI (by omega) (by omega)).trans (by omega)
    obtain ⟨a1, b1⟩ := Prod.mk.inj e1
    obtain ⟨a2, b2⟩ := Prod.mk.inj e2
    have a1 : r1 = fX 4 1 + 1 := a1
    have b1 : fX1 = sg_up (sg_up fX 5 (sgu (fX 5) (fX 4 1).toNatClampNeg x)) 4 (sgu (sg_up fX 5 (sgu (fX 5) (fX 4 1).toNatClampNeg x) 4) 1 (fX 4 1 + 1)) := b1
    have m1 : fX1 4 1 = fX 4 1 + 1 := by rw [b1, sg_up_s, sgu_s]
    have m2 : fX1 5 = sgu (fX 5) (fX 4 1).toNatClampNeg x := by rw [b1, sg_up_n (show (5 : Nat) ≠ 4 by decide), sg_up_s]
    have n1 : fM1 0 9 = fX 4 1 + 1 := by rw [b2, sg_up_s, sgu_s]
    have n2 : fM1 6 = sgu (fM 6) (fX 4 1).toNatClampNeg x := by rw [b2, sg_up_n (show (6 : Nat) ≠ 0 by decide), sg_up_s]
    have ec := bn_clI hb.1
    refine ⟨by rw [a1, a2], by rw [m1, n1], fun i hi => ?_⟩
    rw [m1, e9] at hi
    rw [m2, n2]
    by_cases z : i = (fX 4 1).toNatClampNeg
    · rw [z, sgu_s, sgu_s]
    · rw [sgu_n z, sgu_n z]; exact h.2 i (by omega)
  · rw [if_neg c3] at e1
    rw [if_pos (show (fX 4 1).toInt = 120 from by omega)] at e2
    obtain ⟨a1, b1⟩ := Prod.mk.inj e1
    obtain ⟨a2, b2⟩ := Prod.mk.inj e2
    have a1 : r1 = -3 := a1
    have b1 : fX1 = fX := b1
    rw [a1, a2, b1, b2]; exact ⟨rfl, h⟩
theorem cnt_two {fX fM : sg_F} {LX LM : sg_L} {x r1 r2 : Int32} (h1 : rNum fX fM) (h2 : rTape fX fM) (h3 : rChg fX fM) (h4 : rDesk fX fM) (h5 : rTrace fX fM) (e1 : r1 = sX11_count x fX LX) (e2 : r2 = sX12_count x fM LM) : r1 = r2 := by
  unfold sX11_count at e1; (repeat first | rw [spl_d] at e1 | rw [spl2_d] at e1)
  unfold sX12_count at e2; (repeat first | rw [spl_d] at e2 | rw [spl2_d] at e2)
  rw [e1, e2, show fX 1 3 = fM 0 6 from Int32.toInt_inj.mp h1.1, show fX 4 1 = fM 0 9 from Int32.toInt_inj.mp h2.1, show fX 32 3 = fM 0 5 from Int32.toInt_inj.mp h3.1, show fX 36 2 = fM 0 45 from Int32.toInt_inj.mp h4.1, show fX 36 3 = fM 0 48 from Int32.toInt_inj.mp h5.1]
