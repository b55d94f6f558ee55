/-! WHO, to the reference, and the call -/
theorem up_same {g : sg_F} {k j : Nat} : sg_up g k (sgu (g k) j (g k j ||| 0)) = g := by
  rw [Int32.or_zero]
  funext r
  by_cases a : r = k
  · rw [a, sg_up_s]
    funext w
    by_cases b : w = j
    · rw [b, sgu_s]
    · rw [sgu_n b]
  · rw [sg_up_n a]
/-- what the reference's question stands on -/
def mSn (m : Nat → Int32) (hl : Bool) (T : Nat → Int32) (n0 p S n : Nat) (E : Nat → Int64) (d x1 : Int32) (L : sg_L) (g : sg_F) : Prop := mCx m hl T n0 g ∧ mOk m ∧ pOk m ∧ x1.toInt = (p : Int) ∧ p < 3 ∧ (g 0 6).toInt = (S : Int) ∧ S ≤ 8 ∧ (0 ≤ d.toInt ∧ d.toInt ≤ 5) ∧ (∀ i : Nat, i < n → L 24 (60 * d.toNatClampNeg + i) = E i) ∧ n ≤ 12
theorem mSn.K {m : Nat → Int32} {hl : Bool} {T : Nat → Int32} {n0 p S n : Nat} {E : Nat → Int64} {d x1 : Int32} {L : sg_L} {g g1 : sg_F} (h : mSn m hl T n0 p S n E d x1 L g) (k : ∀ r : Nat, r ≠ 17 → r ≠ 18 → g1 r = g r) : mSn m hl T n0 p S n E d x1 L g1 := by
  obtain ⟨h1, h2, h3, h4, h5, h6, h7, h8⟩ := h
  exact ⟨h1.fr (fun j => by rw [k 1 (by decide) (by decide)]) (fun j => by rw [k 7 (by decide) (by decide)]) (by rw [k 0 (by decide) (by decide)]), h2, h3, h4, h5, by rw [k 0 (by decide) (by decide)]; exact h6, h7, h8⟩
theorem mSn.seen {m : Nat → Int32} {hl : Bool} {T : Nat → Int32} {n0 p S n : Nat} {E : Nat → Int64} {d x1 : Int32} {L : sg_L} {g : sg_F} (h : mSn m hl T n0 p S n E d x1 L g) {z r : Int32} {i : Nat} (ez : z.toInt = (i : Int)) (hi : i < n) (hr : 0 ≤ r.toInt) : ((sX12_isSeen d z r g L).toInt = 1 ∧ sn E i r.toNatClampNeg) ∨ ((sX12_isSeen d z r g L).toInt = 0 ∧ ¬ sn E i r.toNatClampNeg) := by
  obtain ⟨h1, h2, h3, h4, h5, h6, h7, h8, h9, h10⟩ := h
  have k60 : (60 : Int32).toInt = 60 := by decide
  have km : (-1 : Int64).toInt = -1 := by decide
  have cr := bn_clI hr
  have cdd := bn_clI h8.1
  have e1 : (60 * d).toInt = 60 * d.toInt := bn_mulJ k60 (by omega) (by omega)
  have e2 : (60 * d + z).toInt = (60 * d).toInt + z.toInt := bn_addI (by omega) (by omega)
  have c2 := bn_clI (x := 60 * d + z) (by omega)
  have er := Int32.toInt_toInt64 r
  unfold sX12_isSeen sn; (repeat first | rw [spl_d] | rw [spl2_d])
  rw [show (60 * d + z).toNatClampNeg = 60 * d.toNatClampNeg + i from by omega, h9 i hi]
  obtain ⟨w, ew⟩ : ∃ x : Int64, x = E i := ⟨_, rfl⟩
  rw [← ew]
  have a1 := bn_lcmpI w (-1)
  have a2 := bn_lcmpI w (Int32.toInt64 r)
  by_cases c1 : (lg_cmp w (-1)).toInt = 0
  · rw [if_pos c1]; exact Or.inl ⟨by decide, Or.inl (by omega)⟩
  rw [if_neg c1]
  by_cases c3 : (lg_cmp w (Int32.toInt64 r)).toInt = 0
  · rw [if_pos c3]; exact Or.inl ⟨by decide, Or.inr (by omega)⟩
  · rw [if_neg c3]; exact Or.inr ⟨by decide, fun q => by omega⟩
theorem mSn.may {m : Nat → Int32} {hl : Bool} {T : Nat → Int32} {n0 p S n : Nat} {E : Nat → Int64} {d x1 : Int32} {L : sg_L} {g : sg_F} (h : mSn m hl T n0 p S n E d x1 L g) {s : Int32} (hs : 0 ≤ s.toInt ∧ s.toInt ≤ 8) : ((sX12_may1 s g L).toInt = 1 ∧ okc S s.toNatClampNeg) ∨ ((sX12_may1 s g L).toInt = 0 ∧ ¬ okc S s.toNatClampNeg) := by
  obtain ⟨h1, h2, h3, h4, h5, h6, h7, h8⟩ := h
  have cs := bn_clI hs.1
  unfold sX12_may1 okc; (repeat first | rw [spl_d] | rw [spl2_d])
  by_cases c1 : s.toInt < (g 0 6).toInt
  · rw [if_pos c1]; exact Or.inl ⟨by decide, by omega⟩
  rw [if_neg c1]
  by_cases c2 : s.toInt = 8
  · rw [if_pos c2]; exact Or.inl ⟨by decide, by omega⟩
  · rw [if_neg c2]; exact Or.inr ⟨by decide, by omega⟩
theorem ix61 {z : Int32} {i : Nat} (ez : z.toInt = (i : Int)) (hi : i ≤ 13) {y : Int32} {u : Nat} (ey : y.toInt = (u : Int)) (hu : u ≤ 60) : (61 * z + y).toNatClampNeg = 61 * i + u := by
  have k61 : (61 : Int32).toInt = 61 := by decide
  have e1 : (61 * z).toInt = 61 * z.toInt := bn_mulJ k61 (by omega) (by omega)
  have e2 : (61 * z + y).toInt = (61 * z).toInt + y.toInt := bn_addI (by omega) (by omega)
  have c := bn_clI (x := 61 * z + y) (by omega)
  omega
/-- how far the shifts are gone through forwards -/
def fwB (m : Nat → Int32) (p S : Nat) (E : Nat → Int64) (st i v s : Nat) (u : Nat) : Prop := (∃ w c : Nat, (w < v ∨ (w = v ∧ c < s)) ∧ okc S c ∧ cR m p S E st i w ∧ bhN m p c w = u) ∧ sn E i u
def fwI (m : Nat → Int32) (p S : Nat) (E : Nat → Int64) (st i v s : Nat) (g : sg_F) : Prop := (∀ j u : Nat, j ≤ i → u ≤ 60 → ((g 17 (61 * j + u)).toInt ≠ 0 ↔ cR m p S E st j u)) ∧ (i + 1 ≤ 12 → ∀ u : Nat, u ≤ 60 → ((g 17 (61 * (i + 1) + u)).toInt ≠ 0 ↔ fwB m p S E st i v s u)) ∧ ∀ j u : Nat, i + 1 < j → j ≤ 12 → u ≤ 60 → (g 17 (61 * j + u)).toInt = 0
theorem fwB.more {m : Nat → Int32} {p S : Nat} {E : Nat → Int64} {st i v s u : Nat} : fwB m p S E st i v (s + 1) u ↔ fwB m p S E st i v s u ∨ ((okc S s ∧ cR m p S E st i v ∧ bhN m p s v = u) ∧ sn E i u) := by
  unfold fwB
  refine ⟨fun h => ?_, fun h => ?_⟩
  · obtain ⟨⟨w, c, h1, h2⟩, h3⟩ := h
    by_cases z : w = v ∧ c = s
    · obtain ⟨rfl, rfl⟩ := z; exact Or.inr ⟨h2, h3⟩
    · exact Or.inl ⟨⟨w, c, by omega, h2⟩, h3⟩
  · rcases h with ⟨⟨w, c, h1, h2⟩, h3⟩ | ⟨h2, h3⟩
    · exact ⟨⟨w, c, by omega, h2⟩, h3⟩
    · exact ⟨⟨v, s, Or.inr ⟨rfl, by omega⟩, h2⟩, h3⟩
theorem fwB.next {m : Nat → Int32} {p S : Nat} {E : Nat → Int64} {st i v s u : Nat} (h : ∀ c : Nat, okc S c → cR m p S E st i v → c < s) : fwB m p S E st i (v + 1) 0 u ↔ fwB m p S E st i v s u := by
  unfold fwB
  refine ⟨fun z => ?_, fun z => ?_⟩
  · obtain ⟨⟨w, c, h1, h2, h3, h4⟩, h5⟩ := z
    refine ⟨⟨w, c, ?_, h2, h3, h4⟩, h5⟩
    by_cases q : w = v
    · subst q; exact Or.inr ⟨rfl, h c h2 h3⟩
    · exact Or.inl (by omega)
  · obtain ⟨⟨w, c, h1, h2⟩, h5⟩ := z
    exact ⟨⟨w, c, Or.inl (by omega), h2⟩, h5⟩
theorem mfw1 {m : Nat → Int32} {hl : Bool} {T : Nat → Int32} {n0 p S n : Nat} {E : Nat → Int64} {d x1 k y4 y5 y6 : Int32} {L : sg_L} {st i v : Nat} (rec_141 : Int32 → Int32 → sg_F → sg_L → Int32 × sg_F) (rec_151 : Int32 → Int32 → Int32 → sg_F → sg_L → Int32 × sg_F) (e5 : y5.toInt = (i : Int)) (hi : i < n) (e6 : y6.toInt = (v : Int)) (hv : v ≤ 60) : ∀ (q s : Nat) (y : Int32) (g : sg_F), y.toInt = (s : Int) → s ≤ 9 → 9 - s < q → mSn m hl T n0 p S n E d x1 L g → fwI m p S E st i v s g → ∃ g1 : sg_F, sX12_who_l161 rec_141 rec_151 d x1 k q y4 y5 y6 y g L = rec_151 y4 y5 (y6 + 1) g1 L ∧ fwI m p S E st i (v + 1) 0 g1 ∧ ∀ r : Nat, r ≠ 17 → g1 r = g r := by
  intro q
  induction q with
  | zero => intro s y g _ _ h; exact absurd h (by omega)
  | succ q ih =>
    intro s y g ey hs hq hF hw
    have hF0 := hF
    obtain ⟨h1, hm, hqo, h4, h5, h6, h7, h8, h9, h10⟩ := hF
    obtain ⟨hA, hB, hC⟩ := hw
    have e9 : sX12_who_l161 rec_141 rec_151 d x1 k (q + 1) y4 y5 y6 y g L = sX12_who_h161 rec_141 rec_151 d x1 k (sX12_who_l161 rec_141 rec_151 d x1 k q) y4 y5 y6 y g L := rfl
    have ey1 := inc1 ey (by omega)
    have e51 := inc1 e5 (by omega)
    have v6 : 0 ≤ y6.toInt ∧ y6.toInt ≤ 60 := by omega
    have c6 := bn_clI v6.1
    have e6n : y6.toNatClampNeg = v := by omega
    have eo : Int32.ofNat v = y6 := by rw [← e6n]; exact ofNn v6.1
    rw [e9]
    unfold sX12_who_h161 sX12_who_b258; (repeat first | rw [spl_d] | rw [spl2_d])
    rw [ix61 e5 (by omega) e6 hv]
    have fin : (∀ c : Nat, okc S c → cR m p S E st i v → c < s) → ∃ g1 : sg_F, rec_151 y4 y5 (y6 + 1) g L = rec_151 y4 y5 (y6 + 1) g1 L ∧ fwI m p S E st i (v + 1) 0 g1 ∧ ∀ r : Nat, r ≠ 17 → g1 r = g r := fun z => ⟨g, rfl, ⟨hA, fun a u hu => (hB a u hu).trans (fwB.next z).symm, hC⟩, fun _ _ => rfl⟩
    by_cases c : s ≤ 8
    case neg =>
      rw [if_pos (show 8 < y.toInt from by omega)]
      exact fin (fun c z _ => by unfold okc at z; omega)
    rw [if_neg (show ¬ 8 < y.toInt from by omega)]
    by_cases c2 : (g 17 (61 * i + v)).toInt = 0
    · rw [if_pos c2]
      exact fin (fun c _ z => absurd c2 ((hA i v (Nat.le_refl i) hv).mpr z))
    rw [if_neg c2]
    have hcr : cR m p S E st i v := (hA i v (Nat.le_refl i) hv).mp c2
    have hs8 : 0 ≤ y.toInt ∧ y.toInt ≤ 8 := by omega
    have cs := bn_clI hs8.1
    have esn : y.toNatClampNeg = s := by omega
    -- nothing comes
    have skip : ¬ ((okc S s ∧ cR m p S E st i v ∧ True) ∧ sn E i (bhN m p s v)) → ∃ g1 : sg_F, sX12_who_l161 rec_141 rec_151 d x1 k q y4 y5 y6 (y + 1) g L = rec_151 y4 y5 (y6 + 1) g1 L ∧ fwI m p S E st i (v + 1) 0 g1 ∧ ∀ r : Nat, r ≠ 17 → g1 r = g r := fun z => by
      refine ih (s + 1) (y + 1) g ey1 (by omega) (by omega) hF0 ⟨hA, fun a u hu => (hB a u hu).trans ⟨fun w => fwB.more.mpr (Or.inl w), fun w => ?_⟩, hC⟩
      rcases fwB.more.mp w with w | ⟨⟨w1, w2, w3⟩, w4⟩
      · exact w
      · exact absurd ⟨⟨w1, w2, trivial⟩, by rw [w3]; exact w4⟩ z
    rcases hF0.may hs8 with ⟨a1, a2⟩ | ⟨a1, a2⟩
    case inr =>
      rw [if_pos a1, up_same]
      exact skip (fun z => a2 (by rw [esn]; exact z.1.1))
    rw [if_neg (show ¬ (sX12_may1 y g L).toInt = 0 from by omega), mbhv h1 hm hqo h4 h5 hs8 v6, esn]
    have hr := bhv_b (c := s) (v := y6) hm hqo h5 v6
    obtain ⟨r, er⟩ : ∃ z : Int32, z = bhv m p s y6 := ⟨_, rfl⟩
    rw [← er] at hr ⊢
    have cr := bn_clI hr.1
    have ern : bhN m p s v = r.toNatClampNeg := by unfold bhN; rw [eo, er]
    have irn : r.toInt = (r.toNatClampNeg : Int) := by omega
    rw [ix61 e51 (by omega) irn (by omega)]
    rcases hF0.seen e5 hi hr.1 with ⟨b1, b2⟩ | ⟨b1, b2⟩
    case inr =>
      rw [if_pos b1, up_same]
      exact skip (fun z => b2 (by rw [← ern]; exact z.2))
    rw [if_neg (show ¬ (sX12_isSeen d y5 r g L).toInt = 0 from by omega)]
    obtain ⟨j, ej⟩ : ∃ z : Nat, z = 61 * (i + 1) + r.toNatClampNeg := ⟨_, rfl⟩
    rw [← ej]
    obtain ⟨g2, eg2⟩ : ∃ z : sg_F, z = sg_up g 17 (sgu (g 17) j (g 17 j ||| 1)) := ⟨_, rfl⟩
    rw [← eg2]
    have gk : ∀ r : Nat, r ≠ 17 → g2 r = g r := fun r a => by rw [eg2, sg_up_n a]
    have g17 : g2 17 = sgu (g 17) j (g 17 j ||| 1) := by rw [eg2, sg_up_s]
    have hw2 : fwI m p S E st i v (s + 1) g2 := by
      refine ⟨fun j1 u a b => ?_, fun a u hu => ?_, fun j1 u a b hu => ?_⟩
      · rw [g17, sgu_n (by omega)]; exact hA j1 u a b
      · rw [g17]
        by_cases z : u = r.toNatClampNeg
        · rw [show 61 * (i + 1) + u = j from by omega, sgu_s]
          refine ⟨fun _ => fwB.more.mpr (Or.inr ⟨⟨by rw [← esn]; exact a2, hcr, by rw [ern, z]⟩, by rw [z]; exact b2⟩), fun _ => mi_o1 _⟩
        · rw [sgu_n (by omega)]
          refine (hB a u hu).trans ⟨fun w => fwB.more.mpr (Or.inl w), fun w => ?_⟩
          rcases fwB.more.mp w with w | ⟨⟨w1, w2, w3⟩, w4⟩
          · exact w
          · exact absurd (by rw [← w3, ern]) z
      · rw [g17, sgu_n (by omega)]; exact hC j1 u a b hu
    obtain ⟨g1, u1, u2, u3⟩ := ih (s + 1) (y + 1) g2 ey1 (by omega) (by omega) (hF0.K (fun r a _ => gk r a)) hw2
    exact ⟨g1, u1, u2, fun r a => (u3 r a).trans (gk r a)⟩
theorem mfw2 {m : Nat → Int32} {hl : Bool} {T : Nat → Int32} {n0 p S n : Nat} {E : Nat → Int64} {d x1 k y4 y5 : Int32} {L : sg_L} {st i : Nat} (rec_141 : Int32 → Int32 → sg_F → sg_L → Int32 × sg_F) (hst : st ≤ 60) (e5 : y5.toInt = (i : Int)) (hi : i < n) : ∀ (q v : Nat) (y : Int32) (g : sg_F), y.toInt = (v : Int) → v ≤ 61 → 61 - v < q → mSn m hl T n0 p S n E d x1 L g → fwI m p S E st i v 0 g → ∃ g1 : sg_F, sX12_who_l151 rec_141 d x1 k q y4 y5 y g L = rec_141 y4 (y5 + 1) g1 L ∧ fwI m p S E st (i + 1) 0 0 g1 ∧ ∀ r : Nat, r ≠ 17 → g1 r = g r := by
  intro q
  induction q with
  | zero => intro v y g _ _ h; exact absurd h (by omega)
  | succ q ih =>
    intro v y g ey hv hq hF hw
    have e9 : sX12_who_l151 rec_141 d x1 k (q + 1) y4 y5 y g L = sX12_who_h151 rec_141 d x1 k (sX12_who_l151 rec_141 d x1 k q) y4 y5 y g L := rfl
    have h10 := hF.2.2.2.2.2.2.2.2.2
    rw [e9]
    unfold sX12_who_h151; (repeat first | rw [spl_d] | rw [spl2_d])
    by_cases c : v < 61
    case neg =>
      rw [if_neg (show ¬ y.toInt < 61 from by omega)]
      have : v = 61 := by omega
      subst this
      obtain ⟨hA, hB, hC⟩ := hw
      refine ⟨g, rfl, ⟨fun j u a b => ?_, fun a u hu => ?_, fun j u a b hu => hC j u (by omega) b hu⟩, fun _ _ => rfl⟩
      · by_cases z : j = i + 1
        · subst z
          refine (hB (by omega) u b).trans ⟨fun w => ?_, fun w => ?_⟩
          · obtain ⟨⟨w1, c, w2, w3, w4, w5⟩, w6⟩ := w
            exact ⟨⟨w1, c, by omega, w3, w4, w5⟩, w6⟩
          · obtain ⟨⟨w1, c, w2, w3, w4, w5⟩, w6⟩ := w
            exact ⟨⟨w1, c, by omega, w3, w4, w5⟩, w6⟩
        · exact hA j u (by omega) b
      · have z := hC (i + 1 + 1) u (by omega) (by omega) hu
        refine ⟨fun w => absurd z w, fun w => ?_⟩
        obtain ⟨⟨w1, c, w2, -⟩, -⟩ := w
        exact absurd w2 (by omega)
    rw [if_pos (show y.toInt < 61 from by omega)]
    obtain ⟨g1, u1, u2, u3⟩ := mfw1 (d := d) (x1 := x1) (k := k) (y4 := y4) (L := L) rec_141 (sX12_who_l151 rec_141 d x1 k q) e5 hi ey (by omega) 10 0 0 g (by decide) (by decide) (by decide) hF hw
    rw [u1]
    obtain ⟨g2, w1, w2, w3⟩ := ih (v + 1) (y + 1) g1 (inc1 ey (by omega)) (by omega) (by omega) (hF.K (fun r a _ => u3 r a)) u2
    exact ⟨g2, w1, w2, fun r a => (w3 r a).trans (u3 r a)⟩
theorem mfw3 {m : Nat → Int32} {hl : Bool} {T : Nat → Int32} {n0 p S n : Nat} {E : Nat → Int64} {d x1 k y4 : Int32} {L : sg_L} {st : Nat} (hst : st ≤ 60) (e4 : y4.toInt = (n : Int)) : ∀ (q i : Nat) (y : Int32) (g : sg_F), y.toInt = (i : Int) → i ≤ n → n - i < q → mSn m hl T n0 p S n E d x1 L g → fwI m p S E st i 0 0 g → ∃ g1 : sg_F, sX12_who_l141 d x1 k q y4 y g L = sX12_who_l276 d x1 k 13 (y4 - 1) g1 L ∧ fwI m p S E st n 0 0 g1 ∧ ∀ r : Nat, r ≠ 17 → g1 r = g r := by
  intro q
  induction q with
  | zero => intro i y g _ _ h; exact absurd h (by omega)
  | succ q ih =>
    intro i y g ey hi hq hF hw
    have e9 : sX12_who_l141 d x1 k (q + 1) y4 y g L = sX12_who_h141 d x1 k (sX12_who_l141 d x1 k q) y4 y g L := rfl
    have h10 := hF.2.2.2.2.2.2.2.2.2
    rw [e9]
    unfold sX12_who_h141; (repeat first | rw [spl_d] | rw [spl2_d])
    by_cases c : i < n
    case neg =>
      rw [if_neg (show ¬ y.toInt < y4.toInt from by omega)]
      have : i = n := by omega
      subst this
      exact ⟨g, rfl, hw, fun _ _ => rfl⟩
    rw [if_pos (show y.toInt < y4.toInt from by omega)]
    obtain ⟨g1, u1, u2, u3⟩ := mfw2 (d := d) (x1 := x1) (k := k) (y4 := y4) (L := L) (sX12_who_l141 d x1 k q) hst ey c 62 0 0 g (by decide) (by decide) (by decide) hF hw
    rw [u1]
    obtain ⟨g2, w1, w2, w3⟩ := ih (i + 1) (y + 1) g1 (inc1 ey (by omega)) (by omega) (by omega) (hF.K (fun r a _ => u3 r a)) u2
    exact ⟨g2, w1, w2, fun r a => (w3 r a).trans (u3 r a)⟩
/-- and backwards -/
def bwB (m : Nat → Int32) (p S n : Nat) (E : Nat → Int64) (i v s u : Nat) : Prop := (u < v ∧ gO m p S E n (n - i) u) ∨ (u = v ∧ ∃ c : Nat, c < s ∧ okc S c ∧ sn E i (bhN m p c u) ∧ gO m p S E n (n - (i + 1)) (bhN m p c u))
def bwI (m : Nat → Int32) (p S n : Nat) (E : Nat → Int64) (i v s : Nat) (g : sg_F) : Prop := (∀ j u : Nat, i < j → j ≤ n → u ≤ 60 → ((g 18 (61 * j + u)).toInt ≠ 0 ↔ gO m p S E n (n - j) u)) ∧ (∀ u : Nat, u ≤ 60 → ((g 18 (61 * i + u)).toInt ≠ 0 ↔ bwB m p S n E i v s u)) ∧ ∀ j u : Nat, j < i → u ≤ 60 → (g 18 (61 * j + u)).toInt = 0
theorem gO_1 {m : Nat → Int32} {p S n : Nat} {E : Nat → Int64} {i u : Nat} (hi : i < n) : gO m p S E n (n - i) u ↔ ∃ c : Nat, okc S c ∧ sn E i (bhN m p c u) ∧ gO m p S E n (n - (i + 1)) (bhN m p c u) := by
  have er : n - i = (n - (i + 1)) + 1 := by omega
  have ei : n - ((n - (i + 1)) + 1) = i := by omega
  rw [er]
  show (∃ c : Nat, okc S c ∧ sn E (n - ((n - (i + 1)) + 1)) (bhN m p c u) ∧ _) ↔ _
  rw [ei]
theorem bwB.more {m : Nat → Int32} {p S n : Nat} {E : Nat → Int64} {i v s u : Nat} : bwB m p S n E i v (s + 1) u ↔ bwB m p S n E i v s u ∨ (u = v ∧ okc S s ∧ sn E i (bhN m p s u) ∧ gO m p S E n (n - (i + 1)) (bhN m p s u)) := by
  unfold bwB
  refine ⟨fun h => ?_, fun h => ?_⟩
  · rcases h with h | ⟨h1, c, h2, h3⟩
    · exact Or.inl (Or.inl h)
    · by_cases z : c = s
      · subst z; exact Or.inr ⟨h1, h3⟩
      · exact Or.inl (Or.inr ⟨h1, c, by omega, h3⟩)
  · rcases h with (h | ⟨h1, c, h2, h3⟩) | ⟨h1, h3⟩
    · exact Or.inl h
    · exact Or.inr ⟨h1, c, by omega, h3⟩
    · exact Or.inr ⟨h1, s, by omega, h3⟩
theorem mbw1 {m : Nat → Int32} {hl : Bool} {T : Nat → Int32} {n0 p S n : Nat} {E : Nat → Int64} {d x1 k y5 y6 : Int32} {L : sg_L} {i v : Nat} (rec_276 : Int32 → sg_F → sg_L → Int32 × sg_F) (rec_284 : Int32 → Int32 → sg_F → sg_L → Int32 × sg_F) (e5 : y5.toInt = (i : Int)) (hi : i < n) (e6 : y6.toInt = (v : Int)) (hv : v ≤ 60) : ∀ (q s : Nat) (y : Int32) (g : sg_F), y.toInt = (s : Int) → s ≤ 9 → 9 - s < q → mSn m hl T n0 p S n E d x1 L g → bwI m p S n E i v s g → ∃ g1 : sg_F, sX12_who_l294 rec_276 rec_284 d x1 k q y5 y6 y g L = rec_284 y5 (y6 + 1) g1 L ∧ bwI m p S n E i (v + 1) 0 g1 ∧ ∀ r : Nat, r ≠ 18 → g1 r = g r := by
  intro q
  induction q with
  | zero => intro s y g _ _ h; exact absurd h (by omega)
  | succ q ih =>
    intro s y g ey hs hq hF hw
    have hF0 := hF
    obtain ⟨h1, hm, hqo, h4, h5, h6, h7, h8, h9, h10⟩ := hF
    obtain ⟨hA, hB, hC⟩ := hw
    have e9 : sX12_who_l294 rec_276 rec_284 d x1 k (q + 1) y5 y6 y g L = sX12_who_h294 rec_276 rec_284 d x1 k (sX12_who_l294 rec_276 rec_284 d x1 k q) y5 y6 y g L := rfl
    have ey1 := inc1 ey (by omega)
    have e51 := inc1 e5 (by omega)
    have v6 : 0 ≤ y6.toInt ∧ y6.toInt ≤ 60 := by omega
    have c6 := bn_clI v6.1
    have e6n : y6.toNatClampNeg = v := by omega
    have eo : Int32.ofNat v = y6 := by rw [← e6n]; exact ofNn v6.1
    rw [e9]
    unfold sX12_who_h294; (repeat first | rw [spl_d] | rw [spl2_d])
    rw [ix61 e5 (by omega) e6 hv]
    by_cases c : s ≤ 8
    case neg =>
      rw [if_pos (show 8 < y.toInt from by omega)]
      refine ⟨g, rfl, ⟨hA, fun u hu => (hB u hu).trans ?_, hC⟩, fun _ _ => rfl⟩
      unfold bwB
      refine ⟨fun w => ?_, fun w => ?_⟩
      · rcases w with w | ⟨w1, c, w2, w3⟩
        · exact Or.inl ⟨by omega, w.2⟩
        · exact Or.inl ⟨by omega, (gO_1 hi).mpr ⟨c, w3⟩⟩
      · rcases w with w | ⟨w1, c, w2, w3⟩
        · by_cases z : u = v
          · obtain ⟨c, w3⟩ := (gO_1 hi).mp w.2
            have z3 := w3.1
            unfold okc at z3
            exact Or.inr ⟨z, c, by omega, w3⟩
          · exact Or.inl ⟨by omega, w.2⟩
        · exact absurd w2 (by omega)
    rw [if_neg (show ¬ 8 < y.toInt from by omega)]
    have hs8 : 0 ≤ y.toInt ∧ y.toInt ≤ 8 := by omega
    have cs := bn_clI hs8.1
    have esn : y.toNatClampNeg = s := by omega
    have skip : ¬ (okc S s ∧ sn E i (bhN m p s v) ∧ gO m p S E n (n - (i + 1)) (bhN m p s v)) → ∃ g1 : sg_F, sX12_who_l294 rec_276 rec_284 d x1 k q y5 y6 (y + 1) g L = rec_284 y5 (y6 + 1) g1 L ∧ bwI m p S n E i (v + 1) 0 g1 ∧ ∀ r : Nat, r ≠ 18 → g1 r = g r := fun z => by
      refine ih (s + 1) (y + 1) g ey1 (by omega) (by omega) hF0 ⟨hA, fun u hu => (hB u hu).trans ⟨fun w => bwB.more.mpr (Or.inl w), fun w => ?_⟩, hC⟩
      rcases bwB.more.mp w with w | ⟨w1, w2⟩
      · exact w
      · subst w1; exact absurd w2 z
    rcases hF0.may hs8 with ⟨a1, a2⟩ | ⟨a1, a2⟩
    case inr =>
      rw [if_pos a1, up_same]
      exact skip (fun z => a2 (by rw [esn]; exact z.1))
    rw [if_neg (show ¬ (sX12_may1 y g L).toInt = 0 from by omega), mbhv h1 hm hqo h4 h5 hs8 v6, esn]
    have hr := bhv_b (c := s) (v := y6) hm hqo h5 v6
    obtain ⟨r, er⟩ : ∃ z : Int32, z = bhv m p s y6 := ⟨_, rfl⟩
    rw [← er] at hr ⊢
    have cr := bn_clI hr.1
    have ern : bhN m p s v = r.toNatClampNeg := by unfold bhN; rw [eo, er]
    have irn : r.toInt = (r.toNatClampNeg : Int) := by omega
    rw [ix61 e51 (by omega) irn (by omega)]
    rcases hF0.seen e5 hi hr.1 with ⟨b1, b2⟩ | ⟨b1, b2⟩
    case inr =>
      rw [if_pos b1, up_same]
      exact skip (fun z => b2 (by rw [← ern]; exact z.2.1))
    rw [if_neg (show ¬ (sX12_isSeen d y5 r g L).toInt = 0 from by omega)]
    have hn := hA (i + 1) r.toNatClampNeg (by omega) (by omega) (by omega)
    by_cases c3 : (g 18 (61 * (i + 1) + r.toNatClampNeg)).toInt = 0
    · rw [if_pos c3, up_same]
      exact skip (fun z => (hn.mpr (by rw [← ern]; exact z.2.2)) c3)
    rw [if_neg c3]
    have hg := hn.mp c3
    obtain ⟨j, ej⟩ : ∃ z : Nat, z = 61 * i + v := ⟨_, rfl⟩
    rw [← ej]
    obtain ⟨g2, eg2⟩ : ∃ z : sg_F, z = sg_up g 18 (sgu (g 18) j (g 18 j ||| 1)) := ⟨_, rfl⟩
    rw [← eg2]
    have gk : ∀ r : Nat, r ≠ 18 → g2 r = g r := fun r a => by rw [eg2, sg_up_n a]
    have g18 : g2 18 = sgu (g 18) j (g 18 j ||| 1) := by rw [eg2, sg_up_s]
    have hw2 : bwI m p S n E i v (s + 1) g2 := by
      refine ⟨fun j1 u a b hu => ?_, fun u hu => ?_, fun j1 u a hu => ?_⟩
      · rw [g18, sgu_n (by omega)]; exact hA j1 u a b hu
      · rw [g18]
        by_cases z : u = v
        · rw [show 61 * i + u = j from by omega, sgu_s]
          refine ⟨fun _ => bwB.more.mpr (Or.inr ⟨z, by rw [← esn]; exact a2, by rw [z, ern]; exact b2, by rw [z, ern]; exact hg⟩), fun _ => mi_o1 _⟩
        · rw [sgu_n (by omega)]
          refine (hB u hu).trans ⟨fun w => bwB.more.mpr (Or.inl w), fun w => ?_⟩
          rcases bwB.more.mp w with w | ⟨w1, w2⟩
          · exact w
          · exact absurd w1 z
      · rw [g18, sgu_n (by omega)]; exact hC j1 u a hu
    obtain ⟨g1, u1, u2, u3⟩ := ih (s + 1) (y + 1) g2 ey1 (by omega) (by omega) (hF0.K (fun r _ a => gk r a)) hw2
    exact ⟨g1, u1, u2, fun r a => (u3 r a).trans (gk r a)⟩
theorem mbw2 {m : Nat → Int32} {hl : Bool} {T : Nat → Int32} {n0 p S n : Nat} {E : Nat → Int64} {d x1 k y5 : Int32} {L : sg_L} {i : Nat} (rec_276 : Int32 → sg_F → sg_L → Int32 × sg_F) (e5 : y5.toInt = (i : Int)) (hi : i < n) : ∀ (q v : Nat) (y : Int32) (g : sg_F), y.toInt = (v : Int) → v ≤ 61 → 61 - v < q → mSn m hl T n0 p S n E d x1 L g → bwI m p S n E i v 0 g → ∃ g1 : sg_F, sX12_who_l284 rec_276 d x1 k q y5 y g L = rec_276 (y5 + (-1)) g1 L ∧ bwI m p S n E i 61 0 g1 ∧ ∀ r : Nat, r ≠ 18 → g1 r = g r := by
  intro q
  induction q with
  | zero => intro v y g _ _ h; exact absurd h (by omega)
  | succ q ih =>
    intro v y g ey hv hq hF hw
    have e9 : sX12_who_l284 rec_276 d x1 k (q + 1) y5 y g L = sX12_who_h284 rec_276 d x1 k (sX12_who_l284 rec_276 d x1 k q) y5 y g L := rfl
    rw [e9]
    unfold sX12_who_h284; (repeat first | rw [spl_d] | rw [spl2_d])
    by_cases c : v < 61
    case neg =>
      rw [if_neg (show ¬ y.toInt < 61 from by omega)]
      have : v = 61 := by omega
      subst this
      exact ⟨g, rfl, hw, fun _ _ => rfl⟩
    rw [if_pos (show y.toInt < 61 from by omega)]
    obtain ⟨g1, u1, u2, u3⟩ := mbw1 (d := d) (x1 := x1) (k := k) (L := L) rec_276 (sX12_who_l284 rec_276 d x1 k q) e5 hi ey (by omega) 10 0 0 g (by decide) (by decide) (by decide) hF hw
    rw [u1]
    obtain ⟨g2, w1, w2, w3⟩ := ih (v + 1) (y + 1) g1 (inc1 ey (by omega)) (by omega) (by omega) (hF.K (fun r _ a => u3 r a)) u2
    exact ⟨g2, w1, w2, fun r a => (w3 r a).trans (u3 r a)⟩
/-- all rows from one on are done -/
def bwD (m : Nat → Int32) (p S n : Nat) (E : Nat → Int64) (i : Nat) (g : sg_F) : Prop := (∀ j u : Nat, i ≤ j → j ≤ n → u ≤ 60 → ((g 18 (61 * j + u)).toInt ≠ 0 ↔ gO m p S E n (n - j) u)) ∧ ∀ j u : Nat, j < i → u ≤ 60 → (g 18 (61 * j + u)).toInt = 0
theorem mbw3 {m : Nat → Int32} {hl : Bool} {T : Nat → Int32} {n0 p S n : Nat} {E : Nat → Int64} {d x1 k : Int32} {L : sg_L} : ∀ (q i : Nat) (y : Int32) (g : sg_F), y.toInt = (i : Int) - 1 → i ≤ n → i < q → mSn m hl T n0 p S n E d x1 L g → bwD m p S n E i g → ∃ g1 : sg_F, sX12_who_l276 d x1 k q y g L = sX12_who_l409 d x1 k 62 0 0 g1 L ∧ bwD m p S n E 0 g1 ∧ ∀ r : Nat, r ≠ 18 → g1 r = g r := by
  have km : (-1 : Int32).toInt = -1 := by decide
  intro q
  induction q with
  | zero => intro i y g _ _ h; exact absurd h (by omega)
  | succ q ih =>
    intro i y g ey hi hq hF hw
    have e9 : sX12_who_l276 d x1 k (q + 1) y g L = sX12_who_h276 d x1 k (sX12_who_l276 d x1 k q) y g L := rfl
    have h10 := hF.2.2.2.2.2.2.2.2.2
    rw [e9]
    unfold sX12_who_h276; (repeat first | rw [spl_d] | rw [spl2_d])
    by_cases c : i = 0
    · subst c
      rw [if_pos (show y.toInt < 0 from by omega)]
      exact ⟨g, rfl, hw, fun _ _ => rfl⟩
    obtain ⟨i, rfl⟩ : ∃ z : Nat, i = z + 1 := ⟨i - 1, by omega⟩
    rw [if_neg (show ¬ y.toInt < 0 from by omega)]
    obtain ⟨hA, hC⟩ := hw
    obtain ⟨g1, u1, u2, u3⟩ := mbw2 (d := d) (x1 := x1) (k := k) (y5 := y) (i := i) (L := L) (sX12_who_l276 d x1 k q) (by omega) (by omega) 62 0 0 g (by decide) (by decide) (by decide) hF ⟨fun j u a b hu => hA j u (by omega) b hu, fun u hu => ⟨fun z => absurd (hC i u (by omega) hu) z, fun z => by
      rcases z with ⟨z, -⟩ | ⟨-, c, z, -⟩
      · exact absurd z (by omega)
      · exact absurd z (by omega)⟩, fun j u a hu => hC j u (by omega) hu⟩
    rw [u1]
    obtain ⟨uA, uB, uC⟩ := u2
    have ey1 : (y + (-1)).toInt = (i : Int) - 1 := (bn_addI (by omega) (by omega)).trans (by omega)
    obtain ⟨g2, w1, w2, w3⟩ := ih i (y + (-1)) g1 ey1 (by omega) (by omega) (hF.K (fun r _ a => u3 r a)) ⟨fun j u a b hu => by
      by_cases z : j = i
      · subst z
        refine (uB u hu).trans ⟨fun w => ?_, fun w => Or.inl ⟨by omega, w⟩⟩
        rcases w with w | ⟨w, -⟩
        · exact w.2
        · exact absurd w (by omega)
      · exact uA j u (by omega) b hu, uC⟩
    exact ⟨g2, w1, w2, fun r a => (w3 r a).trans (u3 r a)⟩
/-- the bits -/
theorem mbits {m : Nat → Int32} {hl : Bool} {T : Nat → Int32} {n0 p S n : Nat} {E : Nat → Int64} {d x1 k : Int32} {L : sg_L} {g : sg_F} {st K : Nat} (hF : mSn m hl T n0 p S n E d x1 L g) (hk : k.toInt = (K : Int)) (hKn : K < n) (hA : ∀ j u : Nat, j ≤ n → u ≤ 60 → ((g 17 (61 * j + u)).toInt ≠ 0 ↔ cR m p S E st j u)) (hG : ∀ j u : Nat, j ≤ n → u ≤ 60 → ((g 18 (61 * j + u)).toInt ≠ 0 ↔ gO m p S E n (n - j) u)) : ∀ u : Nat, u < 32 → (mi (sX12_who_l409 d x1 k 62 0 0 g L).1 u = true ↔ whoP m p S E st n K u) := by
  have hF0 := hF
  obtain ⟨h1, hm, hqo, h4, h5, h6, h7, h8, h9, h10⟩ := hF
  have hk1 := inc1 hk (by omega)
  have one : ∀ (rec : Int32 → Int32 → sg_F → sg_L → Int32 × sg_F) (v : Nat) (z : Int32), z.toInt = (v : Int) → v ≤ 60 → ∀ (q s : Nat) (y a : Int32), y.toInt = (s : Int) → s ≤ 9 → 9 - s < q → (∀ u : Nat, u < 32 → (mi a u = true ↔ okc S u ∧ ∃ w : Nat, (w < v ∨ (w = v ∧ u < s)) ∧ cR m p S E st K w ∧ sn E K (bhN m p u w) ∧ gO m p S E n (n - (K + 1)) (bhN m p u w))) → ∃ b : Int32, sX12_who_l419 rec d x1 k q a z y g L = rec b (z + 1) g L ∧ ∀ u : Nat, u < 32 → (mi b u = true ↔ okc S u ∧ ∃ w : Nat, w < v + 1 ∧ cR m p S E st K w ∧ sn E K (bhN m p u w) ∧ gO m p S E n (n - (K + 1)) (bhN m p u w)) := by
    intro rec v z ez hv q
    induction q with
    | zero => intro s y a _ _ h; exact absurd h (by omega)
    | succ q ih =>
      intro s y a ey hs hq ha
      have e9 : sX12_who_l419 rec d x1 k (q + 1) a z y g L = sX12_who_h419 rec d x1 k (sX12_who_l419 rec d x1 k q) a z y g L := rfl
      have ey1 := inc1 ey (by omega)
      have v6 : 0 ≤ z.toInt ∧ z.toInt ≤ 60 := by omega
      have c6 := bn_clI v6.1
      have ezn : z.toNatClampNeg = v := by omega
      have eo : Int32.ofNat v = z := by rw [← ezn]; exact ofNn v6.1
      rw [e9]
      unfold sX12_who_h419 sX12_who_b506; (repeat first | rw [spl_d] | rw [spl2_d])
      by_cases c : s ≤ 8
      case neg =>
        rw [if_pos (show 8 < y.toInt from by omega)]
        refine ⟨a, rfl, fun u hu => (ha u hu).trans ⟨fun w => ?_, fun w => ?_⟩⟩
        · obtain ⟨w0, w, w1, w2⟩ := w; exact ⟨w0, w, by omega, w2⟩
        · obtain ⟨w0, w, w1, w2⟩ := w
          have z0 := w0
          unfold okc at z0
          exact ⟨w0, w, by omega, w2⟩
      rw [if_neg (show ¬ 8 < y.toInt from by omega), Int32.or_zero]
      have hs8 : 0 ≤ y.toInt ∧ y.toInt ≤ 8 := by omega
      have cs := bn_clI hs8.1
      have esn : y.toNatClampNeg = s := by omega
      have skip : ¬ (okc S s ∧ cR m p S E st K v ∧ sn E K (bhN m p s v) ∧ gO m p S E n (n - (K + 1)) (bhN m p s v)) → ∃ b : Int32, sX12_who_l419 rec d x1 k q a z (y + 1) g L = rec b (z + 1) g L ∧ ∀ u : Nat, u < 32 → (mi b u = true ↔ okc S u ∧ ∃ w : Nat, w < v + 1 ∧ cR m p S E st K w ∧ sn E K (bhN m p u w) ∧ gO m p S E n (n - (K + 1)) (bhN m p u w)) := fun x => by
        refine ih (s + 1) (y + 1) a ey1 (by omega) (by omega) (fun u hu => (ha u hu).trans ⟨fun w => ?_, fun w => ?_⟩)
        · obtain ⟨w0, w, w1, w2⟩ := w; exact ⟨w0, w, by omega, w2⟩
        · obtain ⟨w0, w, w1, w2⟩ := w
          refine ⟨w0, w, ?_, w2⟩
          by_cases x1 : w = v ∧ u = s
          · obtain ⟨rfl, rfl⟩ := x1; exact absurd ⟨w0, w2⟩ x
          · omega
      rcases hF0.may hs8 with ⟨a1, a2⟩ | ⟨a1, a2⟩
      case inr =>
        rw [if_pos a1]
        exact skip (fun x => a2 (by rw [esn]; exact x.1))
      rw [if_neg (show ¬ (sX12_may1 y g L).toInt = 0 from by omega), mbhv h1 hm hqo h4 h5 hs8 v6, esn, ix61 hk (by omega) ez hv]
      have hr := bhv_b (c := s) (v := z) hm hqo h5 v6
      obtain ⟨r, er⟩ : ∃ x : Int32, x = bhv m p s z := ⟨_, rfl⟩
      rw [← er] at hr ⊢
      have cr := bn_clI hr.1
      have ern : bhN m p s v = r.toNatClampNeg := by unfold bhN; rw [eo, er]
      have irn : r.toInt = (r.toNatClampNeg : Int) := by omega
      rw [ix61 hk1 (by omega) irn (by omega)]
      by_cases c1 : (g 17 (61 * K + v)).toInt = 0
      · rw [if_pos c1]
        exact skip (fun x => ((hA K v (by omega) hv).mpr x.2.1) c1)
      rw [if_neg c1]
      rcases hF0.seen hk hKn hr.1 with ⟨b1, b2⟩ | ⟨b1, b2⟩
      case inr =>
        rw [if_pos b1]
        exact skip (fun x => b2 (by rw [← ern]; exact x.2.2.1))
      rw [if_neg (show ¬ (sX12_isSeen d k r g L).toInt = 0 from by omega)]
      have hn := hG (K + 1) r.toNatClampNeg (by omega) (by omega)
      by_cases c3 : (g 18 (61 * (K + 1) + r.toNatClampNeg)).toInt = 0
      · rw [if_pos c3]
        exact skip (fun x => (hn.mpr (by rw [← ern]; exact x.2.2.2)) c3)
      rw [if_neg c3]
      refine ih (s + 1) (y + 1) _ ey1 (by omega) (by omega) (fun u hu => ?_)
      rw [mi_or, mi_one hs8 u, esn]
      refine Bool.or_eq_true_iff.trans ⟨fun w => ?_, fun w => ?_⟩
      · rcases w with w | w
        · obtain ⟨w0, w, w1, w2⟩ := (ha u hu).mp w; exact ⟨w0, w, by omega, w2⟩
        · have w := of_decide_eq_true w
          subst w
          exact ⟨by rw [← esn]; exact a2, v, by omega, (hA K v (by omega) hv).mp c1, by rw [ern]; exact b2, by rw [ern]; exact hn.mp c3⟩
      · obtain ⟨w0, w, w1, w2⟩ := w
        by_cases x : u = s
        · exact Or.inr (decide_eq_true x)
        · exact Or.inl ((ha u hu).mpr ⟨w0, w, by omega, w2⟩)
  have go : ∀ (q v : Nat) (z a : Int32), z.toInt = (v : Int) → v ≤ 61 → 61 - v < q → (∀ u : Nat, u < 32 → (mi a u = true ↔ okc S u ∧ ∃ w : Nat, w < v ∧ cR m p S E st K w ∧ sn E K (bhN m p u w) ∧ gO m p S E n (n - (K + 1)) (bhN m p u w))) → ∀ u : Nat, u < 32 → (mi (sX12_who_l409 d x1 k q a z g L).1 u = true ↔ whoP m p S E st n K u) := by
    intro q
    induction q with
    | zero => intro v z a _ _ h; exact absurd h (by omega)
    | succ q ih =>
      intro v z a ez hv hq ha
      have e9 : sX12_who_l409 d x1 k (q + 1) a z g L = sX12_who_h409 d x1 k (sX12_who_l409 d x1 k q) a z g L := rfl
      rw [e9]
      unfold sX12_who_h409; (repeat first | rw [spl_d] | rw [spl2_d])
      by_cases c : v < 61
      case neg =>
        rw [if_neg (show ¬ z.toInt < 61 from by omega)]
        refine fun u hu => (ha u hu).trans ?_
        unfold whoP
        rw [show n - 1 - K = n - (K + 1) from by omega]
        refine ⟨fun w => ?_, fun w => ?_⟩
        · obtain ⟨w0, w, w1, w2⟩ := w; exact ⟨w0, w, by omega, w2⟩
        · obtain ⟨w0, w, w1, w2⟩ := w; exact ⟨w0, w, by omega, w2⟩
      rw [if_pos (show z.toInt < 61 from by omega)]
      obtain ⟨b, b1, b2⟩ := one (sX12_who_l409 d x1 k q) v z ez (by omega) 10 0 0 a (by decide) (by decide) (by decide) (fun u hu => (ha u hu).trans ⟨fun w => by
        obtain ⟨w0, w, w1, w2⟩ := w; exact ⟨w0, w, by omega, w2⟩, fun w => by
        obtain ⟨w0, w, w1, w2⟩ := w; exact ⟨w0, w, by omega, w2⟩⟩)
      rw [b1]
      exact ih (v + 1) (z + 1) b (inc1 ez (by omega)) (by omega) (by omega) b2
  exact go 62 0 0 0 (by decide) (by decide) (by decide) (fun u hu => by
    rw [mi_0]
    exact ⟨fun w => absurd w (by decide), fun w => by obtain ⟨-, w, w1, -⟩ := w; exact absurd w1 (by omega)⟩)
/-- the rows are laid -/
theorem mlay {m : Nat → Int32} {hl : Bool} {T : Nat → Int32} {n0 p S n : Nat} {E : Nat → Int64} {d x1 k y4 : Int32} {L : sg_L} {g0 : sg_F} {st : Nat} (hF : mSn m hl T n0 p S n E d x1 L g0) (e4 : y4.toInt = (n : Int)) (hn : 1 ≤ n) (es : (g0 5 p).toInt = (st : Int)) (hst : st ≤ 60) : ∃ g1 : sg_F, sX12_who_l79 d x1 k 794 y4 0 g0 L = sX12_who_l141 d x1 k 13 y4 0 g1 L ∧ (∀ u : Nat, u < 793 → ((g1 17 u).toInt ≠ 0 ↔ u = st)) ∧ (∀ u : Nat, u < 793 → ((g1 18 u).toInt ≠ 0 ↔ u / 61 = n)) ∧ ∀ r : Nat, r ≠ 17 → r ≠ 18 → g1 r = g0 r := by
  have h4 := hF.2.2.2.1
  have c1 := bn_clI (x := x1) (by omega)
  have ep : x1.toNatClampNeg = p := by omega
  have k61 : (61 : Int32).toInt = 61 := by decide
  have k0 : (0 : Int32).toInt = 0 := by decide
  have k1 : (1 : Int32).toInt = 1 := by decide
  have go : ∀ (q i : Nat) (y : Int32) (g : sg_F), y.toInt = (i : Int) → i ≤ 793 → 793 - i < q → (∀ u : Nat, u < i → ((g 17 u).toInt ≠ 0 ↔ u = st)) → (∀ u : Nat, u < i → ((g 18 u).toInt ≠ 0 ↔ u / 61 = n)) → (∀ r : Nat, r ≠ 17 → r ≠ 18 → g r = g0 r) → ∃ g1 : sg_F, sX12_who_l79 d x1 k q y4 y g L = sX12_who_l141 d x1 k 13 y4 0 g1 L ∧ (∀ u : Nat, u < 793 → ((g1 17 u).toInt ≠ 0 ↔ u = st)) ∧ (∀ u : Nat, u < 793 → ((g1 18 u).toInt ≠ 0 ↔ u / 61 = n)) ∧ ∀ r : Nat, r ≠ 17 → r ≠ 18 → g1 r = g0 r := by
    intro q
    induction q with
    | zero => intro i y g _ _ h; exact absurd h (by omega)
    | succ q ih =>
      intro i y g ey hi hq h17 h18 hfr
      have e9 : sX12_who_l79 d x1 k (q + 1) y4 y g L = sX12_who_h79 d x1 k (sX12_who_l79 d x1 k q) y4 y g L := rfl
      have cy := bn_clI (x := y) (by omega)
      have eyn : y.toNatClampNeg = i := by omega
      have ey1 := inc1 ey (by omega)
      have ed : (y / 61).toInt = y.toInt / 61 := bn_divI (by omega) k61 (by decide)
      rw [e9]
      unfold sX12_who_h79; (repeat first | rw [spl_d] | rw [spl2_d])
      by_cases c : i < 793
      case neg =>
        rw [if_neg (show ¬ y.toInt < 793 from by omega)]
        have : i = 793 := by omega
        subst this
        exact ⟨g, rfl, h17, h18, hfr⟩
      rw [if_pos (show y.toInt < 793 from by omega), eyn, ep, hfr 5 (by decide) (by decide), es]
      have put : ∀ a b : Int32, (a.toInt ≠ 0 ↔ i = st) → (b.toInt ≠ 0 ↔ i / 61 = n) → ∃ g1 : sg_F, sX12_who_l79 d x1 k q y4 (y + 1) (sg_up (sg_up g 17 (sgu (g 17) i a)) 18 (sgu (sg_up g 17 (sgu (g 17) i a) 18) i b)) L = sX12_who_l141 d x1 k 13 y4 0 g1 L ∧ (∀ u : Nat, u < 793 → ((g1 17 u).toInt ≠ 0 ↔ u = st)) ∧ (∀ u : Nat, u < 793 → ((g1 18 u).toInt ≠ 0 ↔ u / 61 = n)) ∧ ∀ r : Nat, r ≠ 17 → r ≠ 18 → g1 r = g0 r := by
        intro a b ha hb
        refine ih (i + 1) (y + 1) _ ey1 (by omega) (by omega) (fun u hu => ?_) (fun u hu => ?_) (fun r r1 r2 => by rw [sg_up_n r2, sg_up_n r1]; exact hfr r r1 r2)
        · rw [sg_up_n (show (17 : Nat) ≠ 18 by decide), sg_up_s]
          by_cases z : u = i
          · rw [z, sgu_s]; exact ha
          · rw [sgu_n z]; exact h17 u (by omega)
        · rw [sg_up_s, sg_up_n (show (18 : Nat) ≠ 17 by decide)]
          by_cases z : u = i
          · rw [z, sgu_s]; exact hb
          · rw [sgu_n z]; exact h18 u (by omega)
      by_cases c2 : y.toInt = (st : Int)
      · rw [if_pos c2]
        exact put 1 0 ⟨fun _ => by omega, fun _ => by decide⟩ ⟨fun z => absurd k0 z, fun z => by exfalso; omega⟩
      rw [if_neg c2]
      by_cases c3 : (y / 61).toInt = y4.toInt
      · rw [if_pos c3]
        exact put 0 1 ⟨fun z => absurd k0 z, fun z => by exfalso; omega⟩ ⟨fun _ => by omega, fun _ => by decide⟩
      · rw [if_neg c3]
        exact put 0 0 ⟨fun z => absurd k0 z, fun z => by exfalso; omega⟩ ⟨fun z => absurd k0 z, fun z => by exfalso; omega⟩
  exact go 794 0 0 g0 (by decide) (by decide) (by decide) (fun u hu => absurd hu (by omega)) (fun u hu => absurd hu (by omega)) (fun _ _ _ => rfl)
theorem mwho_b {m : Nat → Int32} {hl : Bool} {T : Nat → Int32} {n0 p S n : Nat} {E : Nat → Int64} {d x1 k y4 : Int32} {L : sg_L} {g : sg_F} {st K : Nat} (hF : mSn m hl T n0 p S n E d x1 L g) (e4 : y4.toInt = (n : Int)) (es : (g 5 p).toInt = (st : Int)) (hst : st ≤ 60) (hk : k.toInt = (K : Int)) (hKn : K < n) : ∀ u : Nat, u < 32 → (mi (sX12_who_l79 d x1 k 794 y4 0 g L).1 u = true ↔ whoP m p S E st n K u) := by
  have h10 := hF.2.2.2.2.2.2.2.2.2
  have k1 : (1 : Int32).toInt = 1 := by decide
  obtain ⟨g1, a1, a2, a3, a4⟩ := mlay (k := k) hF e4 (by omega) es hst
  have F1 := hF.K a4
  obtain ⟨g2, b1, b2, b3⟩ := mfw3 (k := k) (st := st) hst e4 13 0 0 g1 (by decide) (Nat.zero_le _) (by omega) F1 ⟨fun j u hj hu => by
    have : j = 0 := by omega
    subst this
    rw [show 61 * 0 + u = u from by omega]
    exact a2 u (by omega), fun _ u hu => ⟨fun z => absurd ((a2 _ (by omega)).mp z) (by omega), fun z => by
    obtain ⟨⟨w1, c, w2, -⟩, -⟩ := z
    exact absurd w2 (by omega)⟩, fun j u hj hj2 hu => Classical.byContradiction (fun z => absurd ((a2 _ (by omega)).mp z) (by omega))⟩
  have F2 := F1.K (fun r x _ => b3 r x)
  have e41 : (y4 - 1).toInt = (n : Int) - 1 := (bn_subI (by omega) (by omega)).trans (by omega)
  obtain ⟨g3, c1, c2, c3⟩ := mbw3 (k := k) (p := p) (S := S) (E := E) 13 n (y4 - 1) g2 e41 (Nat.le_refl n) (by omega) F2 ⟨fun j u x1 x2 hu => by
    have : j = n := by omega
    subst this
    rw [b3 18 (by decide), show j - j = 0 from by omega]
    exact ⟨fun _ => trivial, fun _ => (a3 _ (by omega)).mpr (by omega)⟩, fun j u x1 hu => by
    rw [b3 18 (by decide)]
    exact Classical.byContradiction (fun z => absurd ((a3 _ (by omega)).mp z) (by omega))⟩
  have F3 := F2.K (fun r _ x => c3 r x)
  rw [a1, b1, c1]
  exact mbits F3 hk hKn (fun j u x1 x2 => by rw [c3 17 (by decide)]; exact b2.1 j u x1 x2) (fun j u x1 x2 => c2.1 j u (Nat.zero_le _) x1 x2)
theorem t_who {fX fX1 fM fM1 : sg_F} {LX LM : sg_L} {hl : Bool} {T : Nat → Int32} {n : Nat} {d p k r1 r2 : Int32} (h : rAll fX fM LX LM) (hm : mOk (fX 2)) (hq : pOk (fX 2)) (hC : mCx (fX 2) hl T n fM) (e1 : (r1, fX1) = sX11_who d p k fX LX) (e2 : (r2, fM1) = sX12_who d p k fM LM) : r1 = r2 := by
  obtain ⟨hn, hs, he, hy, hst, hid, hI⟩ := h
  have hb : 0 ≤ (fX 1 3).toInt ∧ (fX 1 3).toInt ≤ 8 := hI 1 3
  have h9 : (fX 36 2).toInt ≤ 50 := (hI 36 2).2
  have ek := Int32.toInt_toInt64 k
  have j0 : (0 : Int64).toInt = 0 := by decide
  have j11 : (11 : Int64).toInt = 11 := by decide
  have k0 : (0 : Int32).toInt = 0 := by decide
  obtain ⟨hs1, hs2⟩ := shB hI
  have no : ∀ x : Int32, (r1, fX1) = (x, fX) → (r2, fM1) = (x, fM) → r1 = r2 := fun x e1 e2 => by
    obtain ⟨a1, b1⟩ := Prod.mk.inj e1
    obtain ⟨a2, b2⟩ := Prod.mk.inj e2
    rw [a1, a2]
  unfold sX11_who at e1; (repeat first | rw [spl_d] at e1 | rw [spl2_d] at e1)
  unfold sX12_who at e2; (repeat first | rw [spl_d] at e2 | rw [spl2_d] at e2)
  rw [pX_isShelf, pX_isPart, xref] at e1
  rw [pM_isPart, pM_within, ek, j0, j11] at e2
  by_cases q1 : 0 ≤ d.toInt ∧ d.toInt ≤ 5
  case neg =>
    rw [if_neg q1, if_neg zk0] at e1
    rw [mbytes, if_neg q1, if_neg (by decide), if_pos rfl] at e2
    exact no _ e1 e2
  rw [if_pos q1, if_pos rfl] at e1
  have e2n : (¬ (0 ≤ p.toInt ∧ p.toInt ≤ 2) ∨ ¬ (0 ≤ k.toInt ∧ k.toInt ≤ 11)) → (r2, fM1) = (-1, fM) := fun z => by
    have inner : ∀ x : Int32 × sg_F, (if (if 0 ≤ p.toInt ∧ p.toInt ≤ 2 then (1 : Int32) else 0) = 1 then (if (if 0 ≤ k.toInt ∧ k.toInt ≤ 11 then (1 : Int32) else 0) = 1 then x else (-1, fM)) else (-1, fM)) = (-1, fM) := fun x => by
      by_cases z1 : 0 ≤ p.toInt ∧ p.toInt ≤ 2
      · have z2 : ¬ (0 ≤ k.toInt ∧ k.toInt ≤ 11) := z.resolve_left (fun w => w z1)
        rw [if_pos z1, if_pos rfl, if_neg z2, if_neg zk0]
      · rw [if_neg z1, if_neg zk0]
    by_cases y : sX12_bytesIs d fM LM = 1
    · rw [if_pos y, inner] at e2; exact e2
    · rw [if_neg y] at e2
      by_cases y2 : sX12_bytesIs d fM LM = -1
      · rw [if_pos y2] at e2; exact e2
      · rw [if_neg y2, inner] at e2; exact e2
  by_cases q2 : 0 ≤ p.toInt ∧ p.toInt ≤ 2
  case neg => rw [if_neg q2, if_neg zk0] at e1; exact no _ e1 (e2n (Or.inl q2))
  rw [if_pos q2, if_pos rfl] at e1
  by_cases q3 : 0 ≤ k.toInt ∧ k.toInt ≤ 11
  case neg =>
    refine no (-1) ?_ (e2n (Or.inr q3))
    by_cases c1 : k.toInt < 0
    · rw [if_pos c1] at e1; exact e1
    · rw [if_neg c1, if_neg (by omega)] at e1; exact e1
  rw [if_neg (show ¬ k.toInt < 0 from by omega), if_pos (show k.toInt < 12 from by omega)] at e1
  rw [if_pos q2, if_pos q3, if_pos rfl, if_pos rfl, if_pos rfl, if_pos rfl] at e2
  have cdd := bn_clI q1.1
  have ck := bn_clI q3.1
  have cp := bn_clI q2.1
  have kb := hs2 d.toNatClampNeg (by omega)
  rcases hs.at q1.1 q1.2 with ⟨a, b⟩ | ⟨a, b, c1, c2⟩ | ⟨a, a4, b, c⟩
  · rw [if_pos a, if_neg (by decide)] at e1
    have b5 : sX12_bytesIs d fM LM = -11 := by rw [mbytes, if_pos q1, if_pos (show (fM 22 d.toNatClampNeg).toInt < 0 from by omega)]
    rw [b5, if_neg (by decide), if_neg (by decide)] at e2
    exact no _ e1 e2
  · rw [if_neg (show ¬ (fX (40 + 2 * d.toNatClampNeg) 1).toInt = -1 from by omega), if_neg (show ¬ (fX (40 + 2 * d.toNatClampNeg) 1).toInt = 0 from by omega), if_neg (by decide)] at e1
    have b5 : sX12_bytesIs d fM LM = -12 := by rw [mbytes, if_pos q1, if_neg (show ¬ (fM 22 d.toNatClampNeg).toInt < 0 from by omega), if_neg (show ¬ (fM 22 d.toNatClampNeg).toInt = 50 from by omega)]
    rw [b5, if_neg (by decide), if_neg (by decide)] at e2
    exact no _ e1 e2
  · by_cases z : (fX (40 + 2 * d.toNatClampNeg) 1).toInt = 0
    case neg =>
      rw [if_neg (show ¬ (fX (40 + 2 * d.toNatClampNeg) 1).toInt = -1 from by omega), if_neg z, if_neg (by decide)] at e1
      have b5 : sX12_bytesIs d fM LM = -12 := by rw [mbytes, if_pos q1, if_neg (show ¬ (fM 22 d.toNatClampNeg).toInt < 0 from by omega), if_neg (show ¬ (fM 22 d.toNatClampNeg).toInt = 50 from by omega)]
      rw [b5, if_neg (by decide), if_neg (by decide)] at e2
      exact no _ e1 e2
    rw [if_neg (show ¬ (fX (40 + 2 * d.toNatClampNeg) 1).toInt = -1 from by omega), if_pos z, if_pos k0] at e1
    have b5 : sX12_bytesIs d fM LM = 1 := by rw [mbytes, if_pos q1, if_neg (show ¬ (fM 22 d.toNatClampNeg).toInt < 0 from by omega), if_pos (show (fM 22 d.toNatClampNeg).toInt = 50 from by omega)]
    rw [b5, if_pos rfl] at e2
    have hel := he d.toNatClampNeg (by omega) a
    obtain ⟨S, eS⟩ : ∃ x : Nat, (fX 1 3).toInt = (x : Int) := ⟨(fX 1 3).toInt.toNat, by omega⟩
    have e6 : (fM 0 6).toInt = (S : Int) := by have := hn.1; omega
    have hs3 : 0 ≤ (fX 3 p.toNatClampNeg).toInt ∧ (fX 3 p.toNatClampNeg).toInt ≤ 60 := hI 3 p.toNatClampNeg
    have est : fX 3 p.toNatClampNeg = fM 5 p.toNatClampNeg := hst p.toNatClampNeg (by omega)
    have cst := bn_clI hs3.1
    -- both read the same shifts
    have main : ∀ (N : Nat) (y4 : Int32), y4.toInt = (N : Int) → N ≤ 12 → (((fX (40 + 2 * d.toNatClampNeg) 2).toInt < 12 ∧ (fX (40 + 2 * d.toNatClampNeg) 2).toInt = (N : Int)) ∨ (12 ≤ (fX (40 + 2 * d.toNatClampNeg) 2).toInt ∧ N = 12)) → k.toNatClampNeg < N → (sX6_mayHaveSat d.toNatClampNeg p k fX LX).1 = (sX12_who_l79 d p k 794 y4 0 fM LM).1 := by
      intro N y4 e4 hN hlen hkN
      have xw := xwho (t := d.toNatClampNeg) (L := LX) (x1 := p) (k := k) (p := p.toNatClampNeg) (n := N) (f := fX) rfl hm hq eS (by omega) cp.symm (by omega) ck.symm hkN hN hs3 hlen (by omega)
      have hF : mSn (fX 2) hl T n p.toNatClampNeg S N (LX (41 + 2 * d.toNatClampNeg)) d p LM fM := ⟨hC, hm, hq, cp.symm, by omega, e6, by omega, q1, fun i hi => (hel i (by omega)).symm, hN⟩
      have mw := mwho_b (k := k) hF e4 (st := (fX 3 p.toNatClampNeg).toNatClampNeg) (by rw [← est]; omega) (by omega) ck.symm hkN
      exact mi_ext (fun v hv => by
        have x := xw v hv
        have y := mw v hv
        exact Bool.eq_iff_iff.mpr (x.trans y.symm))
    by_cases z1 : k.toInt < (fX (40 + 2 * d.toNatClampNeg) 2).toInt
    · rw [if_pos z1] at e1
      obtain ⟨a1, b1⟩ := Prod.mk.inj e1
      by_cases z2 : (fM 23 d.toNatClampNeg).toInt < 12
      · rw [if_pos z2, if_pos (show k.toInt < (fM 23 d.toNatClampNeg).toInt from by omega)] at e2
        have c23 := bn_clI (x := fM 23 d.toNatClampNeg) (by omega)
        have e := main (fM 23 d.toNatClampNeg).toNatClampNeg (fM 23 d.toNatClampNeg) (by omega) (by omega) (Or.inl ⟨by omega, by omega⟩) (by omega)
        rw [a1, e, ← e2]
      · rw [if_neg z2] at e2
        have e := main 12 12 (by decide) (by decide) (Or.inr ⟨by omega, rfl⟩) (by omega)
        rw [a1, e, ← e2]
    · rw [if_neg z1] at e1
      rw [if_pos (show (fM 23 d.toNatClampNeg).toInt < 12 from by omega), if_neg (show ¬ k.toInt < (fM 23 d.toNatClampNeg).toInt from by omega)] at e2
      exact no _ e1 e2
