/-! THE LAW: the reference's reading -/
/-- reading stands at a, k are open, no fault -/
def mS (T N : Nat → Int32) (n a : Nat) (k : Int) (g : sg_F) : Prop := (g 0 13).toInt = a ∧ (g 0 14).toInt = n ∧ (g 0 15).toInt = -1 ∧ (g 0 16).toInt = k ∧ (((g 0 12).toInt < 0 ∧ ∀ i : Nat, i < n → g 6 i = T i) ∨ ((g 0 12).toInt = 0 ∧ ∀ i : Nat, i < n → g 7 i = T i)) ∧ (∀ i : Nat, i < 6 → g 8 i = N i) ∧ n ≤ 120 ∧ a ≤ n
def mF (n p : Nat) (g : sg_F) : Prop := (g 0 13).toInt = p ∧ (g 0 14).toInt = n ∧ (g 0 15).toInt = p
/-- all but where reading stands is as it was -/
def mK (g g1 : sg_F) : Prop := ∀ k j : Nat, (k ≠ 0 ∨ (j ≠ 13 ∧ j ≠ 15 ∧ j ≠ 16)) → g1 k j = g k j
theorem mK.rf {g : sg_F} : mK g g := fun _ _ _ => rfl
theorem mK.tr {g g1 g2 : sg_F} (h : mK g g1) (h1 : mK g1 g2) : mK g g2 := fun k j hk => (h1 k j hk).trans (h k j hk)
theorem mK.put {g : sg_F} {j : Nat} {x : Int32} (hj : j = 13 ∨ j = 15 ∨ j = 16) : mK g (sg_up g 0 (sgu (g 0) j x)) := by
  intro k i hk
  by_cases c : k = 0
  · subst c
    rw [sg_up_s, sgu_n (by omega)]
  · rw [sg_up_n c]
abbrev mad (g : sg_F) : sg_F := sg_up g 0 (sgu (g 0) 13 (g 0 13 + 1))
theorem mS.put {T N : Nat → Int32} {n a : Nat} {k k1 : Int} {g : sg_F} {x : Int32} (h : mS T N n a k g) (e : x.toInt = k1) : mS T N n a k1 (sg_up g 0 (sgu (g 0) 16 x)) := by
  obtain ⟨h1, h2, h3, h4, h5, h6, h7, h8⟩ := h
  refine ⟨?_, ?_, ?_, ?_, ?_, fun i hi => ?_, h7, h8⟩
  · rw [sg_up_s, sgu_n (show (13 : Nat) ≠ 16 by decide)]; exact h1
  · rw [sg_up_s, sgu_n (show (14 : Nat) ≠ 16 by decide)]; exact h2
  · rw [sg_up_s, sgu_n (show (15 : Nat) ≠ 16 by decide)]; exact h3
  · rw [sg_up_s, sgu_s]; exact e
  · rw [sg_up_s, sgu_n (show (12 : Nat) ≠ 16 by decide), sg_up_n (show (6 : Nat) ≠ 0 by decide), sg_up_n (show (7 : Nat) ≠ 0 by decide)]; exact h5
  · rw [sg_up_n (show (8 : Nat) ≠ 0 by decide)]; exact h6 i hi
theorem madv {T N : Nat → Int32} {n a : Nat} {k : Int} {g : sg_F} (h : mS T N n a k g) (c : a < n) {x : Int32} (e : x.toInt = (a : Int) + 1) : mS T N n (a + 1) k (sg_up g 0 (sgu (g 0) 13 x)) := by
  obtain ⟨h1, h2, h3, h4, h5, h6, h7, h8⟩ := h
  refine ⟨?_, ?_, ?_, ?_, ?_, fun i hi => ?_, h7, by omega⟩
  · rw [sg_up_s, sgu_s]; omega
  · rw [sg_up_s, sgu_n (show (14 : Nat) ≠ 13 by decide)]; exact h2
  · rw [sg_up_s, sgu_n (show (15 : Nat) ≠ 13 by decide)]; exact h3
  · rw [sg_up_s, sgu_n (show (16 : Nat) ≠ 13 by decide)]; exact h4
  · rw [sg_up_s, sgu_n (show (12 : Nat) ≠ 13 by decide), sg_up_n (show (6 : Nat) ≠ 0 by decide), sg_up_n (show (7 : Nat) ≠ 0 by decide)]; exact h5
  · rw [sg_up_n (show (8 : Nat) ≠ 0 by decide)]; exact h6 i hi
theorem mS.i1 {T N : Nat → Int32} {n a : Nat} {k : Int} {g : sg_F} (h : mS T N n a k g) : (g 0 13 + 1).toInt = (a : Int) + 1 := by
  have k1 : (1 : Int32).toInt = 1 := by decide
  have h1 := h.1
  have h8 := h.2.2.2.2.2.2
  exact (bn_addI (by omega) (by omega)).trans (by omega)
theorem mby {T N : Nat → Int32} {n a : Nat} {k : Int} {g : sg_F} (h : mS T N n a k g) (L : sg_L) : (a < n ∧ sX12_byteAt g L = T a ∧ pnx T n a = (T a).toInt) ∨ (¬ a < n ∧ sX12_byteAt g L = 0 ∧ pnx T n a = -1) := by
  obtain ⟨h1, h2, h3, h4, h5, h6, h7, h8⟩ := h
  unfold sX12_byteAt pnx; (repeat first | rw [spl_d] | rw [spl2_d])
  by_cases c : a < n
  · refine Or.inl ⟨c, ?_, by rw [if_pos c]⟩
    have e := bn_clI (x := g 0 13) (by omega)
    rw [if_pos (show (g 0 13).toInt < (g 0 14).toInt from by omega)]
    rcases h5 with ⟨b, t⟩ | ⟨b, t⟩
    · rw [if_pos b, show (g 0 13).toNatClampNeg = a from by omega, t a c]
    · have e1 : (g 0 12 + g 0 13).toInt = (g 0 12).toInt + (g 0 13).toInt := bn_addI (by omega) (by omega)
      have e2 := bn_clI (x := g 0 12 + g 0 13) (by omega)
      rw [if_neg (show ¬ (g 0 12).toInt < 0 from by omega), show (g 0 12 + g 0 13).toNatClampNeg = a from by omega, t a c]
  · exact Or.inr ⟨c, by rw [if_neg (show ¬ (g 0 13).toInt < (g 0 14).toInt from by omega)], by rw [if_neg c]⟩
theorem mbS {T N : Nat → Int32} {n a : Nat} {k : Int} {g : sg_F} (h : mS T N n a k g) (L : sg_L) (z : Int) (hz : 0 < z) : ((sX12_byteAt g L).toInt = z ↔ pnx T n a = z) := by
  have k0 : (0 : Int32).toInt = 0 := by decide
  rcases mby h L with ⟨c, e1, e2⟩ | ⟨c, e1, e2⟩
  · rw [e1, e2]
  · rw [e1, e2]; omega
theorem mpS {T N : Nat → Int32} {n a : Nat} {k : Int} {g : sg_F} (h : mS T N n a k g) (L : sg_L) (s : Nat) : pS s (sX12_byteAt g L).toInt = pS s (pnx T n a) := by
  have k0 : (0 : Int32).toInt = 0 := by decide
  rcases mby h L with ⟨c, e1, e2⟩ | ⟨c, e1, e2⟩
  · rw [e1, e2]
  · have b1 : ¬ pS s (0 : Int32).toInt = true := by
      intro w
      have b := pS_bin w
      unfold pbin at b
      omega
    have b2 : ¬ pS s (-1) = true := pS_m1 rfl
    rw [e1, e2, Bool.eq_false_iff.mpr b1, Bool.eq_false_iff.mpr b2]
theorem mwr {T N : Nat → Int32} {n a : Nat} {k : Int} {g : sg_F} (h : mS T N n a k g) (L : sg_L) : mF n a (sX12_wrong g L).2 := by
  obtain ⟨h1, h2, h3, h4, h5, h6, h7, h8⟩ := h
  unfold sX12_wrong; (repeat first | rw [spl_d] | rw [spl2_d])
  rw [if_pos (show (g 0 15).toInt < 0 from by omega)]
  show mF n a (sg_up g 0 (sgu (g 0) 15 (g 0 13)))
  refine ⟨?_, ?_, ?_⟩
  · rw [sg_up_s, sgu_n (show (13 : Nat) ≠ 15 by decide)]; exact h1
  · rw [sg_up_s, sgu_n (show (14 : Nat) ≠ 15 by decide)]; exact h2
  · rw [sg_up_s, sgu_s]; exact h1
theorem mwrF {n p : Nat} {g : sg_F} (h : mF n p g) (L : sg_L) : mF n p (sX12_wrong g L).2 := by
  obtain ⟨h1, h2, h3⟩ := h
  unfold sX12_wrong; (repeat first | rw [spl_d] | rw [spl2_d])
  rw [if_neg (show ¬ (g 0 15).toInt < 0 from by omega)]
  show mF n p (sg_up g 0 (sgu (g 0) 15 (g 0 15)))
  refine ⟨?_, ?_, ?_⟩
  · rw [sg_up_s, sgu_n (show (13 : Nat) ≠ 15 by decide)]; exact h1
  · rw [sg_up_s, sgu_n (show (14 : Nat) ≠ 15 by decide)]; exact h2
  · rw [sg_up_s, sgu_s]; exact h3
theorem mwrK (g : sg_F) (L : sg_L) : mK g (sX12_wrong g L).2 := by
  unfold sX12_wrong; (repeat first | rw [spl_d] | rw [spl2_d])
  by_cases c : (g 0 15).toInt < 0
  · rw [if_pos c]; exact mK.put (Or.inr (Or.inl rfl))
  · rw [if_neg c]; exact mK.put (Or.inr (Or.inl rfl))
theorem mF.put {n p : Nat} {g : sg_F} {x : Int32} (h : mF n p g) : mF n p (sg_up g 0 (sgu (g 0) 16 x)) := by
  refine ⟨?_, ?_, ?_⟩
  · rw [sg_up_s, sgu_n (show (13 : Nat) ≠ 16 by decide)]; exact h.1
  · rw [sg_up_s, sgu_n (show (14 : Nat) ≠ 16 by decide)]; exact h.2.1
  · rw [sg_up_s, sgu_n (show (15 : Nat) ≠ 16 by decide)]; exact h.2.2
theorem mS.lt {T N : Nat → Int32} {n a : Nat} {k : Int} {g : sg_F} (h : mS T N n a k g) : (g 0 15).toInt < 0 := by have := h.2.2.1; omega
theorem mF.nlt {n p : Nat} {g : sg_F} (h : mF n p g) : ¬ (g 0 15).toInt < 0 := by have := h.2.2; omega
/-- how reading ends and what it gives: as r says -/
def mG (T N : Nat → Int32) (n : Nat) (k : Int) (r : pR) (o : Int32 × sg_F) : Prop := (r.2.1 = true → o.1 = r.2.2.2 N ∧ mS T N n r.1 k o.2) ∧ (r.2.1 = false → mF n r.1 o.2)
def mO (T N : Nat → Int32) (n : Nat) (k : Int) (op : sg_F → sg_L → Int32 × sg_F) (P : Nat → pR) : Prop := (∀ (g : sg_F) (L : sg_L) (a : Nat), mS T N n a k g → mG T N n k (P a) (op g L)) ∧ (∀ (g : sg_F) (L : sg_L) (p : Nat), mF n p g → mF n p (op g L).2) ∧ ∀ (g : sg_F) (L : sg_L), mK g (op g L).2
theorem mG.bad {T N : Nat → Int32} {n p : Nat} {k : Int} {c : List Int32} {v : pV} {x : Int32} {g : sg_F} (h : mF n p g) : mG T N n k (p, false, c, v) (x, g) := ⟨fun z => (by cases z), fun _ => h⟩
theorem mG.ok {T N : Nat → Int32} {n p : Nat} {k : Int} {c : List Int32} {v : pV} {x : Int32} {g : sg_F} (e : x = v N) (h : mS T N n p k g) : mG T N n k (p, true, c, v) (x, g) := ⟨fun _ => ⟨e, h⟩, fun z => (by cases z)⟩
noncomputable def gMh (s : Nat) (op : sg_F → sg_L → Int32 × sg_F) (rec : Int32 → sg_F → sg_L → Int32 × sg_F) (v : Int32) (g : sg_F) (L : sg_L) : Int32 × sg_F :=
  if (g 0 15).toInt < 0 then (if pS s (sX12_byteAt g L).toInt = true then rec (pwk (sX12_byteAt g L).toInt v (op (mad g) L).1) (op (mad g) L).2 L else (v, g)) else (v, g)
noncomputable def gMl (s : Nat) (op : sg_F → sg_L → Int32 × sg_F) : Nat → Int32 → sg_F → sg_L → Int32 × sg_F
  | 0, _, g, _ => (0, g)
  | m + 1, v, g, L => gMh s op (gMl s op m) v g L
noncomputable def gMc (s : Nat) (op : sg_F → sg_L → Int32 × sg_F) (g : sg_F) (L : sg_L) : Int32 × sg_F := gMl s op 121 (op g L).1 (op g L).2 L
noncomputable def gMo (s : Nat) (op : sg_F → sg_L → Int32 × sg_F) (g : sg_F) (L : sg_L) : Int32 × sg_F :=
  if ((op g L).2 0 15).toInt < 0 then (if pS s (sX12_byteAt (op g L).2 L).toInt = true then (pwk (sX12_byteAt (op g L).2 L).toInt (op g L).1 (op (mad (op g L).2) L).1, (op (mad (op g L).2) L).2) else op g L) else op g L
theorem madK (g : sg_F) : mK g (mad g) := mK.put (Or.inl rfl)
theorem gMl_K {s : Nat} {op : sg_F → sg_L → Int32 × sg_F} (h : ∀ (g : sg_F) (L : sg_L), mK g (op g L).2) (L : sg_L) : ∀ (m : Nat) (v : Int32) (g : sg_F), mK g (gMl s op m v g L).2 := by
  intro m
  induction m with
  | zero => intro v g; exact mK.rf
  | succ m ih =>
    intro v g
    show mK g (gMh s op (gMl s op m) v g L).2
    unfold gMh
    by_cases c1 : (g 0 15).toInt < 0
    · rw [if_pos c1]
      by_cases c2 : pS s (sX12_byteAt g L).toInt = true
      · rw [if_pos c2]; exact ((madK g).tr (h _ _)).tr (ih _ _)
      · rw [if_neg c2]; exact mK.rf
    · rw [if_neg c1]; exact mK.rf
theorem gMl_F {s n p : Nat} {op : sg_F → sg_L → Int32 × sg_F} {L : sg_L} : ∀ (m : Nat) (v : Int32) (g : sg_F), mF n p g → mF n p (gMl s op m v g L).2 := by
  intro m v g h
  cases m with
  | zero => exact h
  | succ m =>
    show mF n p (gMh s op (gMl s op m) v g L).2
    unfold gMh
    rw [if_neg h.nlt]; exact h
theorem gMl_S {T N : Nat → Int32} {n s : Nat} {k : Int} {op : sg_F → sg_L → Int32 × sg_F} {P : Nat → pR} (hop : mO T N n k op P) (hP : ∀ a : Nat, pG n (P a) a) (L : sg_L) : ∀ (m q : Nat) (x : Int32) (g : sg_F) (p : Nat) (c : List Int32) (v : pV), mS T N n p k g → x = v N → n - p < m → n - p < q → mG T N n k (pLoop (pS s) P T n q (p, true, c, v)) (gMl s op m x g L) := by
  intro m
  induction m with
  | zero => intro q x g p c v h e h1 h2; exact absurd h1 (by omega)
  | succ m ih =>
    intro q x g p c v h e h1 h2
    cases q with
    | zero => exact absurd h2 (by omega)
    | succ q =>
      show mG T N n k (pLoop (pS s) P T n (q + 1) (p, true, c, v)) (gMh s op (gMl s op m) x g L)
      unfold pLoop gMh
      rw [if_pos (show ((p, true, c, v) : pR).2.1 = true from rfl), if_pos h.lt]
      show mG T N n k (if pS s (pnx T n p) = true then _ else _) _
      rw [mpS h L s]
      by_cases w : pS s (pnx T n p) = true
      · have sb := pS_bin w
        rw [if_pos w, if_pos w]
        rcases mby h L with ⟨g1, g2, g3⟩ | ⟨-, -, g3⟩
        case inr => exact absurd sb (by unfold pbin; omega)
        have u := madv h g1 h.i1
        have W := hop.1 (mad g) L (p + 1) u
        have G := hP (p + 1)
        rw [g2, ← g3]
        obtain ⟨o, eo⟩ : ∃ z : Int32 × sg_F, z = op (mad g) L := ⟨_, rfl⟩
        rw [← eo] at W ⊢
        obtain ⟨r, er⟩ : ∃ z : pR, z = P (p + 1) := ⟨_, rfl⟩
        rw [← er] at W G ⊢
        obtain ⟨p', r2, c', v'⟩ := r
        cases r2 with
        | true =>
          obtain ⟨w1, w2⟩ := W.1 rfl
          obtain ⟨G1, -⟩ := G rfl
          have G1 : p + 1 < p' := G1
          have w1 : o.1 = v' N := w1
          have w2 : mS T N n p' k o.2 := w2
          exact ih q _ o.2 p' (c ++ c' ++ [T p]) (fun N => pwk (pnx T n p) (v N) (v' N)) w2 (by rw [w1, e]) (by omega) (by omega)
        | false =>
          have w1 := W.2 rfl
          show mG T N n k (pLoop (pS s) P T n q (p', false, c ++ c' ++ [T p], fun N => pwk (pnx T n p) (v N) (v' N))) _
          rw [pLoop_bad rfl]
          exact ⟨fun z => (by cases z), fun _ => gMl_F _ _ _ w1⟩
      · rw [if_neg w, if_neg w]
        exact mG.ok e h
theorem gMc_O {T N : Nat → Int32} {n s : Nat} {k : Int} {op : sg_F → sg_L → Int32 × sg_F} {P : Nat → pR} (hop : mO T N n k op P) (hP : ∀ a : Nat, pG n (P a) a) : mO T N n k (gMc s op) (pChain s 121 P T n) := by
  refine ⟨fun g L a h => ?_, fun g L p h => gMl_F _ _ _ (hop.2.1 g L p h), fun g L => (hop.2.2 g L).tr (gMl_K hop.2.2 L _ _ _)⟩
  have w := hop.1 g L a h
  have hn := h.2.2.2.2.2.2
  unfold gMc pChain
  obtain ⟨r, er⟩ : ∃ z : pR, z = P a := ⟨_, rfl⟩
  rw [← er] at w ⊢
  obtain ⟨r1, r2, r3, r4⟩ := r
  cases r2 with
  | true =>
    obtain ⟨w1, w2⟩ := w.1 rfl
    exact gMl_S hop hP L 121 121 _ _ r1 r3 r4 w2 w1 (by omega) (by omega)
  | false =>
    rw [pLoop_bad rfl]
    exact ⟨fun z => (by cases z), fun _ => gMl_F _ _ _ (w.2 rfl)⟩
theorem gMo_O {T N : Nat → Int32} {n s : Nat} {k : Int} {op : sg_F → sg_L → Int32 × sg_F} {P : Nat → pR} (hop : mO T N n k op P) : mO T N n k (gMo s op) (pChain s 1 P T n) := by
  refine ⟨fun g L a h => ?_, fun g L p h => ?_, fun g L => ?_⟩
  · have w := hop.1 g L a h
    unfold gMo pChain
    obtain ⟨r, er⟩ : ∃ z : pR, z = P a := ⟨_, rfl⟩
    rw [← er] at w ⊢
    obtain ⟨o, eo⟩ : ∃ z : Int32 × sg_F, z = op g L := ⟨_, rfl⟩
    rw [← eo] at w ⊢
    obtain ⟨p, r2, c, v⟩ := r
    cases r2 with
    | true =>
      obtain ⟨w1, w2⟩ := w.1 rfl
      have w1 : o.1 = v N := w1
      have w2 : mS T N n p k o.2 := w2
      rw [if_pos w2.lt, mpS w2 L s]
      show mG T N n k (if true = true then (if pS s (pnx T n p) = true then _ else _) else _) _
      rw [if_pos rfl]
      by_cases q : pS s (pnx T n p) = true
      · have sb := pS_bin q
        rw [if_pos q, if_pos q]
        rcases mby w2 L with ⟨g1, g2, g3⟩ | ⟨-, -, g3⟩
        case inr => exact absurd sb (by unfold pbin; omega)
        have x := hop.1 (mad o.2) L (p + 1) (madv w2 g1 w2.i1)
        rw [g2, ← g3]
        obtain ⟨o', eo'⟩ : ∃ z : Int32 × sg_F, z = op (mad o.2) L := ⟨_, rfl⟩
        rw [← eo'] at x ⊢
        obtain ⟨r', er'⟩ : ∃ z : pR, z = P (p + 1) := ⟨_, rfl⟩
        rw [← er'] at x ⊢
        obtain ⟨p', r2', c', v'⟩ := r'
        cases r2' with
        | true =>
          obtain ⟨x1, x2⟩ := x.1 rfl
          have x1 : o'.1 = v' N := x1
          exact ⟨fun _ => ⟨by show pwk (pnx T n p) o.1 o'.1 = pwk (pnx T n p) (v N) (v' N); rw [w1, x1], x2⟩, fun z => (by cases z)⟩
        | false => exact ⟨fun z => (by cases z), fun _ => x.2 rfl⟩
      · rw [if_neg q, if_neg q]
        exact ⟨fun _ => ⟨w1, w2⟩, fun z => (by cases z)⟩
    | false =>
      have w1 := w.2 rfl
      show mG T N n k (if false = true then _ else _) _
      rw [if_neg Bool.false_ne_true, if_neg (mF.nlt w1)]
      exact ⟨fun z => (by cases z), fun _ => w1⟩
  · have w1 := hop.2.1 g L p h
    unfold gMo
    rw [if_neg w1.nlt]
    exact w1
  · unfold gMo
    by_cases c1 : ((op g L).2 0 15).toInt < 0
    · rw [if_pos c1]
      by_cases c2 : pS s (sX12_byteAt (op g L).2 L).toInt = true
      · rw [if_pos c2]; exact ((hop.2.2 g L).tr (madK _)).tr (hop.2.2 _ _)
      · rw [if_neg c2]; exact hop.2.2 g L
    · rw [if_neg c1]; exact hop.2.2 g L
/-! an operand -/
theorem mtk {T N : Nat → Int32} {n a : Nat} {k : Int} {g : sg_F} (h : mS T N n a k g) (L : sg_L) : (pnx T n a = 41 ∧ sX12_takes_41 g L = (1, mad g)) ∨ (pnx T n a ≠ 41 ∧ sX12_takes_41 g L = (0, g)) := by
  unfold sX12_takes_41; (repeat first | rw [spl_d] | rw [spl2_d])
  rw [if_pos h.lt]
  have e := mbS h L 41 (by decide)
  by_cases c : (sX12_byteAt g L).toInt = 41
  · rw [if_pos c]; exact Or.inl ⟨e.mp c, rfl⟩
  · rw [if_neg c]; exact Or.inr ⟨fun z => c (e.mpr z), rfl⟩
theorem mtkF {n p : Nat} {g : sg_F} (h : mF n p g) (L : sg_L) : sX12_takes_41 g L = (0, g) := by
  unfold sX12_takes_41; (repeat first | rw [spl_d] | rw [spl2_d])
  rw [if_neg h.nlt]
theorem mtkK (g : sg_F) (L : sg_L) : mK g (sX12_takes_41 g L).2 := by
  unfold sX12_takes_41; (repeat first | rw [spl_d] | rw [spl2_d])
  by_cases c : (g 0 15).toInt < 0
  · rw [if_pos c]
    by_cases d : (sX12_byteAt g L).toInt = 41
    · rw [if_pos d]; exact madK g
    · rw [if_neg d]; exact mK.rf
  · rw [if_neg c]; exact mK.rf
theorem mnam (x : Int32) (f : sg_F) (L : sg_L) : ((x.toInt = 100 ∨ x.toInt = 117 ∨ x.toInt = 115 ∨ x.toInt = 119 ∨ x.toInt = 104 ∨ x.toInt = 107) ∧ (sX12_nameOf x f L).toNatClampNeg = pni x.toInt ∧ ¬ (sX12_nameOf x f L).toInt < 0 ∧ pni x.toInt < 6) ∨ (¬ (x.toInt = 100 ∨ x.toInt = 117 ∨ x.toInt = 115 ∨ x.toInt = 119 ∨ x.toInt = 104 ∨ x.toInt = 107) ∧ (sX12_nameOf x f L).toInt < 0) := by
  by_cases h : x.toInt = 100 ∨ x.toInt = 117 ∨ x.toInt = 115 ∨ x.toInt = 119 ∨ x.toInt = 104 ∨ x.toInt = 107
  · refine Or.inl ⟨h, ?_⟩
    rcases h with h | h | h | h | h | h
    · obtain rfl : x = 100 := Int32.toInt_inj.mp (h.trans (by decide)); exact ⟨rfl, by show ¬ (0 : Int32).toInt < 0; decide, by decide⟩
    · obtain rfl : x = 117 := Int32.toInt_inj.mp (h.trans (by decide)); exact ⟨rfl, by show ¬ (1 : Int32).toInt < 0; decide, by decide⟩
    · obtain rfl : x = 115 := Int32.toInt_inj.mp (h.trans (by decide)); exact ⟨rfl, by show ¬ (2 : Int32).toInt < 0; decide, by decide⟩
    · obtain rfl : x = 119 := Int32.toInt_inj.mp (h.trans (by decide)); exact ⟨rfl, by show ¬ (3 : Int32).toInt < 0; decide, by decide⟩
    · obtain rfl : x = 104 := Int32.toInt_inj.mp (h.trans (by decide)); exact ⟨rfl, by show ¬ (4 : Int32).toInt < 0; decide, by decide⟩
    · obtain rfl : x = 107 := Int32.toInt_inj.mp (h.trans (by decide)); exact ⟨rfl, by show ¬ (5 : Int32).toInt < 0; decide, by decide⟩
  · refine Or.inr ⟨h, ?_⟩
    unfold sX12_nameOf
    rw [if_neg (show ¬ x.toInt = 100 from by omega), if_neg (show ¬ x.toInt = 104 from by omega), if_neg (show ¬ x.toInt = 107 from by omega), if_neg (show ¬ x.toInt = 115 from by omega), if_neg (show ¬ x.toInt = 117 from by omega), if_neg (show ¬ x.toInt = 119 from by omega)]
    by_cases c101 : x.toInt = 101
    · rw [if_pos c101]; decide
    rw [if_neg c101]
    by_cases c102 : x.toInt = 102
    · rw [if_pos c102]; decide
    rw [if_neg c102]
    by_cases c103 : x.toInt = 103
    · rw [if_pos c103]; decide
    rw [if_neg c103]
    by_cases c105 : x.toInt = 105
    · rw [if_pos c105]; decide
    rw [if_neg c105]
    by_cases c106 : x.toInt = 106
    · rw [if_pos c106]; decide
    rw [if_neg c106]
    by_cases c108 : x.toInt = 108
    · rw [if_pos c108]; decide
    rw [if_neg c108]
    by_cases c109 : x.toInt = 109
    · rw [if_pos c109]; decide
    rw [if_neg c109]
    by_cases c110 : x.toInt = 110
    · rw [if_pos c110]; decide
    rw [if_neg c110]
    by_cases c111 : x.toInt = 111
    · rw [if_pos c111]; decide
    rw [if_neg c111]
    by_cases c112 : x.toInt = 112
    · rw [if_pos c112]; decide
    rw [if_neg c112]
    by_cases c113 : x.toInt = 113
    · rw [if_pos c113]; decide
    rw [if_neg c113]
    by_cases c114 : x.toInt = 114
    · rw [if_pos c114]; decide
    rw [if_neg c114]
    by_cases c116 : x.toInt = 116
    · rw [if_pos c116]; decide
    rw [if_neg c116]
    by_cases c118 : x.toInt = 118
    · rw [if_pos c118]; decide
    rw [if_neg c118]
    decide
theorem mdig_K (L : sg_L) : ∀ (m : Nat) (v i : Int32) (g : sg_F), mK g (sX12_one_0_l176 m v i g L).2 := by
  intro m
  induction m with
  | zero => intro v i g; exact mK.rf
  | succ m ih =>
    intro v i g
    have b : mK g (sX12_one_0_b229 v i g L).2 := by
      unfold sX12_one_0_b229; (repeat first | rw [spl_d] | rw [spl2_d])
      by_cases c : i.toInt = 0
      · rw [if_pos c]; exact mwrK g L
      · rw [if_neg c]; exact mK.rf
    show mK g (sX12_one_0_h176 (sX12_one_0_l176 m) v i g L).2
    unfold sX12_one_0_h176; (repeat first | rw [spl_d] | rw [spl2_d])
    by_cases c1 : i.toInt < 4
    · rw [if_pos c1]
      by_cases c2 : (sX12_byteAt g L).toInt < 48
      · rw [if_pos c2]; exact b
      rw [if_neg c2]
      by_cases c3 : 57 < (sX12_byteAt g L).toInt
      · rw [if_pos c3]; exact b
      · rw [if_neg c3]; exact (madK g).tr (ih _ _ _)
    · rw [if_neg c1]; exact b
theorem mdig_S {T N : Nat → Int32} {n : Nat} {k : Int} (L : sg_L) : ∀ (m q : Nat) (v i : Int32) (g : sg_F) (a : Nat), mS T N n a k g → i.toInt = 4 - (q : Int) → q ≤ 4 → q < m → (i.toInt ≠ 0 ∨ (48 ≤ pnx T n a ∧ pnx T n a ≤ 57) → (sX12_one_0_l176 m v i g L).1 = (pDig T n q a v).2 ∧ mS T N n (pDig T n q a v).1 k (sX12_one_0_l176 m v i g L).2) ∧ (i.toInt = 0 → ¬ (48 ≤ pnx T n a ∧ pnx T n a ≤ 57) → mF n a (sX12_one_0_l176 m v i g L).2) := by
  intro m
  induction m with
  | zero => intro q v i g a h hi hq hm; exact absurd hm (by omega)
  | succ m ih =>
    intro q v i g a h hi hq hm
    have k0 : (0 : Int32).toInt = 0 := by decide
    have b1 : i.toInt ≠ 0 → (sX12_one_0_b229 v i g L) = (v, g) := by
      intro z
      unfold sX12_one_0_b229; (repeat first | rw [spl_d] | rw [spl2_d])
      rw [if_neg z]
    have b2 : i.toInt = 0 → mF n a (sX12_one_0_b229 v i g L).2 := by
      intro z
      unfold sX12_one_0_b229; (repeat first | rw [spl_d] | rw [spl2_d])
      rw [if_pos z]; exact mwr h L
    have e9 : sX12_one_0_l176 (m + 1) v i g L = sX12_one_0_h176 (sX12_one_0_l176 m) v i g L := rfl
    rw [e9]
    unfold sX12_one_0_h176; (repeat first | rw [spl_d] | rw [spl2_d])
    cases q with
    | zero =>
      rw [if_neg (show ¬ i.toInt < 4 from by omega)]
      exact ⟨fun _ => by rw [b1 (by omega)]; exact ⟨rfl, h⟩, fun z => absurd z (by omega)⟩
    | succ q =>
      rw [if_pos (show i.toInt < 4 from by omega)]
      unfold pDig
      have hb := mby h L
      by_cases c : 48 ≤ pnx T n a ∧ pnx T n a ≤ 57
      · rcases hb with ⟨g1, g2, g3⟩ | ⟨-, -, g3⟩
        case inr => exact absurd c (by omega)
        have k1 : (1 : Int32).toInt = 1 := by decide
        have ei : (i + 1).toInt = i.toInt + 1 := (bn_addI (by omega) (by omega)).trans (by omega)
        rw [g2, if_neg (show ¬ (T a).toInt < 48 from by omega), if_neg (show ¬ 57 < (T a).toInt from by omega), if_pos c, Int32.mul_comm 10 v]
        have w := ih q (v * 10 + T a - 48) (i + 1) (mad g) (a + 1) (madv h g1 h.i1) (by omega) (by omega) (by omega)
        exact ⟨fun _ => w.1 (Or.inl (by omega)), fun _ z => absurd c z⟩
      · have e : (if (sX12_byteAt g L).toInt < 48 then sX12_one_0_b229 v i g L else if 57 < (sX12_byteAt g L).toInt then sX12_one_0_b229 v i g L else sX12_one_0_l176 m (10 * v + sX12_byteAt g L - 48) (i + 1) (mad g) L) = sX12_one_0_b229 v i g L := by
          by_cases c1 : (sX12_byteAt g L).toInt < 48
          · rw [if_pos c1]
          rw [if_neg c1]
          by_cases c2 : 57 < (sX12_byteAt g L).toInt
          · rw [if_pos c2]
          · exfalso
            rcases hb with ⟨-, g2, g3⟩ | ⟨-, g2, g3⟩
            · rw [g2] at c1 c2; omega
            · rw [g2] at c1 c2; omega
        rw [e, if_neg c]
        refine ⟨fun z => ?_, fun z _ => b2 z⟩
        rcases z with z | z
        · rw [b1 z]; exact ⟨rfl, h⟩
        · exact absurd z c
abbrev mop (kk : Int32) (g : sg_F) : sg_F := sg_up (sg_up g 0 (sgu (g 0) 16 kk)) 0 (sgu (sg_up g 0 (sgu (g 0) 16 kk) 0) 13 (g 0 13 + 1))
theorem mopK (kk : Int32) (g : sg_F) : mK g (mop kk g) := (mK.put (Or.inr (Or.inr rfl))).tr (mK.put (Or.inl rfl))
theorem mopS {T N : Nat → Int32} {n a : Nat} {k k1 : Int} {g : sg_F} {kk : Int32} (h : mS T N n a k g) (c : a < n) (e : kk.toInt = k1) : mS T N n (a + 1) k1 (mop kk g) := madv (h.put e) c h.i1
noncomputable def gMcl (res : Int32 → Int32) (o : Int32 × sg_F) (t : Int32 × sg_F) (L : sg_L) : Int32 × sg_F := if t.1 = 1 then (o.1, sg_up t.2 0 (sgu (t.2 0) 16 (res (o.2 0 16)))) else (0, (sX12_wrong t.2 L).2)
noncomputable def gMun (z : Bool) (res : Int32 → Int32) (o : Int32 × sg_F) : Int32 × sg_F := (if z = true then (if o.1.toInt = 0 then 1 else 0) else -o.1, sg_up o.2 0 (sgu (o.2 0) 16 (res (o.2 0 16))))
noncomputable def gMone (kk : Int32) (res : Int32 → Int32) (E O : sg_F → sg_L → Int32 × sg_F) (g : sg_F) (L : sg_L) : Int32 × sg_F :=
  if (g 0 15).toInt < 0 then (
    if (sX12_byteAt g L).toInt = 33 then gMun true res (O (mop kk g) L) else
    if (sX12_byteAt g L).toInt = 45 then gMun false res (O (mop kk g) L) else
    if (sX12_byteAt g L).toInt = 40 then gMcl res (E (mop kk g) L) (sX12_takes_41 (E (mop kk g) L).2 L) L else
    if (sX12_nameOf (sX12_byteAt g L) g L).toInt < 0 then sX12_one_0_l176 5 0 0 g L else (mad g 8 (sX12_nameOf (sX12_byteAt g L) g L).toNatClampNeg, mad g)) else (0, g)
/-- what is read where nothing opens -/
theorem mone_N {T N : Nat → Int32} {n a : Nat} {k : Int} {g : sg_F} {o : Bool} {PE PO : Nat → pR} (h : mS T N n a k g) (L : sg_L) (hn : ¬ (o = true ∧ (pnx T n a = 40 ∨ pnx T n a = 33 ∨ pnx T n a = 45))) : mG T N n k (pOpd o PE PO T n a) (if (sX12_nameOf (sX12_byteAt g L) g L).toInt < 0 then sX12_one_0_l176 5 0 0 g L else (mad g 8 (sX12_nameOf (sX12_byteAt g L) g L).toNatClampNeg, mad g)) := by
  have k0 : (0 : Int32).toInt = 0 := by decide
  have D := mdig_S L 5 4 0 0 g a h (by decide) (Nat.le_refl _) (by omega)
  have hb := mby h L
  unfold pOpd
  by_cases c1 : 48 ≤ pnx T n a ∧ pnx T n a ≤ 57
  · rw [if_pos c1]
    rcases mnam (sX12_byteAt g L) g L with ⟨m1, -⟩ | ⟨-, m2⟩
    · exfalso
      rcases hb with ⟨-, g2, g3⟩ | ⟨-, g2, g3⟩
      · rw [g2] at m1; omega
      · omega
    · rw [if_pos m2]
      have d := D.1 (Or.inr c1)
      exact ⟨fun _ => ⟨d.1, d.2⟩, fun z => (by cases z)⟩
  rw [if_neg c1]
  by_cases c2 : pnx T n a = 100 ∨ pnx T n a = 117 ∨ pnx T n a = 115 ∨ pnx T n a = 119 ∨ pnx T n a = 104 ∨ pnx T n a = 107
  · rw [if_pos c2]
    rcases hb with ⟨g1, g2, g3⟩ | ⟨-, -, g3⟩
    case inr => exact absurd c2 (by omega)
    rcases mnam (sX12_byteAt g L) g L with ⟨m1, m2, m3, m4⟩ | ⟨m1, -⟩
    · rw [if_neg m3, m2]
      rw [g2, ← g3] at m4 ⊢
      refine mG.ok ?_ (madv h g1 h.i1)
      rw [madK g 8 _ (Or.inl (by decide))]
      exact h.2.2.2.2.2.1 _ m4
    · exact absurd (by rw [g2, ← g3]; exact c2) m1
  rw [if_neg c2, if_neg (fun z => hn ⟨z.1, Or.inl z.2⟩), if_neg (fun z => hn ⟨z.1, Or.inr (Or.inl z.2)⟩), if_neg (fun z => hn ⟨z.1, Or.inr (Or.inr z.2)⟩)]
  rcases mnam (sX12_byteAt g L) g L with ⟨m1, -⟩ | ⟨-, m2⟩
  · exfalso
    rcases hb with ⟨-, g2, g3⟩ | ⟨-, g2, g3⟩
    · rw [g2, ← g3] at m1; exact c2 m1
    · rw [g2] at m1; omega
  · rw [if_pos m2]
    exact ⟨fun z => (by cases z), fun _ => D.2 k0 c1⟩
theorem gMone_O {T N : Nat → Int32} {n : Nat} {k k1 : Int} {kk : Int32} {res : Int32 → Int32} {E O : sg_F → sg_L → Int32 × sg_F} {PE PO : Nat → pR} (hE : mO T N n k1 E PE) (hO : mO T N n k1 O PO) (hk : kk.toInt = k1) (hr : ∀ x : Int32, x.toInt = k1 → (res x).toInt = k) : mO T N n k (gMone kk res E O) (pOpd true PE PO T n) := by
  have k0 : (0 : Int32).toInt = 0 := by decide
  refine ⟨fun g L a h => ?_, fun g L p h => ?_, fun g L => ?_⟩
  · unfold gMone
    rw [if_pos h.lt]
    have b33 := mbS h L 33 (by decide)
    have b45 := mbS h L 45 (by decide)
    have b40 := mbS h L 40 (by decide)
    have un : ∀ (z : Bool) (c : List Int32), (pnx T n a ≠ -1) → mG T N n k ((PO (a + 1)).1, (PO (a + 1)).2.1, c, fun N => if z = true then (if ((PO (a + 1)).2.2.2 N).toInt = 0 then 1 else 0) else -((PO (a + 1)).2.2.2 N)) (gMun z res (O (mop kk g) L)) := by
      intro z c hc
      have g1 := (pnx_lt hc).1
      have w := hO.1 (mop kk g) L (a + 1) (mopS h g1 hk)
      obtain ⟨o, eo⟩ : ∃ z : Int32 × sg_F, z = O (mop kk g) L := ⟨_, rfl⟩
      rw [← eo] at w ⊢
      obtain ⟨r, er⟩ : ∃ z : pR, z = PO (a + 1) := ⟨_, rfl⟩
      rw [← er] at w ⊢
      obtain ⟨p, r2, s, v⟩ := r
      unfold gMun
      cases r2 with
      | true =>
        obtain ⟨w1, w2⟩ := w.1 rfl
        have w1 : o.1 = v N := w1
        have w2 : mS T N n p k1 o.2 := w2
        exact mG.ok (by rw [w1]) (w2.put (hr _ w2.2.2.2.1))
      | false => exact mG.bad (mF.put (w.2 rfl))
    by_cases c1 : (sX12_byteAt g L).toInt = 33
    · rw [if_pos c1]
      have e := b33.mp c1
      have u := un true ((PO (a + 1)).2.2.1 ++ [33]) (by omega)
      unfold pOpd
      rw [if_neg (by omega), if_neg (by omega), if_neg (fun z => by have := z.2; omega), if_pos ⟨rfl, e⟩]
      exact u
    rw [if_neg c1]
    by_cases c2 : (sX12_byteAt g L).toInt = 45
    · rw [if_pos c2]
      have e := b45.mp c2
      have u := un false ((PO (a + 1)).2.2.1 ++ [126]) (by omega)
      unfold pOpd
      rw [if_neg (by omega), if_neg (by omega), if_neg (fun z => by have := z.2; omega), if_neg (fun z => by have := z.2; omega), if_pos ⟨rfl, e⟩]
      exact u
    rw [if_neg c2]
    by_cases c3 : (sX12_byteAt g L).toInt = 40
    · rw [if_pos c3]
      have e := b40.mp c3
      have g1 := (pnx_lt (T := T) (n := n) (a := a) (by omega)).1
      unfold pOpd gMcl
      rw [if_neg (by omega), if_neg (by omega), if_pos ⟨rfl, e⟩]
      have w := hE.1 (mop kk g) L (a + 1) (mopS h g1 hk)
      obtain ⟨o, eo⟩ : ∃ z : Int32 × sg_F, z = E (mop kk g) L := ⟨_, rfl⟩
      rw [← eo] at w ⊢
      obtain ⟨r, er⟩ : ∃ z : pR, z = PE (a + 1) := ⟨_, rfl⟩
      rw [← er] at w ⊢
      obtain ⟨p, r2, s, v⟩ := r
      cases r2 with
      | true =>
        obtain ⟨w1, w2⟩ := w.1 rfl
        have w1 : o.1 = v N := w1
        have w2 : mS T N n p k1 o.2 := w2
        show mG T N n k (if true = true then (if pnx T n p = 41 then (p + 1, true, s, v) else pbad p) else pbad p) _
        rw [if_pos rfl]
        rcases mtk w2 L with ⟨t1, t2⟩ | ⟨t1, t2⟩
        · have g2 := (pnx_lt (T := T) (n := n) (a := p) (by omega)).1
          rw [if_pos t1, t2, if_pos rfl]
          exact mG.ok w1 ((madv w2 g2 w2.i1).put (hr _ w2.2.2.2.1))
        · rw [if_neg t1, t2, if_neg zk0]
          exact mG.bad (mwr w2 L)
      | false =>
        have w1 := w.2 rfl
        show mG T N n k (if false = true then _ else pbad p) _
        rw [if_neg Bool.false_ne_true, mtkF w1 L, if_neg zk0]
        exact mG.bad (mwrF w1 L)
    rw [if_neg c3]
    exact mone_N h L (fun z => by
      rcases z.2 with q | q | q
      · exact c3 (b40.mpr q)
      · exact c1 (b33.mpr q)
      · exact c2 (b45.mpr q))
  · unfold gMone
    rw [if_neg h.nlt]; exact h
  · unfold gMone
    by_cases c : (g 0 15).toInt < 0
    case neg => rw [if_neg c]; exact mK.rf
    rw [if_pos c]
    have un : ∀ z : Bool, mK g (gMun z res (O (mop kk g) L)).2 := fun z => ((mopK kk g).tr (hO.2.2 _ L)).tr (mK.put (Or.inr (Or.inr rfl)))
    by_cases c1 : (sX12_byteAt g L).toInt = 33
    · rw [if_pos c1]; exact un true
    rw [if_neg c1]
    by_cases c2 : (sX12_byteAt g L).toInt = 45
    · rw [if_pos c2]; exact un false
    rw [if_neg c2]
    by_cases c3 : (sX12_byteAt g L).toInt = 40
    · rw [if_pos c3]
      have w := ((mopK kk g).tr (hE.2.2 _ L)).tr (mtkK (E (mop kk g) L).2 L)
      unfold gMcl
      by_cases c4 : (sX12_takes_41 (E (mop kk g) L).2 L).1 = 1
      · rw [if_pos c4]; exact w.tr (mK.put (Or.inr (Or.inr rfl)))
      · rw [if_neg c4]; exact w.tr (mwrK _ L)
    rw [if_neg c3]
    by_cases c4 : (sX12_nameOf (sX12_byteAt g L) g L).toInt < 0
    · rw [if_pos c4]; exact mdig_K L _ _ _ _
    · rw [if_neg c4]; exact madK g
/-- nothing opens at the sixth level -/
noncomputable def gMone6 (g : sg_F) (L : sg_L) : Int32 × sg_F :=
  if (g 0 15).toInt < 0 then (if (sX12_byteAt g L).toInt = 33 ∨ (sX12_byteAt g L).toInt = 45 ∨ (sX12_byteAt g L).toInt = 40 then (0, (sX12_wrong g L).2) else
    if (sX12_nameOf (sX12_byteAt g L) g L).toInt < 0 then sX12_one_0_l176 5 0 0 g L else (mad g 8 (sX12_nameOf (sX12_byteAt g L) g L).toNatClampNeg, mad g)) else (0, g)
theorem gMone6_O {T N : Nat → Int32} {n : Nat} {k : Int} : mO T N n k gMone6 (pOpd false pbad pbad T n) := by
  refine ⟨fun g L a h => ?_, fun g L p h => ?_, fun g L => ?_⟩
  · unfold gMone6
    rw [if_pos h.lt]
    have b33 := mbS h L 33 (by decide)
    have b45 := mbS h L 45 (by decide)
    have b40 := mbS h L 40 (by decide)
    by_cases c : (sX12_byteAt g L).toInt = 33 ∨ (sX12_byteAt g L).toInt = 45 ∨ (sX12_byteAt g L).toInt = 40
    · rw [if_pos c]
      have q : pnx T n a = 33 ∨ pnx T n a = 45 ∨ pnx T n a = 40 := by
        rcases c with c | c | c
        · exact Or.inl (b33.mp c)
        · exact Or.inr (Or.inl (b45.mp c))
        · exact Or.inr (Or.inr (b40.mp c))
      unfold pOpd
      rw [if_neg (by omega), if_neg (by omega), if_neg (fun z => absurd z.1 Bool.false_ne_true), if_neg (fun z => absurd z.1 Bool.false_ne_true), if_neg (fun z => absurd z.1 Bool.false_ne_true)]
      exact mG.bad (mwr h L)
    · rw [if_neg c]
      exact mone_N h L (fun z => absurd z.1 Bool.false_ne_true)
  · unfold gMone6
    rw [if_neg h.nlt]; exact h
  · unfold gMone6
    by_cases c : (g 0 15).toInt < 0
    case neg => rw [if_neg c]; exact mK.rf
    rw [if_pos c]
    by_cases c1 : (sX12_byteAt g L).toInt = 33 ∨ (sX12_byteAt g L).toInt = 45 ∨ (sX12_byteAt g L).toInt = 40
    · rw [if_pos c1]; exact mwrK g L
    rw [if_neg c1]
    by_cases c4 : (sX12_nameOf (sX12_byteAt g L) g L).toInt < 0
    · rw [if_pos c4]; exact mdig_K L _ _ _ _
    · rw [if_neg c4]; exact madK g
/-! each level of the reference's reading is so -/
theorem gm_sX12_product_0_l : ∀ (m : Nat) (v : Int32) (g : sg_F) (L : sg_L), sX12_product_0_l10 m v (sX12_byteAt g L) g L = gMl 0 sX12_one_0 m v g L := by
  intro m
  induction m with
  | zero => intro v g L; rfl
  | succ m ih =>
    intro v g L
    show sX12_product_0_h10 (sX12_product_0_l10 m) v (sX12_byteAt g L) g L = gMh 0 sX12_one_0 (gMl 0 sX12_one_0 m) v g L
    unfold sX12_product_0_h10 gMh; (repeat first | rw [spl_d] | rw [spl2_d])
    by_cases c : (g 0 15).toInt < 0
    case neg => rw [if_neg c, if_neg c]
    rw [if_pos c, if_pos c]
    by_cases c42 : (sX12_byteAt g L).toInt = 42
    · rw [if_pos c42, if_pos (pS_0 (by omega)), ih]
      unfold pwk
      rw [if_pos c42]
    rw [if_neg c42]
    by_cases c47 : (sX12_byteAt g L).toInt = 47
    · rw [if_pos c47, if_pos (pS_0 (by omega)), ih, ih]
      unfold pwk
      rw [if_neg c42, if_pos c47]
      by_cases d : (sX12_one_0 (mad g) L).1.toInt = 0
      · rw [if_pos d, if_pos d]
      · rw [if_neg d, if_neg d]
    rw [if_neg c47]
    by_cases c37 : (sX12_byteAt g L).toInt = 37
    · rw [if_pos c37, if_pos (pS_0 (by omega)), ih, ih]
      unfold pwk
      rw [if_neg c42, if_neg c47, if_pos c37]
      by_cases d : (sX12_one_0 (mad g) L).1.toInt = 0
      · rw [if_pos d, if_pos d]
      · rw [if_neg d, if_neg d]
    rw [if_neg c37, if_neg (pS_0n (by omega))]
theorem gm_sX12_product_0 : sX12_product_0 = gMc 0 sX12_one_0 := by
  funext g L
  unfold sX12_product_0 gMc; (repeat first | rw [spl_d] | rw [spl2_d])
  exact gm_sX12_product_0_l _ _ _ _
theorem gm_sX12_sums_0_l : ∀ (m : Nat) (v : Int32) (g : sg_F) (L : sg_L), sX12_sums_0_l5 m v g L = gMl 1 sX12_product_0 m v g L := by
  intro m
  induction m with
  | zero => intro v g L; rfl
  | succ m ih =>
    intro v g L
    show sX12_sums_0_h5 (sX12_sums_0_l5 m) v g L = gMh 1 sX12_product_0 (gMl 1 sX12_product_0 m) v g L
    unfold sX12_sums_0_h5 gMh; (repeat first | rw [spl_d] | rw [spl2_d])
    by_cases c : (g 0 15).toInt < 0
    case neg => rw [if_neg c, if_neg c]
    rw [if_pos c, if_pos c]
    by_cases c43 : (sX12_byteAt g L).toInt = 43
    · rw [if_pos c43, if_pos (pS_1 (by omega)), ih]
      unfold pwk
      rw [if_neg (by omega), if_neg (by omega), if_neg (by omega), if_pos c43]
    rw [if_neg c43]
    by_cases c45 : (sX12_byteAt g L).toInt = 45
    · rw [if_pos c45, if_pos (pS_1 (by omega)), ih]
      unfold pwk
      rw [if_neg (by omega), if_neg (by omega), if_neg (by omega), if_neg c43, if_pos c45]
    rw [if_neg c45, if_neg (pS_1n (by omega))]
theorem gm_sX12_sums_0 : sX12_sums_0 = gMc 1 sX12_product_0 := by
  funext g L
  unfold sX12_sums_0 gMc; (repeat first | rw [spl_d] | rw [spl2_d])
  exact gm_sX12_sums_0_l _ _ _ _
theorem gm_sX12_compared_0 : sX12_compared_0 = gMo 2 sX12_sums_0 := by
  funext g L
  unfold sX12_compared_0 gMo; (repeat first | rw [spl_d] | rw [spl2_d])
  by_cases c : ((sX12_sums_0 g L).2 0 15).toInt < 0
  case neg => rw [if_neg c, if_neg c]
  rw [if_pos c, if_pos c]
  by_cases c60 : (sX12_byteAt (sX12_sums_0 g L).2 L).toInt = 60
  · rw [if_pos c60, if_pos (pS_2 (by omega))]
    rw [pwk_60 c60]
    by_cases d : (sX12_sums_0 g L).1.toInt < (sX12_sums_0 (mad (sX12_sums_0 g L).2) L).1.toInt
    · rw [if_pos d, if_pos d]
    · rw [if_neg d, if_neg d]
  rw [if_neg c60]
  by_cases c61 : (sX12_byteAt (sX12_sums_0 g L).2 L).toInt = 61
  · rw [if_pos c61, if_pos (pS_2 (by omega))]
    rw [pwk_61 c61]
    by_cases d : (sX12_sums_0 g L).1.toInt = (sX12_sums_0 (mad (sX12_sums_0 g L).2) L).1.toInt
    · rw [if_pos d, if_pos d]
    · rw [if_neg d, if_neg d]
  rw [if_neg c61]
  by_cases c62 : (sX12_byteAt (sX12_sums_0 g L).2 L).toInt = 62
  · rw [if_pos c62, if_pos (pS_2 (by omega))]
    rw [pwk_62 c62]
    by_cases d : (sX12_sums_0 (mad (sX12_sums_0 g L).2) L).1.toInt < (sX12_sums_0 g L).1.toInt
    · rw [if_pos d, if_pos d]
    · rw [if_neg d, if_neg d]
  rw [if_neg c62]
  rw [if_neg (pS_2n (by omega))]
theorem gm_sX12_both_0_l : ∀ (m : Nat) (v : Int32) (g : sg_F) (L : sg_L), sX12_both_0_l5 m v g L = gMl 3 sX12_compared_0 m v g L := by
  intro m
  induction m with
  | zero => intro v g L; rfl
  | succ m ih =>
    intro v g L
    show sX12_both_0_h5 (sX12_both_0_l5 m) v g L = gMh 3 sX12_compared_0 (gMl 3 sX12_compared_0 m) v g L
    unfold sX12_both_0_h5 sX12_takes_38 gMh; (repeat first | rw [spl_d] | rw [spl2_d])
    by_cases c : (g 0 15).toInt < 0
    case neg => rw [if_neg c, if_neg c, if_neg zk0]
    rw [if_pos c, if_pos c]
    by_cases s : (sX12_byteAt g L).toInt = 38
    case neg => rw [if_neg s, if_neg (pS_3n s), if_neg zk0]
    rw [if_pos s, if_pos (pS_3 s), if_pos rfl, ih, ih, pwk_38 s]
    by_cases d : v.toInt = 0
    · rw [if_pos d, if_pos d]
    · rw [if_neg d, if_neg d]
      by_cases d2 : (sX12_compared_0 (mad g) L).1.toInt = 0
      · rw [if_pos d2, if_pos d2]
      · rw [if_neg d2, if_neg d2]
theorem gm_sX12_both_0 : sX12_both_0 = gMc 3 sX12_compared_0 := by
  funext g L
  unfold sX12_both_0 gMc; (repeat first | rw [spl_d] | rw [spl2_d])
  exact gm_sX12_both_0_l _ _ _ _
theorem gm_sX12_either_0_l : ∀ (m : Nat) (v : Int32) (g : sg_F) (L : sg_L), sX12_either_0_l5 m v g L = gMl 4 sX12_both_0 m v g L := by
  intro m
  induction m with
  | zero => intro v g L; rfl
  | succ m ih =>
    intro v g L
    show sX12_either_0_h5 (sX12_either_0_l5 m) v g L = gMh 4 sX12_both_0 (gMl 4 sX12_both_0 m) v g L
    unfold sX12_either_0_h5 sX12_takes_124 gMh; (repeat first | rw [spl_d] | rw [spl2_d])
    by_cases c : (g 0 15).toInt < 0
    case neg => rw [if_neg c, if_neg c, if_neg zk0]
    rw [if_pos c, if_pos c]
    by_cases s : (sX12_byteAt g L).toInt = 124
    case neg => rw [if_neg s, if_neg (pS_4n s), if_neg zk0]
    rw [if_pos s, if_pos (pS_4 s), if_pos rfl, ih, ih, pwk_124 s]
    by_cases d : v.toInt = 0
    · rw [if_pos d, if_pos d]
      by_cases d2 : (sX12_both_0 (mad g) L).1.toInt = 0
      · rw [if_pos d2, if_pos d2]
      · rw [if_neg d2, if_neg d2]
    · rw [if_neg d, if_neg d]
theorem gm_sX12_either_0 : sX12_either_0 = gMc 4 sX12_both_0 := by
  funext g L
  unfold sX12_either_0 gMc; (repeat first | rw [spl_d] | rw [spl2_d])
  exact gm_sX12_either_0_l _ _ _ _
theorem gm_sX12_one_0 : sX12_one_0 = gMone 1 (fun x => x - 1) sX12_either_1 sX12_one_1 := by
  funext g L
  unfold sX12_one_0 gMone gMcl gMun; (repeat first | rw [spl_d] | rw [spl2_d])
  by_cases c : (g 0 15).toInt < 0
  case neg => rw [if_neg c, if_neg c]
  rw [if_pos c, if_pos c]
  by_cases c33 : (sX12_byteAt g L).toInt = 33
  · rw [if_pos c33, if_pos c33, if_pos rfl]
    by_cases d : (sX12_one_1 (mop 1 g) L).1.toInt = 0
    · rw [if_pos d, if_pos d]
    · rw [if_neg d, if_neg d]
  rw [if_neg c33, if_neg c33]
  by_cases c45 : (sX12_byteAt g L).toInt = 45
  · rw [if_pos c45, if_pos c45, if_neg Bool.false_ne_true]
  rw [if_neg c45, if_neg c45]
theorem gm_sX12_product_1_l : ∀ (m : Nat) (v : Int32) (g : sg_F) (L : sg_L), sX12_product_1_l10 m v (sX12_byteAt g L) g L = gMl 0 sX12_one_1 m v g L := by
  intro m
  induction m with
  | zero => intro v g L; rfl
  | succ m ih =>
    intro v g L
    show sX12_product_1_h10 (sX12_product_1_l10 m) v (sX12_byteAt g L) g L = gMh 0 sX12_one_1 (gMl 0 sX12_one_1 m) v g L
    unfold sX12_product_1_h10 gMh; (repeat first | rw [spl_d] | rw [spl2_d])
    by_cases c : (g 0 15).toInt < 0
    case neg => rw [if_neg c, if_neg c]
    rw [if_pos c, if_pos c]
    by_cases c42 : (sX12_byteAt g L).toInt = 42
    · rw [if_pos c42, if_pos (pS_0 (by omega)), ih]
      unfold pwk
      rw [if_pos c42]
    rw [if_neg c42]
    by_cases c47 : (sX12_byteAt g L).toInt = 47
    · rw [if_pos c47, if_pos (pS_0 (by omega)), ih, ih]
      unfold pwk
      rw [if_neg c42, if_pos c47]
      by_cases d : (sX12_one_1 (mad g) L).1.toInt = 0
      · rw [if_pos d, if_pos d]
      · rw [if_neg d, if_neg d]
    rw [if_neg c47]
    by_cases c37 : (sX12_byteAt g L).toInt = 37
    · rw [if_pos c37, if_pos (pS_0 (by omega)), ih, ih]
      unfold pwk
      rw [if_neg c42, if_neg c47, if_pos c37]
      by_cases d : (sX12_one_1 (mad g) L).1.toInt = 0
      · rw [if_pos d, if_pos d]
      · rw [if_neg d, if_neg d]
    rw [if_neg c37, if_neg (pS_0n (by omega))]
theorem gm_sX12_product_1 : sX12_product_1 = gMc 0 sX12_one_1 := by
  funext g L
  unfold sX12_product_1 gMc; (repeat first | rw [spl_d] | rw [spl2_d])
  exact gm_sX12_product_1_l _ _ _ _
theorem gm_sX12_sums_1_l : ∀ (m : Nat) (v : Int32) (g : sg_F) (L : sg_L), sX12_sums_1_l5 m v g L = gMl 1 sX12_product_1 m v g L := by
  intro m
  induction m with
  | zero => intro v g L; rfl
  | succ m ih =>
    intro v g L
    show sX12_sums_1_h5 (sX12_sums_1_l5 m) v g L = gMh 1 sX12_product_1 (gMl 1 sX12_product_1 m) v g L
    unfold sX12_sums_1_h5 gMh; (repeat first | rw [spl_d] | rw [spl2_d])
    by_cases c : (g 0 15).toInt < 0
    case neg => rw [if_neg c, if_neg c]
    rw [if_pos c, if_pos c]
    by_cases c43 : (sX12_byteAt g L).toInt = 43
    · rw [if_pos c43, if_pos (pS_1 (by omega)), ih]
      unfold pwk
      rw [if_neg (by omega), if_neg (by omega), if_neg (by omega), if_pos c43]
    rw [if_neg c43]
    by_cases c45 : (sX12_byteAt g L).toInt = 45
    · rw [if_pos c45, if_pos (pS_1 (by omega)), ih]
      unfold pwk
      rw [if_neg (by omega), if_neg (by omega), if_neg (by omega), if_neg c43, if_pos c45]
    rw [if_neg c45, if_neg (pS_1n (by omega))]
theorem gm_sX12_sums_1 : sX12_sums_1 = gMc 1 sX12_product_1 := by
  funext g L
  unfold sX12_sums_1 gMc; (repeat first | rw [spl_d] | rw [spl2_d])
  exact gm_sX12_sums_1_l _ _ _ _
theorem gm_sX12_compared_1 : sX12_compared_1 = gMo 2 sX12_sums_1 := by
  funext g L
  unfold sX12_compared_1 gMo; (repeat first | rw [spl_d] | rw [spl2_d])
  by_cases c : ((sX12_sums_1 g L).2 0 15).toInt < 0
  case neg => rw [if_neg c, if_neg c]
  rw [if_pos c, if_pos c]
  by_cases c60 : (sX12_byteAt (sX12_sums_1 g L).2 L).toInt = 60
  · rw [if_pos c60, if_pos (pS_2 (by omega))]
    rw [pwk_60 c60]
    by_cases d : (sX12_sums_1 g L).1.toInt < (sX12_sums_1 (mad (sX12_sums_1 g L).2) L).1.toInt
    · rw [if_pos d, if_pos d]
    · rw [if_neg d, if_neg d]
  rw [if_neg c60]
  by_cases c61 : (sX12_byteAt (sX12_sums_1 g L).2 L).toInt = 61
  · rw [if_pos c61, if_pos (pS_2 (by omega))]
    rw [pwk_61 c61]
    by_cases d : (sX12_sums_1 g L).1.toInt = (sX12_sums_1 (mad (sX12_sums_1 g L).2) L).1.toInt
    · rw [if_pos d, if_pos d]
    · rw [if_neg d, if_neg d]
  rw [if_neg c61]
  by_cases c62 : (sX12_byteAt (sX12_sums_1 g L).2 L).toInt = 62
  · rw [if_pos c62, if_pos (pS_2 (by omega))]
    rw [pwk_62 c62]
    by_cases d : (sX12_sums_1 (mad (sX12_sums_1 g L).2) L).1.toInt < (sX12_sums_1 g L).1.toInt
    · rw [if_pos d, if_pos d]
    · rw [if_neg d, if_neg d]
  rw [if_neg c62]
  rw [if_neg (pS_2n (by omega))]
theorem gm_sX12_both_1_l : ∀ (m : Nat) (v : Int32) (g : sg_F) (L : sg_L), sX12_both_1_l5 m v g L = gMl 3 sX12_compared_1 m v g L := by
  intro m
  induction m with
  | zero => intro v g L; rfl
  | succ m ih =>
    intro v g L
    show sX12_both_1_h5 (sX12_both_1_l5 m) v g L = gMh 3 sX12_compared_1 (gMl 3 sX12_compared_1 m) v g L
    unfold sX12_both_1_h5 sX12_takes_38 gMh; (repeat first | rw [spl_d] | rw [spl2_d])
    by_cases c : (g 0 15).toInt < 0
    case neg => rw [if_neg c, if_neg c, if_neg zk0]
    rw [if_pos c, if_pos c]
    by_cases s : (sX12_byteAt g L).toInt = 38
    case neg => rw [if_neg s, if_neg (pS_3n s), if_neg zk0]
    rw [if_pos s, if_pos (pS_3 s), if_pos rfl, ih, ih, pwk_38 s]
    by_cases d : v.toInt = 0
    · rw [if_pos d, if_pos d]
    · rw [if_neg d, if_neg d]
      by_cases d2 : (sX12_compared_1 (mad g) L).1.toInt = 0
      · rw [if_pos d2, if_pos d2]
      · rw [if_neg d2, if_neg d2]
theorem gm_sX12_both_1 : sX12_both_1 = gMc 3 sX12_compared_1 := by
  funext g L
  unfold sX12_both_1 gMc; (repeat first | rw [spl_d] | rw [spl2_d])
  exact gm_sX12_both_1_l _ _ _ _
theorem gm_sX12_either_1_l : ∀ (m : Nat) (v : Int32) (g : sg_F) (L : sg_L), sX12_either_1_l5 m v g L = gMl 4 sX12_both_1 m v g L := by
  intro m
  induction m with
  | zero => intro v g L; rfl
  | succ m ih =>
    intro v g L
    show sX12_either_1_h5 (sX12_either_1_l5 m) v g L = gMh 4 sX12_both_1 (gMl 4 sX12_both_1 m) v g L
    unfold sX12_either_1_h5 sX12_takes_124 gMh; (repeat first | rw [spl_d] | rw [spl2_d])
    by_cases c : (g 0 15).toInt < 0
    case neg => rw [if_neg c, if_neg c, if_neg zk0]
    rw [if_pos c, if_pos c]
    by_cases s : (sX12_byteAt g L).toInt = 124
    case neg => rw [if_neg s, if_neg (pS_4n s), if_neg zk0]
    rw [if_pos s, if_pos (pS_4 s), if_pos rfl, ih, ih, pwk_124 s]
    by_cases d : v.toInt = 0
    · rw [if_pos d, if_pos d]
      by_cases d2 : (sX12_both_1 (mad g) L).1.toInt = 0
      · rw [if_pos d2, if_pos d2]
      · rw [if_neg d2, if_neg d2]
    · rw [if_neg d, if_neg d]
theorem gm_sX12_either_1 : sX12_either_1 = gMc 4 sX12_both_1 := by
  funext g L
  unfold sX12_either_1 gMc; (repeat first | rw [spl_d] | rw [spl2_d])
  exact gm_sX12_either_1_l _ _ _ _
theorem gm_d1 : sX12_one_1_l176 = sX12_one_0_l176 := rfl
theorem gm_sX12_one_1 : sX12_one_1 = gMone 2 (fun x => x - 1) sX12_either_2 sX12_one_2 := by
  funext g L
  unfold sX12_one_1 gMone gMcl gMun; (repeat first | rw [spl_d] | rw [spl2_d])
  by_cases c : (g 0 15).toInt < 0
  case neg => rw [if_neg c, if_neg c]
  rw [if_pos c, if_pos c]
  by_cases c33 : (sX12_byteAt g L).toInt = 33
  · rw [if_pos c33, if_pos c33, if_pos rfl]
    by_cases d : (sX12_one_2 (mop 2 g) L).1.toInt = 0
    · rw [if_pos d, if_pos d]
    · rw [if_neg d, if_neg d]
  rw [if_neg c33, if_neg c33]
  by_cases c45 : (sX12_byteAt g L).toInt = 45
  · rw [if_pos c45, if_pos c45, if_neg Bool.false_ne_true]
  rw [if_neg c45, if_neg c45]
  rw [gm_d1]
theorem gm_sX12_product_2_l : ∀ (m : Nat) (v : Int32) (g : sg_F) (L : sg_L), sX12_product_2_l10 m v (sX12_byteAt g L) g L = gMl 0 sX12_one_2 m v g L := by
  intro m
  induction m with
  | zero => intro v g L; rfl
  | succ m ih =>
    intro v g L
    show sX12_product_2_h10 (sX12_product_2_l10 m) v (sX12_byteAt g L) g L = gMh 0 sX12_one_2 (gMl 0 sX12_one_2 m) v g L
    unfold sX12_product_2_h10 gMh; (repeat first | rw [spl_d] | rw [spl2_d])
    by_cases c : (g 0 15).toInt < 0
    case neg => rw [if_neg c, if_neg c]
    rw [if_pos c, if_pos c]
    by_cases c42 : (sX12_byteAt g L).toInt = 42
    · rw [if_pos c42, if_pos (pS_0 (by omega)), ih]
      unfold pwk
      rw [if_pos c42]
    rw [if_neg c42]
    by_cases c47 : (sX12_byteAt g L).toInt = 47
    · rw [if_pos c47, if_pos (pS_0 (by omega)), ih, ih]
      unfold pwk
      rw [if_neg c42, if_pos c47]
      by_cases d : (sX12_one_2 (mad g) L).1.toInt = 0
      · rw [if_pos d, if_pos d]
      · rw [if_neg d, if_neg d]
    rw [if_neg c47]
    by_cases c37 : (sX12_byteAt g L).toInt = 37
    · rw [if_pos c37, if_pos (pS_0 (by omega)), ih, ih]
      unfold pwk
      rw [if_neg c42, if_neg c47, if_pos c37]
      by_cases d : (sX12_one_2 (mad g) L).1.toInt = 0
      · rw [if_pos d, if_pos d]
      · rw [if_neg d, if_neg d]
    rw [if_neg c37, if_neg (pS_0n (by omega))]
theorem gm_sX12_product_2 : sX12_product_2 = gMc 0 sX12_one_2 := by
  funext g L
  unfold sX12_product_2 gMc; (repeat first | rw [spl_d] | rw [spl2_d])
  exact gm_sX12_product_2_l _ _ _ _
theorem gm_sX12_sums_2_l : ∀ (m : Nat) (v : Int32) (g : sg_F) (L : sg_L), sX12_sums_2_l5 m v g L = gMl 1 sX12_product_2 m v g L := by
  intro m
  induction m with
  | zero => intro v g L; rfl
  | succ m ih =>
    intro v g L
    show sX12_sums_2_h5 (sX12_sums_2_l5 m) v g L = gMh 1 sX12_product_2 (gMl 1 sX12_product_2 m) v g L
    unfold sX12_sums_2_h5 gMh; (repeat first | rw [spl_d] | rw [spl2_d])
    by_cases c : (g 0 15).toInt < 0
    case neg => rw [if_neg c, if_neg c]
    rw [if_pos c, if_pos c]
    by_cases c43 : (sX12_byteAt g L).toInt = 43
    · rw [if_pos c43, if_pos (pS_1 (by omega)), ih]
      unfold pwk
      rw [if_neg (by omega), if_neg (by omega), if_neg (by omega), if_pos c43]
    rw [if_neg c43]
    by_cases c45 : (sX12_byteAt g L).toInt = 45
    · rw [if_pos c45, if_pos (pS_1 (by omega)), ih]
      unfold pwk
      rw [if_neg (by omega), if_neg (by omega), if_neg (by omega), if_neg c43, if_pos c45]
    rw [if_neg c45, if_neg (pS_1n (by omega))]
theorem gm_sX12_sums_2 : sX12_sums_2 = gMc 1 sX12_product_2 := by
  funext g L
  unfold sX12_sums_2 gMc; (repeat first | rw [spl_d] | rw [spl2_d])
  exact gm_sX12_sums_2_l _ _ _ _
theorem gm_sX12_compared_2 : sX12_compared_2 = gMo 2 sX12_sums_2 := by
  funext g L
  unfold sX12_compared_2 gMo; (repeat first | rw [spl_d] | rw [spl2_d])
  by_cases c : ((sX12_sums_2 g L).2 0 15).toInt < 0
  case neg => rw [if_neg c, if_neg c]
  rw [if_pos c, if_pos c]
  by_cases c60 : (sX12_byteAt (sX12_sums_2 g L).2 L).toInt = 60
  · rw [if_pos c60, if_pos (pS_2 (by omega))]
    rw [pwk_60 c60]
    by_cases d : (sX12_sums_2 g L).1.toInt < (sX12_sums_2 (mad (sX12_sums_2 g L).2) L).1.toInt
    · rw [if_pos d, if_pos d]
    · rw [if_neg d, if_neg d]
  rw [if_neg c60]
  by_cases c61 : (sX12_byteAt (sX12_sums_2 g L).2 L).toInt = 61
  · rw [if_pos c61, if_pos (pS_2 (by omega))]
    rw [pwk_61 c61]
    by_cases d : (sX12_sums_2 g L).1.toInt = (sX12_sums_2 (mad (sX12_sums_2 g L).2) L).1.toInt
    · rw [if_pos d, if_pos d]
    · rw [if_neg d, if_neg d]
  rw [if_neg c61]
  by_cases c62 : (sX12_byteAt (sX12_sums_2 g L).2 L).toInt = 62
  · rw [if_pos c62, if_pos (pS_2 (by omega))]
    rw [pwk_62 c62]
    by_cases d : (sX12_sums_2 (mad (sX12_sums_2 g L).2) L).1.toInt < (sX12_sums_2 g L).1.toInt
    · rw [if_pos d, if_pos d]
    · rw [if_neg d, if_neg d]
  rw [if_neg c62]
  rw [if_neg (pS_2n (by omega))]
theorem gm_sX12_both_2_l : ∀ (m : Nat) (v : Int32) (g : sg_F) (L : sg_L), sX12_both_2_l5 m v g L = gMl 3 sX12_compared_2 m v g L := by
  intro m
  induction m with
  | zero => intro v g L; rfl
  | succ m ih =>
    intro v g L
    show sX12_both_2_h5 (sX12_both_2_l5 m) v g L = gMh 3 sX12_compared_2 (gMl 3 sX12_compared_2 m) v g L
    unfold sX12_both_2_h5 sX12_takes_38 gMh; (repeat first | rw [spl_d] | rw [spl2_d])
    by_cases c : (g 0 15).toInt < 0
    case neg => rw [if_neg c, if_neg c, if_neg zk0]
    rw [if_pos c, if_pos c]
    by_cases s : (sX12_byteAt g L).toInt = 38
    case neg => rw [if_neg s, if_neg (pS_3n s), if_neg zk0]
    rw [if_pos s, if_pos (pS_3 s), if_pos rfl, ih, ih, pwk_38 s]
    by_cases d : v.toInt = 0
    · rw [if_pos d, if_pos d]
    · rw [if_neg d, if_neg d]
      by_cases d2 : (sX12_compared_2 (mad g) L).1.toInt = 0
      · rw [if_pos d2, if_pos d2]
      · rw [if_neg d2, if_neg d2]
theorem gm_sX12_both_2 : sX12_both_2 = gMc 3 sX12_compared_2 := by
  funext g L
  unfold sX12_both_2 gMc; (repeat first | rw [spl_d] | rw [spl2_d])
  exact gm_sX12_both_2_l _ _ _ _
theorem gm_sX12_either_2_l : ∀ (m : Nat) (v : Int32) (g : sg_F) (L : sg_L), sX12_either_2_l5 m v g L = gMl 4 sX12_both_2 m v g L := by
  intro m
  induction m with
  | zero => intro v g L; rfl
  | succ m ih =>
    intro v g L
    show sX12_either_2_h5 (sX12_either_2_l5 m) v g L = gMh 4 sX12_both_2 (gMl 4 sX12_both_2 m) v g L
    unfold sX12_either_2_h5 sX12_takes_124 gMh; (repeat first | rw [spl_d] | rw [spl2_d])
    by_cases c : (g 0 15).toInt < 0
    case neg => rw [if_neg c, if_neg c, if_neg zk0]
    rw [if_pos c, if_pos c]
    by_cases s : (sX12_byteAt g L).toInt = 124
    case neg => rw [if_neg s, if_neg (pS_4n s), if_neg zk0]
    rw [if_pos s, if_pos (pS_4 s), if_pos rfl, ih, ih, pwk_124 s]
    by_cases d : v.toInt = 0
    · rw [if_pos d, if_pos d]
      by_cases d2 : (sX12_both_2 (mad g) L).1.toInt = 0
      · rw [if_pos d2, if_pos d2]
      · rw [if_neg d2, if_neg d2]
    · rw [if_neg d, if_neg d]
theorem gm_sX12_either_2 : sX12_either_2 = gMc 4 sX12_both_2 := by
  funext g L
  unfold sX12_either_2 gMc; (repeat first | rw [spl_d] | rw [spl2_d])
  exact gm_sX12_either_2_l _ _ _ _
theorem gm_d2 : sX12_one_2_l176 = sX12_one_0_l176 := rfl
theorem gm_sX12_one_2 : sX12_one_2 = gMone 3 (fun x => x - 1) sX12_either_3 sX12_one_3 := by
  funext g L
  unfold sX12_one_2 gMone gMcl gMun; (repeat first | rw [spl_d] | rw [spl2_d])
  by_cases c : (g 0 15).toInt < 0
  case neg => rw [if_neg c, if_neg c]
  rw [if_pos c, if_pos c]
  by_cases c33 : (sX12_byteAt g L).toInt = 33
  · rw [if_pos c33, if_pos c33, if_pos rfl]
    by_cases d : (sX12_one_3 (mop 3 g) L).1.toInt = 0
    · rw [if_pos d, if_pos d]
    · rw [if_neg d, if_neg d]
  rw [if_neg c33, if_neg c33]
  by_cases c45 : (sX12_byteAt g L).toInt = 45
  · rw [if_pos c45, if_pos c45, if_neg Bool.false_ne_true]
  rw [if_neg c45, if_neg c45]
  rw [gm_d2]
theorem gm_sX12_product_3_l : ∀ (m : Nat) (v : Int32) (g : sg_F) (L : sg_L), sX12_product_3_l10 m v (sX12_byteAt g L) g L = gMl 0 sX12_one_3 m v g L := by
  intro m
  induction m with
  | zero => intro v g L; rfl
  | succ m ih =>
    intro v g L
    show sX12_product_3_h10 (sX12_product_3_l10 m) v (sX12_byteAt g L) g L = gMh 0 sX12_one_3 (gMl 0 sX12_one_3 m) v g L
    unfold sX12_product_3_h10 gMh; (repeat first | rw [spl_d] | rw [spl2_d])
    by_cases c : (g 0 15).toInt < 0
    case neg => rw [if_neg c, if_neg c]
    rw [if_pos c, if_pos c]
    by_cases c42 : (sX12_byteAt g L).toInt = 42
    · rw [if_pos c42, if_pos (pS_0 (by omega)), ih]
      unfold pwk
      rw [if_pos c42]
    rw [if_neg c42]
    by_cases c47 : (sX12_byteAt g L).toInt = 47
    · rw [if_pos c47, if_pos (pS_0 (by omega)), ih, ih]
      unfold pwk
      rw [if_neg c42, if_pos c47]
      by_cases d : (sX12_one_3 (mad g) L).1.toInt = 0
      · rw [if_pos d, if_pos d]
      · rw [if_neg d, if_neg d]
    rw [if_neg c47]
    by_cases c37 : (sX12_byteAt g L).toInt = 37
    · rw [if_pos c37, if_pos (pS_0 (by omega)), ih, ih]
      unfold pwk
      rw [if_neg c42, if_neg c47, if_pos c37]
      by_cases d : (sX12_one_3 (mad g) L).1.toInt = 0
      · rw [if_pos d, if_pos d]
      · rw [if_neg d, if_neg d]
    rw [if_neg c37, if_neg (pS_0n (by omega))]
theorem gm_sX12_product_3 : sX12_product_3 = gMc 0 sX12_one_3 := by
  funext g L
  unfold sX12_product_3 gMc; (repeat first | rw [spl_d] | rw [spl2_d])
  exact gm_sX12_product_3_l _ _ _ _
theorem gm_sX12_sums_3_l : ∀ (m : Nat) (v : Int32) (g : sg_F) (L : sg_L), sX12_sums_3_l5 m v g L = gMl 1 sX12_product_3 m v g L := by
  intro m
  induction m with
  | zero => intro v g L; rfl
  | succ m ih =>
    intro v g L
    show sX12_sums_3_h5 (sX12_sums_3_l5 m) v g L = gMh 1 sX12_product_3 (gMl 1 sX12_product_3 m) v g L
    unfold sX12_sums_3_h5 gMh; (repeat first | rw [spl_d] | rw [spl2_d])
    by_cases c : (g 0 15).toInt < 0
    case neg => rw [if_neg c, if_neg c]
    rw [if_pos c, if_pos c]
    by_cases c43 : (sX12_byteAt g L).toInt = 43
    · rw [if_pos c43, if_pos (pS_1 (by omega)), ih]
      unfold pwk
      rw [if_neg (by omega), if_neg (by omega), if_neg (by omega), if_pos c43]
    rw [if_neg c43]
    by_cases c45 : (sX12_byteAt g L).toInt = 45
    · rw [if_pos c45, if_pos (pS_1 (by omega)), ih]
      unfold pwk
      rw [if_neg (by omega), if_neg (by omega), if_neg (by omega), if_neg c43, if_pos c45]
    rw [if_neg c45, if_neg (pS_1n (by omega))]
theorem gm_sX12_sums_3 : sX12_sums_3 = gMc 1 sX12_product_3 := by
  funext g L
  unfold sX12_sums_3 gMc; (repeat first | rw [spl_d] | rw [spl2_d])
  exact gm_sX12_sums_3_l _ _ _ _
theorem gm_sX12_compared_3 : sX12_compared_3 = gMo 2 sX12_sums_3 := by
  funext g L
  unfold sX12_compared_3 gMo; (repeat first | rw [spl_d] | rw [spl2_d])
  by_cases c : ((sX12_sums_3 g L).2 0 15).toInt < 0
  case neg => rw [if_neg c, if_neg c]
  rw [if_pos c, if_pos c]
  by_cases c60 : (sX12_byteAt (sX12_sums_3 g L).2 L).toInt = 60
  · rw [if_pos c60, if_pos (pS_2 (by omega))]
    rw [pwk_60 c60]
    by_cases d : (sX12_sums_3 g L).1.toInt < (sX12_sums_3 (mad (sX12_sums_3 g L).2) L).1.toInt
    · rw [if_pos d, if_pos d]
    · rw [if_neg d, if_neg d]
  rw [if_neg c60]
  by_cases c61 : (sX12_byteAt (sX12_sums_3 g L).2 L).toInt = 61
  · rw [if_pos c61, if_pos (pS_2 (by omega))]
    rw [pwk_61 c61]
    by_cases d : (sX12_sums_3 g L).1.toInt = (sX12_sums_3 (mad (sX12_sums_3 g L).2) L).1.toInt
    · rw [if_pos d, if_pos d]
    · rw [if_neg d, if_neg d]
  rw [if_neg c61]
  by_cases c62 : (sX12_byteAt (sX12_sums_3 g L).2 L).toInt = 62
  · rw [if_pos c62, if_pos (pS_2 (by omega))]
    rw [pwk_62 c62]
    by_cases d : (sX12_sums_3 (mad (sX12_sums_3 g L).2) L).1.toInt < (sX12_sums_3 g L).1.toInt
    · rw [if_pos d, if_pos d]
    · rw [if_neg d, if_neg d]
  rw [if_neg c62]
  rw [if_neg (pS_2n (by omega))]
theorem gm_sX12_both_3_l : ∀ (m : Nat) (v : Int32) (g : sg_F) (L : sg_L), sX12_both_3_l5 m v g L = gMl 3 sX12_compared_3 m v g L := by
  intro m
  induction m with
  | zero => intro v g L; rfl
  | succ m ih =>
    intro v g L
    show sX12_both_3_h5 (sX12_both_3_l5 m) v g L = gMh 3 sX12_compared_3 (gMl 3 sX12_compared_3 m) v g L
    unfold sX12_both_3_h5 sX12_takes_38 gMh; (repeat first | rw [spl_d] | rw [spl2_d])
    by_cases c : (g 0 15).toInt < 0
    case neg => rw [if_neg c, if_neg c, if_neg zk0]
    rw [if_pos c, if_pos c]
    by_cases s : (sX12_byteAt g L).toInt = 38
    case neg => rw [if_neg s, if_neg (pS_3n s), if_neg zk0]
    rw [if_pos s, if_pos (pS_3 s), if_pos rfl, ih, ih, pwk_38 s]
    by_cases d : v.toInt = 0
    · rw [if_pos d, if_pos d]
    · rw [if_neg d, if_neg d]
      by_cases d2 : (sX12_compared_3 (mad g) L).1.toInt = 0
      · rw [if_pos d2, if_pos d2]
      · rw [if_neg d2, if_neg d2]
theorem gm_sX12_both_3 : sX12_both_3 = gMc 3 sX12_compared_3 := by
  funext g L
  unfold sX12_both_3 gMc; (repeat first | rw [spl_d] | rw [spl2_d])
  exact gm_sX12_both_3_l _ _ _ _
theorem gm_sX12_either_3_l : ∀ (m : Nat) (v : Int32) (g : sg_F) (L : sg_L), sX12_either_3_l5 m v g L = gMl 4 sX12_both_3 m v g L := by
  intro m
  induction m with
  | zero => intro v g L; rfl
  | succ m ih =>
    intro v g L
    show sX12_either_3_h5 (sX12_either_3_l5 m) v g L = gMh 4 sX12_both_3 (gMl 4 sX12_both_3 m) v g L
    unfold sX12_either_3_h5 sX12_takes_124 gMh; (repeat first | rw [spl_d] | rw [spl2_d])
    by_cases c : (g 0 15).toInt < 0
    case neg => rw [if_neg c, if_neg c, if_neg zk0]
    rw [if_pos c, if_pos c]
    by_cases s : (sX12_byteAt g L).toInt = 124
    case neg => rw [if_neg s, if_neg (pS_4n s), if_neg zk0]
    rw [if_pos s, if_pos (pS_4 s), if_pos rfl, ih, ih, pwk_124 s]
    by_cases d : v.toInt = 0
    · rw [if_pos d, if_pos d]
      by_cases d2 : (sX12_both_3 (mad g) L).1.toInt = 0
      · rw [if_pos d2, if_pos d2]
      · rw [if_neg d2, if_neg d2]
    · rw [if_neg d, if_neg d]
theorem gm_sX12_either_3 : sX12_either_3 = gMc 4 sX12_both_3 := by
  funext g L
  unfold sX12_either_3 gMc; (repeat first | rw [spl_d] | rw [spl2_d])
  exact gm_sX12_either_3_l _ _ _ _
theorem gm_d3 : sX12_one_3_l176 = sX12_one_0_l176 := rfl
theorem gm_sX12_one_3 : sX12_one_3 = gMone 4 (fun x => x - 1) sX12_either_4 sX12_one_4 := by
  funext g L
  unfold sX12_one_3 gMone gMcl gMun; (repeat first | rw [spl_d] | rw [spl2_d])
  by_cases c : (g 0 15).toInt < 0
  case neg => rw [if_neg c, if_neg c]
  rw [if_pos c, if_pos c]
  by_cases c33 : (sX12_byteAt g L).toInt = 33
  · rw [if_pos c33, if_pos c33, if_pos rfl]
    by_cases d : (sX12_one_4 (mop 4 g) L).1.toInt = 0
    · rw [if_pos d, if_pos d]
    · rw [if_neg d, if_neg d]
  rw [if_neg c33, if_neg c33]
  by_cases c45 : (sX12_byteAt g L).toInt = 45
  · rw [if_pos c45, if_pos c45, if_neg Bool.false_ne_true]
  rw [if_neg c45, if_neg c45]
  rw [gm_d3]
theorem gm_sX12_product_4_l : ∀ (m : Nat) (v : Int32) (g : sg_F) (L : sg_L), sX12_product_4_l10 m v (sX12_byteAt g L) g L = gMl 0 sX12_one_4 m v g L := by
  intro m
  induction m with
  | zero => intro v g L; rfl
  | succ m ih =>
    intro v g L
    show sX12_product_4_h10 (sX12_product_4_l10 m) v (sX12_byteAt g L) g L = gMh 0 sX12_one_4 (gMl 0 sX12_one_4 m) v g L
    unfold sX12_product_4_h10 gMh; (repeat first | rw [spl_d] | rw [spl2_d])
    by_cases c : (g 0 15).toInt < 0
    case neg => rw [if_neg c, if_neg c]
    rw [if_pos c, if_pos c]
    by_cases c42 : (sX12_byteAt g L).toInt = 42
    · rw [if_pos c42, if_pos (pS_0 (by omega)), ih]
      unfold pwk
      rw [if_pos c42]
    rw [if_neg c42]
    by_cases c47 : (sX12_byteAt g L).toInt = 47
    · rw [if_pos c47, if_pos (pS_0 (by omega)), ih, ih]
      unfold pwk
      rw [if_neg c42, if_pos c47]
      by_cases d : (sX12_one_4 (mad g) L).1.toInt = 0
      · rw [if_pos d, if_pos d]
      · rw [if_neg d, if_neg d]
    rw [if_neg c47]
    by_cases c37 : (sX12_byteAt g L).toInt = 37
    · rw [if_pos c37, if_pos (pS_0 (by omega)), ih, ih]
      unfold pwk
      rw [if_neg c42, if_neg c47, if_pos c37]
      by_cases d : (sX12_one_4 (mad g) L).1.toInt = 0
      · rw [if_pos d, if_pos d]
      · rw [if_neg d, if_neg d]
    rw [if_neg c37, if_neg (pS_0n (by omega))]
theorem gm_sX12_product_4 : sX12_product_4 = gMc 0 sX12_one_4 := by
  funext g L
  unfold sX12_product_4 gMc; (repeat first | rw [spl_d] | rw [spl2_d])
  exact gm_sX12_product_4_l _ _ _ _
theorem gm_sX12_sums_4_l : ∀ (m : Nat) (v : Int32) (g : sg_F) (L : sg_L), sX12_sums_4_l5 m v g L = gMl 1 sX12_product_4 m v g L := by
  intro m
  induction m with
  | zero => intro v g L; rfl
  | succ m ih =>
    intro v g L
    show sX12_sums_4_h5 (sX12_sums_4_l5 m) v g L = gMh 1 sX12_product_4 (gMl 1 sX12_product_4 m) v g L
    unfold sX12_sums_4_h5 gMh; (repeat first | rw [spl_d] | rw [spl2_d])
    by_cases c : (g 0 15).toInt < 0
    case neg => rw [if_neg c, if_neg c]
    rw [if_pos c, if_pos c]
    by_cases c43 : (sX12_byteAt g L).toInt = 43
    · rw [if_pos c43, if_pos (pS_1 (by omega)), ih]
      unfold pwk
      rw [if_neg (by omega), if_neg (by omega), if_neg (by omega), if_pos c43]
    rw [if_neg c43]
    by_cases c45 : (sX12_byteAt g L).toInt = 45
    · rw [if_pos c45, if_pos (pS_1 (by omega)), ih]
      unfold pwk
      rw [if_neg (by omega), if_neg (by omega), if_neg (by omega), if_neg c43, if_pos c45]
    rw [if_neg c45, if_neg (pS_1n (by omega))]
theorem gm_sX12_sums_4 : sX12_sums_4 = gMc 1 sX12_product_4 := by
  funext g L
  unfold sX12_sums_4 gMc; (repeat first | rw [spl_d] | rw [spl2_d])
  exact gm_sX12_sums_4_l _ _ _ _
theorem gm_sX12_compared_4 : sX12_compared_4 = gMo 2 sX12_sums_4 := by
  funext g L
  unfold sX12_compared_4 gMo; (repeat first | rw [spl_d] | rw [spl2_d])
  by_cases c : ((sX12_sums_4 g L).2 0 15).toInt < 0
  case neg => rw [if_neg c, if_neg c]
  rw [if_pos c, if_pos c]
  by_cases c60 : (sX12_byteAt (sX12_sums_4 g L).2 L).toInt = 60
  · rw [if_pos c60, if_pos (pS_2 (by omega))]
    rw [pwk_60 c60]
    by_cases d : (sX12_sums_4 g L).1.toInt < (sX12_sums_4 (mad (sX12_sums_4 g L).2) L).1.toInt
    · rw [if_pos d, if_pos d]
    · rw [if_neg d, if_neg d]
  rw [if_neg c60]
  by_cases c61 : (sX12_byteAt (sX12_sums_4 g L).2 L).toInt = 61
  · rw [if_pos c61, if_pos (pS_2 (by omega))]
    rw [pwk_61 c61]
    by_cases d : (sX12_sums_4 g L).1.toInt = (sX12_sums_4 (mad (sX12_sums_4 g L).2) L).1.toInt
    · rw [if_pos d, if_pos d]
    · rw [if_neg d, if_neg d]
  rw [if_neg c61]
  by_cases c62 : (sX12_byteAt (sX12_sums_4 g L).2 L).toInt = 62
  · rw [if_pos c62, if_pos (pS_2 (by omega))]
    rw [pwk_62 c62]
    by_cases d : (sX12_sums_4 (mad (sX12_sums_4 g L).2) L).1.toInt < (sX12_sums_4 g L).1.toInt
    · rw [if_pos d, if_pos d]
    · rw [if_neg d, if_neg d]
  rw [if_neg c62]
  rw [if_neg (pS_2n (by omega))]
theorem gm_sX12_both_4_l : ∀ (m : Nat) (v : Int32) (g : sg_F) (L : sg_L), sX12_both_4_l5 m v g L = gMl 3 sX12_compared_4 m v g L := by
  intro m
  induction m with
  | zero => intro v g L; rfl
  | succ m ih =>
    intro v g L
    show sX12_both_4_h5 (sX12_both_4_l5 m) v g L = gMh 3 sX12_compared_4 (gMl 3 sX12_compared_4 m) v g L
    unfold sX12_both_4_h5 sX12_takes_38 gMh; (repeat first | rw [spl_d] | rw [spl2_d])
    by_cases c : (g 0 15).toInt < 0
    case neg => rw [if_neg c, if_neg c, if_neg zk0]
    rw [if_pos c, if_pos c]
    by_cases s : (sX12_byteAt g L).toInt = 38
    case neg => rw [if_neg s, if_neg (pS_3n s), if_neg zk0]
    rw [if_pos s, if_pos (pS_3 s), if_pos rfl, ih, ih, pwk_38 s]
    by_cases d : v.toInt = 0
    · rw [if_pos d, if_pos d]
    · rw [if_neg d, if_neg d]
      by_cases d2 : (sX12_compared_4 (mad g) L).1.toInt = 0
      · rw [if_pos d2, if_pos d2]
      · rw [if_neg d2, if_neg d2]
theorem gm_sX12_both_4 : sX12_both_4 = gMc 3 sX12_compared_4 := by
  funext g L
  unfold sX12_both_4 gMc; (repeat first | rw [spl_d] | rw [spl2_d])
  exact gm_sX12_both_4_l _ _ _ _
theorem gm_sX12_either_4_l : ∀ (m : Nat) (v : Int32) (g : sg_F) (L : sg_L), sX12_either_4_l5 m v g L = gMl 4 sX12_both_4 m v g L := by
  intro m
  induction m with
  | zero => intro v g L; rfl
  | succ m ih =>
    intro v g L
    show sX12_either_4_h5 (sX12_either_4_l5 m) v g L = gMh 4 sX12_both_4 (gMl 4 sX12_both_4 m) v g L
    unfold sX12_either_4_h5 sX12_takes_124 gMh; (repeat first | rw [spl_d] | rw [spl2_d])
    by_cases c : (g 0 15).toInt < 0
    case neg => rw [if_neg c, if_neg c, if_neg zk0]
    rw [if_pos c, if_pos c]
    by_cases s : (sX12_byteAt g L).toInt = 124
    case neg => rw [if_neg s, if_neg (pS_4n s), if_neg zk0]
    rw [if_pos s, if_pos (pS_4 s), if_pos rfl, ih, ih, pwk_124 s]
    by_cases d : v.toInt = 0
    · rw [if_pos d, if_pos d]
      by_cases d2 : (sX12_both_4 (mad g) L).1.toInt = 0
      · rw [if_pos d2, if_pos d2]
      · rw [if_neg d2, if_neg d2]
    · rw [if_neg d, if_neg d]
theorem gm_sX12_either_4 : sX12_either_4 = gMc 4 sX12_both_4 := by
  funext g L
  unfold sX12_either_4 gMc; (repeat first | rw [spl_d] | rw [spl2_d])
  exact gm_sX12_either_4_l _ _ _ _
theorem gm_d4 : sX12_one_4_l176 = sX12_one_0_l176 := rfl
theorem gm_sX12_one_4 : sX12_one_4 = gMone 5 (fun x => x - 1) sX12_either_5 sX12_one_5 := by
  funext g L
  unfold sX12_one_4 gMone gMcl gMun; (repeat first | rw [spl_d] | rw [spl2_d])
  by_cases c : (g 0 15).toInt < 0
  case neg => rw [if_neg c, if_neg c]
  rw [if_pos c, if_pos c]
  by_cases c33 : (sX12_byteAt g L).toInt = 33
  · rw [if_pos c33, if_pos c33, if_pos rfl]
    by_cases d : (sX12_one_5 (mop 5 g) L).1.toInt = 0
    · rw [if_pos d, if_pos d]
    · rw [if_neg d, if_neg d]
  rw [if_neg c33, if_neg c33]
  by_cases c45 : (sX12_byteAt g L).toInt = 45
  · rw [if_pos c45, if_pos c45, if_neg Bool.false_ne_true]
  rw [if_neg c45, if_neg c45]
  rw [gm_d4]
theorem gm_sX12_product_5_l : ∀ (m : Nat) (v : Int32) (g : sg_F) (L : sg_L), sX12_product_5_l10 m v (sX12_byteAt g L) g L = gMl 0 sX12_one_5 m v g L := by
  intro m
  induction m with
  | zero => intro v g L; rfl
  | succ m ih =>
    intro v g L
    show sX12_product_5_h10 (sX12_product_5_l10 m) v (sX12_byteAt g L) g L = gMh 0 sX12_one_5 (gMl 0 sX12_one_5 m) v g L
    unfold sX12_product_5_h10 gMh; (repeat first | rw [spl_d] | rw [spl2_d])
    by_cases c : (g 0 15).toInt < 0
    case neg => rw [if_neg c, if_neg c]
    rw [if_pos c, if_pos c]
    by_cases c42 : (sX12_byteAt g L).toInt = 42
    · rw [if_pos c42, if_pos (pS_0 (by omega)), ih]
      unfold pwk
      rw [if_pos c42]
    rw [if_neg c42]
    by_cases c47 : (sX12_byteAt g L).toInt = 47
    · rw [if_pos c47, if_pos (pS_0 (by omega)), ih, ih]
      unfold pwk
      rw [if_neg c42, if_pos c47]
      by_cases d : (sX12_one_5 (mad g) L).1.toInt = 0
      · rw [if_pos d, if_pos d]
      · rw [if_neg d, if_neg d]
    rw [if_neg c47]
    by_cases c37 : (sX12_byteAt g L).toInt = 37
    · rw [if_pos c37, if_pos (pS_0 (by omega)), ih, ih]
      unfold pwk
      rw [if_neg c42, if_neg c47, if_pos c37]
      by_cases d : (sX12_one_5 (mad g) L).1.toInt = 0
      · rw [if_pos d, if_pos d]
      · rw [if_neg d, if_neg d]
    rw [if_neg c37, if_neg (pS_0n (by omega))]
theorem gm_sX12_product_5 : sX12_product_5 = gMc 0 sX12_one_5 := by
  funext g L
  unfold sX12_product_5 gMc; (repeat first | rw [spl_d] | rw [spl2_d])
  exact gm_sX12_product_5_l _ _ _ _
theorem gm_sX12_sums_5_l : ∀ (m : Nat) (v : Int32) (g : sg_F) (L : sg_L), sX12_sums_5_l5 m v g L = gMl 1 sX12_product_5 m v g L := by
  intro m
  induction m with
  | zero => intro v g L; rfl
  | succ m ih =>
    intro v g L
    show sX12_sums_5_h5 (sX12_sums_5_l5 m) v g L = gMh 1 sX12_product_5 (gMl 1 sX12_product_5 m) v g L
    unfold sX12_sums_5_h5 gMh; (repeat first | rw [spl_d] | rw [spl2_d])
    by_cases c : (g 0 15).toInt < 0
    case neg => rw [if_neg c, if_neg c]
    rw [if_pos c, if_pos c]
    by_cases c43 : (sX12_byteAt g L).toInt = 43
    · rw [if_pos c43, if_pos (pS_1 (by omega)), ih]
      unfold pwk
      rw [if_neg (by omega), if_neg (by omega), if_neg (by omega), if_pos c43]
    rw [if_neg c43]
    by_cases c45 : (sX12_byteAt g L).toInt = 45
    · rw [if_pos c45, if_pos (pS_1 (by omega)), ih]
      unfold pwk
      rw [if_neg (by omega), if_neg (by omega), if_neg (by omega), if_neg c43, if_pos c45]
    rw [if_neg c45, if_neg (pS_1n (by omega))]
theorem gm_sX12_sums_5 : sX12_sums_5 = gMc 1 sX12_product_5 := by
  funext g L
  unfold sX12_sums_5 gMc; (repeat first | rw [spl_d] | rw [spl2_d])
  exact gm_sX12_sums_5_l _ _ _ _
theorem gm_sX12_compared_5 : sX12_compared_5 = gMo 2 sX12_sums_5 := by
  funext g L
  unfold sX12_compared_5 gMo; (repeat first | rw [spl_d] | rw [spl2_d])
  by_cases c : ((sX12_sums_5 g L).2 0 15).toInt < 0
  case neg => rw [if_neg c, if_neg c]
  rw [if_pos c, if_pos c]
  by_cases c60 : (sX12_byteAt (sX12_sums_5 g L).2 L).toInt = 60
  · rw [if_pos c60, if_pos (pS_2 (by omega))]
    rw [pwk_60 c60]
    by_cases d : (sX12_sums_5 g L).1.toInt < (sX12_sums_5 (mad (sX12_sums_5 g L).2) L).1.toInt
    · rw [if_pos d, if_pos d]
    · rw [if_neg d, if_neg d]
  rw [if_neg c60]
  by_cases c61 : (sX12_byteAt (sX12_sums_5 g L).2 L).toInt = 61
  · rw [if_pos c61, if_pos (pS_2 (by omega))]
    rw [pwk_61 c61]
    by_cases d : (sX12_sums_5 g L).1.toInt = (sX12_sums_5 (mad (sX12_sums_5 g L).2) L).1.toInt
    · rw [if_pos d, if_pos d]
    · rw [if_neg d, if_neg d]
  rw [if_neg c61]
  by_cases c62 : (sX12_byteAt (sX12_sums_5 g L).2 L).toInt = 62
  · rw [if_pos c62, if_pos (pS_2 (by omega))]
    rw [pwk_62 c62]
    by_cases d : (sX12_sums_5 (mad (sX12_sums_5 g L).2) L).1.toInt < (sX12_sums_5 g L).1.toInt
    · rw [if_pos d, if_pos d]
    · rw [if_neg d, if_neg d]
  rw [if_neg c62]
  rw [if_neg (pS_2n (by omega))]
theorem gm_sX12_both_5_l : ∀ (m : Nat) (v : Int32) (g : sg_F) (L : sg_L), sX12_both_5_l5 m v g L = gMl 3 sX12_compared_5 m v g L := by
  intro m
  induction m with
  | zero => intro v g L; rfl
  | succ m ih =>
    intro v g L
    show sX12_both_5_h5 (sX12_both_5_l5 m) v g L = gMh 3 sX12_compared_5 (gMl 3 sX12_compared_5 m) v g L
    unfold sX12_both_5_h5 sX12_takes_38 gMh; (repeat first | rw [spl_d] | rw [spl2_d])
    by_cases c : (g 0 15).toInt < 0
    case neg => rw [if_neg c, if_neg c, if_neg zk0]
    rw [if_pos c, if_pos c]
    by_cases s : (sX12_byteAt g L).toInt = 38
    case neg => rw [if_neg s, if_neg (pS_3n s), if_neg zk0]
    rw [if_pos s, if_pos (pS_3 s), if_pos rfl, ih, ih, pwk_38 s]
    by_cases d : v.toInt = 0
    · rw [if_pos d, if_pos d]
    · rw [if_neg d, if_neg d]
      by_cases d2 : (sX12_compared_5 (mad g) L).1.toInt = 0
      · rw [if_pos d2, if_pos d2]
      · rw [if_neg d2, if_neg d2]
theorem gm_sX12_both_5 : sX12_both_5 = gMc 3 sX12_compared_5 := by
  funext g L
  unfold sX12_both_5 gMc; (repeat first | rw [spl_d] | rw [spl2_d])
  exact gm_sX12_both_5_l _ _ _ _
theorem gm_sX12_either_5_l : ∀ (m : Nat) (v : Int32) (g : sg_F) (L : sg_L), sX12_either_5_l5 m v g L = gMl 4 sX12_both_5 m v g L := by
  intro m
  induction m with
  | zero => intro v g L; rfl
  | succ m ih =>
    intro v g L
    show sX12_either_5_h5 (sX12_either_5_l5 m) v g L = gMh 4 sX12_both_5 (gMl 4 sX12_both_5 m) v g L
    unfold sX12_either_5_h5 sX12_takes_124 gMh; (repeat first | rw [spl_d] | rw [spl2_d])
    by_cases c : (g 0 15).toInt < 0
    case neg => rw [if_neg c, if_neg c, if_neg zk0]
    rw [if_pos c, if_pos c]
    by_cases s : (sX12_byteAt g L).toInt = 124
    case neg => rw [if_neg s, if_neg (pS_4n s), if_neg zk0]
    rw [if_pos s, if_pos (pS_4 s), if_pos rfl, ih, ih, pwk_124 s]
    by_cases d : v.toInt = 0
    · rw [if_pos d, if_pos d]
      by_cases d2 : (sX12_both_5 (mad g) L).1.toInt = 0
      · rw [if_pos d2, if_pos d2]
      · rw [if_neg d2, if_neg d2]
    · rw [if_neg d, if_neg d]
theorem gm_sX12_either_5 : sX12_either_5 = gMc 4 sX12_both_5 := by
  funext g L
  unfold sX12_either_5 gMc; (repeat first | rw [spl_d] | rw [spl2_d])
  exact gm_sX12_either_5_l _ _ _ _
theorem gm_d5 : sX12_one_5_l176 = sX12_one_0_l176 := rfl
theorem gm_sX12_one_5 : sX12_one_5 = gMone 6 (fun _ => 5) sX12_either_6 sX12_one_6 := by
  funext g L
  unfold sX12_one_5 gMone gMcl gMun; (repeat first | rw [spl_d] | rw [spl2_d])
  by_cases c : (g 0 15).toInt < 0
  case neg => rw [if_neg c, if_neg c]
  rw [if_pos c, if_pos c]
  by_cases c33 : (sX12_byteAt g L).toInt = 33
  · rw [if_pos c33, if_pos c33, if_pos rfl]
    by_cases d : (sX12_one_6 (mop 6 g) L).1.toInt = 0
    · rw [if_pos d, if_pos d]
    · rw [if_neg d, if_neg d]
  rw [if_neg c33, if_neg c33]
  by_cases c45 : (sX12_byteAt g L).toInt = 45
  · rw [if_pos c45, if_pos c45, if_neg Bool.false_ne_true]
  rw [if_neg c45, if_neg c45]
  rw [gm_d5]
theorem gm_sX12_product_6_l : ∀ (m : Nat) (v : Int32) (g : sg_F) (L : sg_L), sX12_product_6_l10 m v (sX12_byteAt g L) g L = gMl 0 sX12_one_6 m v g L := by
  intro m
  induction m with
  | zero => intro v g L; rfl
  | succ m ih =>
    intro v g L
    show sX12_product_6_h10 (sX12_product_6_l10 m) v (sX12_byteAt g L) g L = gMh 0 sX12_one_6 (gMl 0 sX12_one_6 m) v g L
    unfold sX12_product_6_h10 gMh; (repeat first | rw [spl_d] | rw [spl2_d])
    by_cases c : (g 0 15).toInt < 0
    case neg => rw [if_neg c, if_neg c]
    rw [if_pos c, if_pos c]
    by_cases c42 : (sX12_byteAt g L).toInt = 42
    · rw [if_pos c42, if_pos (pS_0 (by omega)), ih]
      unfold pwk
      rw [if_pos c42]
    rw [if_neg c42]
    by_cases c47 : (sX12_byteAt g L).toInt = 47
    · rw [if_pos c47, if_pos (pS_0 (by omega)), ih, ih]
      unfold pwk
      rw [if_neg c42, if_pos c47]
      by_cases d : (sX12_one_6 (mad g) L).1.toInt = 0
      · rw [if_pos d, if_pos d]
      · rw [if_neg d, if_neg d]
    rw [if_neg c47]
    by_cases c37 : (sX12_byteAt g L).toInt = 37
    · rw [if_pos c37, if_pos (pS_0 (by omega)), ih, ih]
      unfold pwk
      rw [if_neg c42, if_neg c47, if_pos c37]
      by_cases d : (sX12_one_6 (mad g) L).1.toInt = 0
      · rw [if_pos d, if_pos d]
      · rw [if_neg d, if_neg d]
    rw [if_neg c37, if_neg (pS_0n (by omega))]
theorem gm_sX12_product_6 : sX12_product_6 = gMc 0 sX12_one_6 := by
  funext g L
  unfold sX12_product_6 gMc; (repeat first | rw [spl_d] | rw [spl2_d])
  exact gm_sX12_product_6_l _ _ _ _
theorem gm_sX12_sums_6_l : ∀ (m : Nat) (v : Int32) (g : sg_F) (L : sg_L), sX12_sums_6_l5 m v g L = gMl 1 sX12_product_6 m v g L := by
  intro m
  induction m with
  | zero => intro v g L; rfl
  | succ m ih =>
    intro v g L
    show sX12_sums_6_h5 (sX12_sums_6_l5 m) v g L = gMh 1 sX12_product_6 (gMl 1 sX12_product_6 m) v g L
    unfold sX12_sums_6_h5 gMh; (repeat first | rw [spl_d] | rw [spl2_d])
    by_cases c : (g 0 15).toInt < 0
    case neg => rw [if_neg c, if_neg c]
    rw [if_pos c, if_pos c]
    by_cases c43 : (sX12_byteAt g L).toInt = 43
    · rw [if_pos c43, if_pos (pS_1 (by omega)), ih]
      unfold pwk
      rw [if_neg (by omega), if_neg (by omega), if_neg (by omega), if_pos c43]
    rw [if_neg c43]
    by_cases c45 : (sX12_byteAt g L).toInt = 45
    · rw [if_pos c45, if_pos (pS_1 (by omega)), ih]
      unfold pwk
      rw [if_neg (by omega), if_neg (by omega), if_neg (by omega), if_neg c43, if_pos c45]
    rw [if_neg c45, if_neg (pS_1n (by omega))]
theorem gm_sX12_sums_6 : sX12_sums_6 = gMc 1 sX12_product_6 := by
  funext g L
  unfold sX12_sums_6 gMc; (repeat first | rw [spl_d] | rw [spl2_d])
  exact gm_sX12_sums_6_l _ _ _ _
theorem gm_sX12_compared_6 : sX12_compared_6 = gMo 2 sX12_sums_6 := by
  funext g L
  unfold sX12_compared_6 gMo; (repeat first | rw [spl_d] | rw [spl2_d])
  by_cases c : ((sX12_sums_6 g L).2 0 15).toInt < 0
  case neg => rw [if_neg c, if_neg c]
  rw [if_pos c, if_pos c]
  by_cases c60 : (sX12_byteAt (sX12_sums_6 g L).2 L).toInt = 60
  · rw [if_pos c60, if_pos (pS_2 (by omega))]
    rw [pwk_60 c60]
    by_cases d : (sX12_sums_6 g L).1.toInt < (sX12_sums_6 (mad (sX12_sums_6 g L).2) L).1.toInt
    · rw [if_pos d, if_pos d]
    · rw [if_neg d, if_neg d]
  rw [if_neg c60]
  by_cases c61 : (sX12_byteAt (sX12_sums_6 g L).2 L).toInt = 61
  · rw [if_pos c61, if_pos (pS_2 (by omega))]
    rw [pwk_61 c61]
    by_cases d : (sX12_sums_6 g L).1.toInt = (sX12_sums_6 (mad (sX12_sums_6 g L).2) L).1.toInt
    · rw [if_pos d, if_pos d]
    · rw [if_neg d, if_neg d]
  rw [if_neg c61]
  by_cases c62 : (sX12_byteAt (sX12_sums_6 g L).2 L).toInt = 62
  · rw [if_pos c62, if_pos (pS_2 (by omega))]
    rw [pwk_62 c62]
    by_cases d : (sX12_sums_6 (mad (sX12_sums_6 g L).2) L).1.toInt < (sX12_sums_6 g L).1.toInt
    · rw [if_pos d, if_pos d]
    · rw [if_neg d, if_neg d]
  rw [if_neg c62]
  rw [if_neg (pS_2n (by omega))]
theorem gm_sX12_both_6_l : ∀ (m : Nat) (v : Int32) (g : sg_F) (L : sg_L), sX12_both_6_l5 m v g L = gMl 3 sX12_compared_6 m v g L := by
  intro m
  induction m with
  | zero => intro v g L; rfl
  | succ m ih =>
    intro v g L
    show sX12_both_6_h5 (sX12_both_6_l5 m) v g L = gMh 3 sX12_compared_6 (gMl 3 sX12_compared_6 m) v g L
    unfold sX12_both_6_h5 sX12_takes_38 gMh; (repeat first | rw [spl_d] | rw [spl2_d])
    by_cases c : (g 0 15).toInt < 0
    case neg => rw [if_neg c, if_neg c, if_neg zk0]
    rw [if_pos c, if_pos c]
    by_cases s : (sX12_byteAt g L).toInt = 38
    case neg => rw [if_neg s, if_neg (pS_3n s), if_neg zk0]
    rw [if_pos s, if_pos (pS_3 s), if_pos rfl, ih, ih, pwk_38 s]
    by_cases d : v.toInt = 0
    · rw [if_pos d, if_pos d]
    · rw [if_neg d, if_neg d]
      by_cases d2 : (sX12_compared_6 (mad g) L).1.toInt = 0
      · rw [if_pos d2, if_pos d2]
      · rw [if_neg d2, if_neg d2]
theorem gm_sX12_both_6 : sX12_both_6 = gMc 3 sX12_compared_6 := by
  funext g L
  unfold sX12_both_6 gMc; (repeat first | rw [spl_d] | rw [spl2_d])
  exact gm_sX12_both_6_l _ _ _ _
theorem gm_sX12_either_6_l : ∀ (m : Nat) (v : Int32) (g : sg_F) (L : sg_L), sX12_either_6_l5 m v g L = gMl 4 sX12_both_6 m v g L := by
  intro m
  induction m with
  | zero => intro v g L; rfl
  | succ m ih =>
    intro v g L
    show sX12_either_6_h5 (sX12_either_6_l5 m) v g L = gMh 4 sX12_both_6 (gMl 4 sX12_both_6 m) v g L
    unfold sX12_either_6_h5 sX12_takes_124 gMh; (repeat first | rw [spl_d] | rw [spl2_d])
    by_cases c : (g 0 15).toInt < 0
    case neg => rw [if_neg c, if_neg c, if_neg zk0]
    rw [if_pos c, if_pos c]
    by_cases s : (sX12_byteAt g L).toInt = 124
    case neg => rw [if_neg s, if_neg (pS_4n s), if_neg zk0]
    rw [if_pos s, if_pos (pS_4 s), if_pos rfl, ih, ih, pwk_124 s]
    by_cases d : v.toInt = 0
    · rw [if_pos d, if_pos d]
      by_cases d2 : (sX12_both_6 (mad g) L).1.toInt = 0
      · rw [if_pos d2, if_pos d2]
      · rw [if_neg d2, if_neg d2]
    · rw [if_neg d, if_neg d]
theorem gm_sX12_either_6 : sX12_either_6 = gMc 4 sX12_both_6 := by
  funext g L
  unfold sX12_either_6 gMc; (repeat first | rw [spl_d] | rw [spl2_d])
  exact gm_sX12_either_6_l _ _ _ _
theorem gm_d6 : sX12_one_6_l176 = sX12_one_0_l176 := rfl
theorem gm_sX12_one_6 : sX12_one_6 = gMone6 := by
  funext g L
  unfold sX12_one_6 gMone6; (repeat first | rw [spl_d] | rw [spl2_d])
  by_cases c : (g 0 15).toInt < 0
  case neg => rw [if_neg c, if_neg c]
  rw [if_pos c, if_pos c]
  by_cases c33 : (sX12_byteAt g L).toInt = 33
  · rw [if_pos c33, if_pos (Or.inl c33)]
  rw [if_neg c33]
  by_cases c45 : (sX12_byteAt g L).toInt = 45
  · rw [if_pos c45, if_pos (Or.inr (Or.inl c45))]
  rw [if_neg c45]
  by_cases c40 : (sX12_byteAt g L).toInt = 40
  · rw [if_pos c40, if_pos (Or.inr (Or.inr c40))]
  rw [if_neg c40]
  rw [if_neg (show ¬ ((sX12_byteAt g L).toInt = 33 ∨ (sX12_byteAt g L).toInt = 45 ∨ (sX12_byteAt g L).toInt = 40) from by omega), gm_d6]
theorem mO_exp {T N : Nat → Int32} {n : Nat} {k : Int} {op : sg_F → sg_L → Int32 × sg_F} {P : Nat → pR} (h : mO T N n k op P) (g : ∀ a : Nat, pG n (P a) a) : mO T N n k (gMc 4 (gMc 3 (gMo 2 (gMc 1 (gMc 0 op))))) (pExp P T n) := gMc_O (gMc_O (gMo_O (gMc_O (gMc_O h g) (pChain_G g))) (pChain_G (pChain_G (pChain_G g)))) (pChain_G (pChain_G (pChain_G (pChain_G g))))
theorem mO_o6 {T N : Nat → Int32} {n : Nat} : mO T N n 6 sX12_one_6 (pO T n 0) := by
  rw [gm_sX12_one_6]
  exact gMone6_O
theorem mO_e6 {T N : Nat → Int32} {n : Nat} : mO T N n 6 sX12_either_6 (pExp (pO T n 0) T n) := by
  rw [gm_sX12_either_6, gm_sX12_both_6, gm_sX12_compared_6, gm_sX12_sums_6, gm_sX12_product_6]
  exact mO_exp mO_o6 (pO_G 0)
theorem mO_o5 {T N : Nat → Int32} {n : Nat} : mO T N n 5 sX12_one_5 (pO T n 1) := by
  rw [gm_sX12_one_5]
  exact gMone_O mO_e6 mO_o6 (by decide) (fun _ _ => by decide)
theorem mO_e5 {T N : Nat → Int32} {n : Nat} : mO T N n 5 sX12_either_5 (pExp (pO T n 1) T n) := by
  rw [gm_sX12_either_5, gm_sX12_both_5, gm_sX12_compared_5, gm_sX12_sums_5, gm_sX12_product_5]
  exact mO_exp mO_o5 (pO_G 1)
theorem mO_o4 {T N : Nat → Int32} {n : Nat} : mO T N n 4 sX12_one_4 (pO T n 2) := by
  rw [gm_sX12_one_4]
  exact gMone_O mO_e5 mO_o5 (by decide) (fun x hx => (bn_subI (by have k1 : (1 : Int32).toInt = 1 := (by decide); omega) (by have k1 : (1 : Int32).toInt = 1 := (by decide); omega)).trans (by have k1 : (1 : Int32).toInt = 1 := (by decide); omega))
theorem mO_e4 {T N : Nat → Int32} {n : Nat} : mO T N n 4 sX12_either_4 (pExp (pO T n 2) T n) := by
  rw [gm_sX12_either_4, gm_sX12_both_4, gm_sX12_compared_4, gm_sX12_sums_4, gm_sX12_product_4]
  exact mO_exp mO_o4 (pO_G 2)
theorem mO_o3 {T N : Nat → Int32} {n : Nat} : mO T N n 3 sX12_one_3 (pO T n 3) := by
  rw [gm_sX12_one_3]
  exact gMone_O mO_e4 mO_o4 (by decide) (fun x hx => (bn_subI (by have k1 : (1 : Int32).toInt = 1 := (by decide); omega) (by have k1 : (1 : Int32).toInt = 1 := (by decide); omega)).trans (by have k1 : (1 : Int32).toInt = 1 := (by decide); omega))
theorem mO_e3 {T N : Nat → Int32} {n : Nat} : mO T N n 3 sX12_either_3 (pExp (pO T n 3) T n) := by
  rw [gm_sX12_either_3, gm_sX12_both_3, gm_sX12_compared_3, gm_sX12_sums_3, gm_sX12_product_3]
  exact mO_exp mO_o3 (pO_G 3)
theorem mO_o2 {T N : Nat → Int32} {n : Nat} : mO T N n 2 sX12_one_2 (pO T n 4) := by
  rw [gm_sX12_one_2]
  exact gMone_O mO_e3 mO_o3 (by decide) (fun x hx => (bn_subI (by have k1 : (1 : Int32).toInt = 1 := (by decide); omega) (by have k1 : (1 : Int32).toInt = 1 := (by decide); omega)).trans (by have k1 : (1 : Int32).toInt = 1 := (by decide); omega))
theorem mO_e2 {T N : Nat → Int32} {n : Nat} : mO T N n 2 sX12_either_2 (pExp (pO T n 4) T n) := by
  rw [gm_sX12_either_2, gm_sX12_both_2, gm_sX12_compared_2, gm_sX12_sums_2, gm_sX12_product_2]
  exact mO_exp mO_o2 (pO_G 4)
theorem mO_o1 {T N : Nat → Int32} {n : Nat} : mO T N n 1 sX12_one_1 (pO T n 5) := by
  rw [gm_sX12_one_1]
  exact gMone_O mO_e2 mO_o2 (by decide) (fun x hx => (bn_subI (by have k1 : (1 : Int32).toInt = 1 := (by decide); omega) (by have k1 : (1 : Int32).toInt = 1 := (by decide); omega)).trans (by have k1 : (1 : Int32).toInt = 1 := (by decide); omega))
theorem mO_e1 {T N : Nat → Int32} {n : Nat} : mO T N n 1 sX12_either_1 (pExp (pO T n 5) T n) := by
  rw [gm_sX12_either_1, gm_sX12_both_1, gm_sX12_compared_1, gm_sX12_sums_1, gm_sX12_product_1]
  exact mO_exp mO_o1 (pO_G 5)
theorem mO_o0 {T N : Nat → Int32} {n : Nat} : mO T N n 0 sX12_one_0 (pO T n 6) := by
  rw [gm_sX12_one_0]
  exact gMone_O mO_e1 mO_o1 (by decide) (fun x hx => (bn_subI (by have k1 : (1 : Int32).toInt = 1 := (by decide); omega) (by have k1 : (1 : Int32).toInt = 1 := (by decide); omega)).trans (by have k1 : (1 : Int32).toInt = 1 := (by decide); omega))
theorem mO_e0 {T N : Nat → Int32} {n : Nat} : mO T N n 0 sX12_either_0 (pExp (pO T n 6) T n) := by
  rw [gm_sX12_either_0, gm_sX12_both_0, gm_sX12_compared_0, gm_sX12_sums_0, gm_sX12_product_0]
  exact mO_exp mO_o0 (pO_G 6)
