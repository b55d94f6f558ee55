/-! THE LAW: the class's reading -/
/-- reading stands at a of the text, d signs are written, no fault -/
def xS (T : Nat → Int32) (n a d : Nat) (f : sg_F) : Prop := (f 4 6).toInt = a ∧ (f 4 1).toInt = n ∧ (f 4 7).toInt = -1 ∧ (f 4 8).toInt = d ∧ (∀ i : Nat, i < n → f 5 i = T i) ∧ n ≤ 120 ∧ a ≤ n ∧ d ≤ a
/-- a fault was met at p -/
def xF (n p : Nat) (f : sg_F) : Prop := (f 4 6).toInt = p ∧ (f 4 1).toInt = n ∧ (f 4 7).toInt = p ∧ p ≤ 120
/-- what is written from d on -/
def xC (c0 : Nat → Int32) (d : Nat) (c : List Int32) (f : sg_F) : Prop := (∀ i : Nat, i < d → f 6 i = c0 i) ∧ trL (f 6) d c
theorem xC.nil {f : sg_F} {d : Nat} : xC (f 6) d [] f := ⟨fun _ _ => rfl, trivial⟩
theorem xC.app {c0 : Nat → Int32} {d d1 : Nat} {c c1 : List Int32} {f f1 : sg_F} (h : xC c0 d c f) (e : d1 = d + c.length) (h1 : xC (f 6) d1 c1 f1) : xC c0 d (c ++ c1) f1 := by
  subst e
  exact ⟨fun i hi => (h1.1 i (by omega)).trans (h.1 i hi), trL.ap c d (trL.kp c d h.2 (fun j hj => h1.1 j hj)) h1.2⟩
abbrev xad (f : sg_F) : sg_F := sg_up f 4 (sgu (f 4) 6 (f 4 6 + 1))
theorem xnext {T : Nat → Int32} {n a d : Nat} {f : sg_F} (h : xS T n a d f) (L : sg_L) : (sX5_next f L).toInt = pnx T n a := by
  obtain ⟨h1, h2, h3, h4, h5, h6, h7, h8⟩ := h
  unfold sX5_next pnx; (repeat first | rw [spl_d] | rw [spl2_d])
  rw [if_pos (show (f 4 7).toInt < 0 from by omega)]
  by_cases c : a < n
  · have e := bn_clI (x := f 4 6) (by omega)
    rw [if_pos c, if_pos (show (f 4 6).toInt < (f 4 1).toInt from by omega), show (f 4 6).toNatClampNeg = a from by omega, h5 a c]
  · rw [if_neg c, if_neg (show ¬ (f 4 6).toInt < (f 4 1).toInt from by omega)]; decide
theorem xnextF {n p : Nat} {f : sg_F} (h : xF n p f) (L : sg_L) : (sX5_next f L).toInt = -1 := by
  obtain ⟨h1, h2, h3⟩ := h
  unfold sX5_next; (repeat first | rw [spl_d] | rw [spl2_d])
  rw [if_neg (show ¬ (f 4 7).toInt < 0 from by omega)]; decide
theorem xwr {T : Nat → Int32} {n a d : Nat} {f : sg_F} (h : xS T n a d f) (hd : d + 1 ≤ a) (s : Int32) (L : sg_L) : xS T n a (d + 1) (sX5_write s f L) ∧ xC (f 6) d [s] (sX5_write s f L) := by
  obtain ⟨h1, h2, h3, h4, h5, h6, h7, h8⟩ := h
  have k1 : (1 : Int32).toInt = 1 := by decide
  have e := bn_clI (x := f 4 8) (by omega)
  have e1 : (f 4 8 + 1).toInt = (f 4 8).toInt + 1 := (bn_addI (by omega) (by omega)).trans (by omega)
  unfold sX5_write; (repeat first | rw [spl_d] | rw [spl2_d])
  rw [if_pos (show (f 4 8).toInt < 121 from by omega), show (f 4 8).toNatClampNeg = d from by omega]
  refine ⟨⟨?_, ?_, ?_, ?_, fun i hi => ?_, h6, h7, hd⟩, fun i hi => ?_, ?_, trivial⟩
  · rw [sg_up_s, sgu_n (show (6 : Nat) ≠ 8 by decide), sg_up_n (show (4 : Nat) ≠ 6 by decide)]; exact h1
  · rw [sg_up_s, sgu_n (show (1 : Nat) ≠ 8 by decide), sg_up_n (show (4 : Nat) ≠ 6 by decide)]; exact h2
  · rw [sg_up_s, sgu_n (show (7 : Nat) ≠ 8 by decide), sg_up_n (show (4 : Nat) ≠ 6 by decide)]; exact h3
  · rw [sg_up_s, sgu_s]; omega
  · rw [sg_up_n (show (5 : Nat) ≠ 4 by decide), sg_up_n (show (5 : Nat) ≠ 6 by decide)]; exact h5 i hi
  · rw [sg_up_n (show (6 : Nat) ≠ 4 by decide), sg_up_s, sgu_n (by omega)]
  · rw [sg_up_n (show (6 : Nat) ≠ 4 by decide), sg_up_s, sgu_s]
theorem xwrF {n p : Nat} {f : sg_F} (h : xF n p f) (s : Int32) (L : sg_L) : xF n p (sX5_write s f L) := by
  obtain ⟨h1, h2, h3⟩ := h
  unfold sX5_write; (repeat first | rw [spl_d] | rw [spl2_d])
  by_cases c : (f 4 8).toInt < 121
  · rw [if_pos c]
    refine ⟨?_, ?_, ?_⟩
    · rw [sg_up_s, sgu_n (show (6 : Nat) ≠ 8 by decide), sg_up_n (show (4 : Nat) ≠ 6 by decide)]; exact h1
    · rw [sg_up_s, sgu_n (show (1 : Nat) ≠ 8 by decide), sg_up_n (show (4 : Nat) ≠ 6 by decide)]; exact h2
    · rw [sg_up_s, sgu_n (show (7 : Nat) ≠ 8 by decide), sg_up_n (show (4 : Nat) ≠ 6 by decide)]; exact h3
  · rw [if_neg c]; exact ⟨h1, h2, h3⟩
theorem xadv {T : Nat → Int32} {n a d : Nat} {f : sg_F} (h : xS T n a d f) (c : a < n) : xS T n (a + 1) d (xad f) ∧ xad f 6 = f 6 := by
  obtain ⟨h1, h2, h3, h4, h5, h6, h7, h8⟩ := h
  have k1 : (1 : Int32).toInt = 1 := by decide
  have e1 : (f 4 6 + 1).toInt = (f 4 6).toInt + 1 := (bn_addI (by omega) (by omega)).trans (by omega)
  unfold xad
  refine ⟨⟨?_, ?_, ?_, ?_, fun i hi => ?_, h6, by omega, by omega⟩, ?_⟩
  · rw [sg_up_s, sgu_s]; omega
  · rw [sg_up_s, sgu_n (show (1 : Nat) ≠ 6 by decide)]; exact h2
  · rw [sg_up_s, sgu_n (show (7 : Nat) ≠ 6 by decide)]; exact h3
  · rw [sg_up_s, sgu_n (show (8 : Nat) ≠ 6 by decide)]; exact h4
  · rw [sg_up_n (show (5 : Nat) ≠ 4 by decide)]; exact h5 i hi
  · exact sg_up_n (by decide)
theorem xfail {T : Nat → Int32} {n a d : Nat} {f : sg_F} (h : xS T n a d f) (L : sg_L) : xF n a (sX5_fail f L) := by
  obtain ⟨h1, h2, h3, h4, h5, h6, h7, h8⟩ := h
  unfold sX5_fail; (repeat first | rw [spl_d] | rw [spl2_d])
  rw [if_pos (show (f 4 7).toInt < 0 from by omega)]
  refine ⟨?_, ?_, ?_⟩
  · rw [sg_up_s, sgu_n (show (6 : Nat) ≠ 7 by decide)]; exact h1
  · rw [sg_up_s, sgu_n (show (1 : Nat) ≠ 7 by decide)]; exact h2
  · rw [sg_up_s, sgu_s]; exact ⟨h1, by omega⟩
theorem xfailF {n p : Nat} {f : sg_F} (h : xF n p f) (L : sg_L) : xF n p (sX5_fail f L) := by
  unfold sX5_fail; (repeat first | rw [spl_d] | rw [spl2_d])
  rw [if_neg (show ¬ (f 4 7).toInt < 0 from by have := h.2.2; omega)]
  exact h
/-- all but where reading stands and what is written is as it was -/
def xK (f f1 : sg_F) : Prop := ∀ k j : Nat, k ≠ 6 → (k ≠ 4 ∨ (j ≠ 6 ∧ j ≠ 7 ∧ j ≠ 8)) → f1 k j = f k j
theorem xK.rf {f : sg_F} : xK f f := fun _ _ _ _ => rfl
theorem xK.tr {f f1 f2 : sg_F} (h : xK f f1) (h1 : xK f1 f2) : xK f f2 := fun k j a b => (h1 k j a b).trans (h k j a b)
theorem xK.put {f : sg_F} {j : Nat} {x : Int32} (hj : j = 6 ∨ j = 7 ∨ j = 8) : xK f (sg_up f 4 (sgu (f 4) j x)) := by
  intro k i _ hk
  by_cases c : k = 4
  · subst c
    rw [sg_up_s, sgu_n (by omega)]
  · rw [sg_up_n c]
theorem xadK (f : sg_F) : xK f (xad f) := xK.put (Or.inl rfl)
theorem xwrK (s : Int32) (f : sg_F) (L : sg_L) : xK f (sX5_write s f L) := by
  unfold sX5_write; (repeat first | rw [spl_d] | rw [spl2_d])
  by_cases c : (f 4 8).toInt < 121
  · rw [if_pos c]
    have a : xK f (sg_up f 6 (sgu (f 6) (f 4 8).toNatClampNeg s)) := fun k j hk _ => by rw [sg_up_n hk]
    exact a.tr (xK.put (Or.inr (Or.inr rfl)))
  · rw [if_neg c]; exact xK.rf
theorem xfailK (f : sg_F) (L : sg_L) : xK f (sX5_fail f L) := by
  unfold sX5_fail; (repeat first | rw [spl_d] | rw [spl2_d])
  by_cases c : (f 4 7).toInt < 0
  · rw [if_pos c]; exact xK.put (Or.inr (Or.inl rfl))
  · rw [if_neg c]; exact xK.rf
/-- how reading ends: as r says -/
def xG (T : Nat → Int32) (n d : Nat) (c0 : Nat → Int32) (r : pR) (f : sg_F) : Prop := (r.2.1 = true → xS T n r.1 (d + r.2.2.1.length) f ∧ xC c0 d r.2.2.1 f) ∧ (r.2.1 = false → xF n r.1 f)
def xO (T : Nat → Int32) (n : Nat) (op : sg_F → sg_L → sg_F) (P : Nat → pR) : Prop := (∀ (f : sg_F) (L : sg_L) (a d : Nat), xS T n a d f → xG T n d (f 6) (P a) (op f L)) ∧ (∀ (f : sg_F) (L : sg_L) (p : Nat), xF n p f → xF n p (op f L)) ∧ ∀ (f : sg_F) (L : sg_L), xK f (op f L)
theorem xG.bad {T : Nat → Int32} {n d p : Nat} {c0 : Nat → Int32} {f : sg_F} {c : List Int32} {v : pV} (h : xF n p f) : xG T n d c0 (p, false, c, v) f := ⟨fun z => (by cases z), fun _ => h⟩
theorem xG.ok {T : Nat → Int32} {n d d1 p : Nat} {c0 : Nat → Int32} {f : sg_F} {c : List Int32} {v : pV} (h : xS T n p d1 f) (e : d1 = d + c.length) (k : xC c0 d c f) : xG T n d c0 (p, true, c, v) f := by
  subst e
  exact ⟨fun _ => ⟨h, k⟩, fun z => (by cases z)⟩
/-- a chain of operands parted by signs -/
noncomputable def gXh (k : Nat) (op : sg_F → sg_L → sg_F) (rec : Int32 → Int32 → sg_F → sg_L → sg_F) (y i : Int32) (f : sg_F) (L : sg_L) : sg_F :=
  if i.toInt < 120 then (if pS k y.toInt = true then rec (sX5_next (sX5_write y (op (xad f) L) L) L) (i + 1) (sX5_write y (op (xad f) L) L) L else f) else f
noncomputable def gXl (k : Nat) (op : sg_F → sg_L → sg_F) : Nat → Int32 → Int32 → sg_F → sg_L → sg_F
  | 0, _, _, f, _ => f
  | m + 1, y, i, f, L => gXh k op (gXl k op m) y i f L
noncomputable def gXc (k : Nat) (op : sg_F → sg_L → sg_F) (f : sg_F) (L : sg_L) : sg_F := gXl k op 121 (sX5_next (op f L) L) 0 (op f L) L
theorem pS_m1 {k : Nat} {z : Int} (h : z = -1) : ¬ pS k z = true := by
  intro w
  have b := pS_bin w
  unfold pbin at b
  omega
theorem gXl_F {k n p : Nat} {op : sg_F → sg_L → sg_F} {L : sg_L} : ∀ (m : Nat) (y i : Int32) (f : sg_F), y.toInt = -1 → xF n p f → xF n p (gXl k op m y i f L) := by
  intro m y i f hy h
  cases m with
  | zero => exact h
  | succ m =>
    show xF n p (gXh k op (gXl k op m) y i f L)
    unfold gXh
    by_cases c : i.toInt < 120
    · rw [if_pos c, if_neg (pS_m1 hy)]; exact h
    · rw [if_neg c]; exact h
theorem gXl_K {k : Nat} {op : sg_F → sg_L → sg_F} (h : ∀ (f : sg_F) (L : sg_L), xK f (op f L)) (L : sg_L) : ∀ (m : Nat) (y i : Int32) (f : sg_F), xK f (gXl k op m y i f L) := by
  intro m
  induction m with
  | zero => intro y i f; exact xK.rf
  | succ m ih =>
    intro y i f
    show xK f (gXh k op (gXl k op m) y i f L)
    unfold gXh
    by_cases c1 : i.toInt < 120
    · rw [if_pos c1]
      by_cases c2 : pS k y.toInt = true
      · rw [if_pos c2]; exact (((xadK f).tr (h _ L)).tr (xwrK _ _ L)).tr (ih _ _ _)
      · rw [if_neg c2]; exact xK.rf
    · rw [if_neg c1]; exact xK.rf
theorem pLoop_bad {S : Int → Bool} {op : Nat → pR} {T : Nat → Int32} {n : Nat} {q : Nat} {r : pR} (h : r.2.1 = false) : pLoop S op T n q r = r := by
  cases q with
  | zero => rfl
  | succ q =>
    unfold pLoop
    rw [if_neg (by rw [h]; exact Bool.false_ne_true)]
theorem gXl_S {T : Nat → Int32} {n k : Nat} {op : sg_F → sg_L → sg_F} {P : Nat → pR} (hop : xO T n op P) (hP : ∀ a : Nat, pG n (P a) a) (L : sg_L) (c0 : Nat → Int32) (d0 : Nat) : ∀ (m q : Nat) (y i : Int32) (f : sg_F) (p d : Nat) (c : List Int32) (v : pV), xS T n p d f → d = d0 + c.length → xC c0 d0 c f → y.toInt = pnx T n p → 0 ≤ i.toInt → i.toInt ≤ (p : Int) → 120 - i.toInt < (m : Int) → n - p < q → xG T n d0 c0 (pLoop (pS k) P T n q (p, true, c, v)) (gXl k op m y i f L) := by
  intro m
  induction m with
  | zero => intro q y i f p d c v h e hc hy h0 h1 h2 h3; exact absurd h2 (by have := h.2.2.2.2.2; omega)
  | succ m ih =>
    intro q y i f p d c v h e hc hy h0 h1 h2 h3
    have hb := h.2.2.2.2.2
    cases q with
    | zero => exact absurd h3 (by omega)
    | succ q =>
      show xG T n d0 c0 (pLoop (pS k) P T n (q + 1) (p, true, c, v)) (gXh k op (gXl k op m) y i f L)
      unfold pLoop gXh
      rw [if_pos (show ((p, true, c, v) : pR).2.1 = true from rfl)]
      show xG T n d0 c0 (if pS k (pnx T n p) = true then _ else _) _
      by_cases s : pS k (pnx T n p) = true
      · have sb := pS_bin s
        obtain ⟨g1, g2⟩ := pnx_lt (T := T) (n := n) (a := p) (by unfold pbin at sb; omega)
        rw [if_pos s, if_pos (show i.toInt < 120 from by omega), if_pos (by rw [hy]; exact s)]
        obtain ⟨u1, u2⟩ := xadv h g1
        have ey : y = T p := Int32.toInt_inj.mp (by rw [hy, g2])
        have k1 : (1 : Int32).toInt = 1 := by decide
        have ei : (i + 1).toInt = i.toInt + 1 := (bn_addI (by omega) (by omega)).trans (by omega)
        have w := hop.1 (xad f) L (p + 1) d u1
        rw [u2] at w
        have G := hP (p + 1)
        obtain ⟨f2, e2⟩ : ∃ z : sg_F, z = op (xad f) L := ⟨_, rfl⟩
        rw [← e2] at w ⊢
        obtain ⟨r, er⟩ : ∃ z : pR, z = P (p + 1) := ⟨_, rfl⟩
        rw [← er] at w G ⊢
        cases hr : r.2.1 with
        | true =>
          obtain ⟨w1, w2⟩ := w.1 hr
          obtain ⟨G1, G2, G3, G4, G5⟩ := G hr
          obtain ⟨x1, x2⟩ := xwr w1 (by omega) y L
          have x3 := hc.app e w2
          have x4 := x3.app (by rw [List.length_append, ← Nat.add_assoc, ← e]) x2
          rw [ey] at x1 x4 ⊢
          exact ih q _ (i + 1) _ r.1 _ (c ++ r.2.2.1 ++ [T p]) _ x1 (by rw [List.length_append, List.length_append, e]; show d0 + c.length + r.2.2.1.length + 1 = d0 + (c.length + r.2.2.1.length + 1); omega) x4 (xnext x1 L) (by omega) (by omega) (by omega) (by omega)
        | false =>
          have w1 := xwrF (w.2 hr) y L
          have z : pLoop (pS k) P T n q (r.1, false, c ++ r.2.2.1 ++ [T p], fun N => pwk (pnx T n p) (v N) (r.2.2.2 N)) = (r.1, false, c ++ r.2.2.1 ++ [T p], fun N => pwk (pnx T n p) (v N) (r.2.2.2 N)) := pLoop_bad rfl
          show xG T n d0 c0 (pLoop (pS k) P T n q (r.1, false, c ++ r.2.2.1 ++ [T p], fun N => pwk (pnx T n p) (v N) (r.2.2.2 N))) _
          rw [z]
          exact xG.bad (gXl_F _ _ _ _ (xnextF w1 L) w1)
      · rw [if_neg s]
        have z : (if i.toInt < 120 then (if pS k y.toInt = true then gXl k op m (sX5_next (sX5_write y (op (xad f) L) L) L) (i + 1) (sX5_write y (op (xad f) L) L) L else f) else f) = f := by
          by_cases c : i.toInt < 120
          · rw [if_pos c, if_neg (by rw [hy]; exact s)]
          · rw [if_neg c]
        rw [z]
        exact xG.ok h e hc
theorem gXc_O {T : Nat → Int32} {n k : Nat} {op : sg_F → sg_L → sg_F} {P : Nat → pR} (hop : xO T n op P) (hP : ∀ a : Nat, pG n (P a) a) : xO T n (gXc k op) (pChain k 121 P T n) := by
  have k0 : (0 : Int32).toInt = 0 := by decide
  refine ⟨fun f L a d h => ?_, fun f L p h => ?_, fun f L => (hop.2.2 f L).tr (gXl_K hop.2.2 L _ _ _ _)⟩
  · have w := hop.1 f L a d h
    have hb := h.2.2.2.2.2
    unfold gXc pChain
    obtain ⟨r, er⟩ : ∃ z : pR, z = P a := ⟨_, rfl⟩
    rw [← er] at w ⊢
    obtain ⟨r1, r2, r3, r4⟩ := r
    cases r2 with
    | true =>
      obtain ⟨w1, w2⟩ := w.1 rfl
      exact gXl_S hop hP L (f 6) d 121 121 _ 0 _ r1 _ r3 r4 w1 rfl w2 (xnext w1 L) (by omega) (by omega) (by omega) (by have := w1.2.2.2.2.2; omega)
    | false =>
      have w1 := w.2 rfl
      rw [pLoop_bad rfl]
      exact xG.bad (gXl_F _ _ _ _ (xnextF w1 L) w1)
  · have w1 := hop.2.1 f L p h
    exact gXl_F _ _ _ _ (xnextF w1 L) w1
/-- two operands at most, parted by a sign -/
noncomputable def gXo (k : Nat) (op : sg_F → sg_L → sg_F) (f : sg_F) (L : sg_L) : sg_F :=
  if pS k (sX5_next (op f L) L).toInt = true then sX5_write (sX5_next (op f L) L) (op (xad (op f L)) L) L else op f L
theorem gXo_O {T : Nat → Int32} {n k : Nat} {op : sg_F → sg_L → sg_F} {P : Nat → pR} (hop : xO T n op P) (hP : ∀ a : Nat, pG n (P a) a) : xO T n (gXo k op) (pChain k 1 P T n) := by
  refine ⟨fun f L a d h => ?_, fun f L p h => ?_, fun f L => ?_⟩
  · have w := hop.1 f L a d h
    unfold gXo pChain
    obtain ⟨r, er⟩ : ∃ z : pR, z = P a := ⟨_, rfl⟩
    have GP := hP a
    rw [← er] at w GP ⊢
    obtain ⟨f1, e1⟩ : ∃ z : sg_F, z = op f L := ⟨_, rfl⟩
    rw [← e1] at w ⊢
    obtain ⟨p, r2, c, v⟩ := r
    cases r2 with
    | true =>
      obtain ⟨w1, w2⟩ := w.1 rfl
      obtain ⟨GP1, GP2, GP3, -, -⟩ := GP rfl
      have hd := h.2.2.2.2.2
      have hy := xnext w1 L
      show xG T n d (f 6) (if true = true then (if pS k (pnx T n p) = true then _ else _) else _) _
      rw [if_pos rfl]
      by_cases s : pS k (pnx T n p) = true
      · have sb := pS_bin s
        obtain ⟨g1, g2⟩ := pnx_lt (T := T) (n := n) (a := p) (by unfold pbin at sb; omega)
        rw [if_pos s, if_pos (by rw [hy]; exact s)]
        obtain ⟨u1, u2⟩ := xadv w1 g1
        have ey : sX5_next f1 L = T p := Int32.toInt_inj.mp (by rw [hy, g2])
        rw [ey]
        have x := hop.1 (xad f1) L (p + 1) _ u1
        rw [u2] at x
        have G := hP (p + 1)
        obtain ⟨f2, e2⟩ : ∃ z : sg_F, z = op (xad f1) L := ⟨_, rfl⟩
        rw [← e2] at x ⊢
        obtain ⟨r', er'⟩ : ∃ z : pR, z = P (p + 1) := ⟨_, rfl⟩
        rw [← er'] at x G ⊢
        show xG T n d (f 6) (r'.1, r'.2.1, c ++ r'.2.2.1 ++ [T p], fun N => pwk (pnx T n p) (v N) (r'.2.2.2 N)) _
        cases hr : r'.2.1 with
        | true =>
          obtain ⟨x1, x2⟩ := x.1 hr
          obtain ⟨G1, G2, G3, -, -⟩ := G hr
          have GP3 : c.length + a ≤ p := GP3
          obtain ⟨y1, y2⟩ := xwr x1 (by show d + c.length + r'.2.2.1.length + 1 ≤ r'.1; omega) (T p) L
          have x3 := w2.app rfl x2
          have x4 := x3.app (by rw [List.length_append, ← Nat.add_assoc]) y2
          exact xG.ok y1 (by rw [List.length_append, List.length_append]; show d + c.length + r'.2.2.1.length + 1 = d + (c.length + r'.2.2.1.length + 1); omega) x4
        | false => exact xG.bad (xwrF (x.2 hr) _ L)
      · rw [if_neg s, if_neg (by rw [hy]; exact s)]
        exact xG.ok w1 rfl w2
    | false =>
      have w1 := w.2 rfl
      show xG T n d (f 6) (if false = true then _ else _) _
      rw [if_neg Bool.false_ne_true, if_neg (pS_m1 (xnextF w1 L))]
      exact xG.bad w1
  · have w1 := hop.2.1 f L p h
    unfold gXo
    rw [if_neg (pS_m1 (xnextF w1 L))]
    exact w1
  · unfold gXo
    by_cases c : pS k (sX5_next (op f L) L).toInt = true
    · rw [if_pos c]; exact (((hop.2.2 f L).tr (xadK _)).tr (hop.2.2 _ L)).tr (xwrK _ _ L)
    · rw [if_neg c]; exact hop.2.2 f L
/-! an operand -/
theorem xdig (x : Int32) (f : sg_F) (L : sg_L) : sX5_isDigit x f L = if 48 ≤ x.toInt ∧ x.toInt ≤ 57 then 1 else 0 := by
  unfold sX5_isDigit
  by_cases c1 : x.toInt < 48
  · rw [if_pos c1, if_neg (by omega)]
  rw [if_neg c1]
  by_cases c2 : 57 < x.toInt
  · rw [if_pos c2, if_neg (by omega)]
  · rw [if_neg c2, if_pos (by omega)]
theorem xnam (x : Int32) (f : sg_F) (L : sg_L) : sX5_isName x f L = if x.toInt = 100 ∨ x.toInt = 117 ∨ x.toInt = 115 ∨ x.toInt = 119 ∨ x.toInt = 104 ∨ x.toInt = 107 then 1 else 0 := by
  unfold sX5_isName
  (repeat' split) <;> first | rfl | (exfalso; omega)
theorem xnum_l {T : Nat → Int32} {n : Nat} (L : sg_L) : ∀ (m q : Nat) (v i : Int32) (f : sg_F) (a d : Nat), xS T n a d f → d + 1 ≤ a ∨ (q = 4 ∧ 48 ≤ pnx T n a ∧ pnx T n a ≤ 57) → i.toInt = 4 - (q : Int) → q ≤ 4 → q < m → xG T n d (f 6) ((pDig T n q a v).1, true, [1000 + (pDig T n q a v).2], fun _ => (pDig T n q a v).2) (sX5_number_l4 m v i f L) := by
  intro m
  induction m with
  | zero => intro q v i f a d h hd hi hq hm; exact absurd hm (by omega)
  | succ m ih =>
    intro q v i f a d h hd hi hq hm
    show xG T n d (f 6) _ (sX5_number_h4 (sX5_number_l4 m) v i f L)
    unfold sX5_number_h4 sX5_number_b48; (repeat first | rw [spl_d] | rw [spl2_d])
    rw [xdig, xnext h L]
    cases q with
    | zero =>
      rw [if_neg (show ¬ i.toInt < 4 from by omega)]
      have hd : d + 1 ≤ a := by omega
      obtain ⟨w1, w2⟩ := xwr h hd (1000 + v) L
      exact xG.ok w1 rfl w2
    | succ q =>
      rw [if_pos (show i.toInt < 4 from by omega)]
      unfold pDig
      by_cases c : 48 ≤ pnx T n a ∧ pnx T n a ≤ 57
      · rw [if_pos c, if_pos c, if_pos rfl]
        obtain ⟨g1, g2⟩ := pnx_lt (T := T) (n := n) (a := a) (by omega)
        obtain ⟨u1, u2⟩ := xadv h g1
        have ey : sX5_next f L = T a := Int32.toInt_inj.mp (by rw [xnext h L, g2])
        have k1 : (1 : Int32).toInt = 1 := by decide
        have ei : (i + 1).toInt = i.toInt + 1 := (bn_addI (by omega) (by omega)).trans (by omega)
        have hb := h.2.2.2.2.2
        rw [ey]
        have w := ih q (v * 10 + T a - 48) (i + 1) (xad f) (a + 1) d u1 (Or.inl (by omega)) (by omega) (by omega) (by omega)
        rw [u2] at w
        exact w
      · rw [if_neg c, if_neg c, if_neg zk0]
        have hd : d + 1 ≤ a := by omega
        obtain ⟨w1, w2⟩ := xwr h hd (1000 + v) L
        exact xG.ok w1 rfl w2
theorem xnumK (L : sg_L) : ∀ (m : Nat) (v i : Int32) (f : sg_F), xK f (sX5_number_l4 m v i f L) := by
  intro m
  induction m with
  | zero => intro v i f; exact xK.rf
  | succ m ih =>
    intro v i f
    show xK f (sX5_number_h4 (sX5_number_l4 m) v i f L)
    unfold sX5_number_h4 sX5_number_b48; (repeat first | rw [spl_d] | rw [spl2_d])
    by_cases c1 : i.toInt < 4
    · rw [if_pos c1]
      by_cases c2 : sX5_isDigit (sX5_next f L) f L = 1
      · rw [if_pos c2]; exact (xadK f).tr (ih _ _ _)
      · rw [if_neg c2]; exact xwrK _ f L
    · rw [if_neg c1]; exact xwrK _ f L
noncomputable def gXopen (E O : sg_F → sg_L → sg_F) (x : Int32) (f : sg_F) (L : sg_L) : sg_F :=
  if x.toInt = 40 then (if (sX5_next (E f L) L).toInt = 41 then xad (E f L) else sX5_fail (E f L) L) else (if x.toInt = 33 then sX5_write 33 (O f L) L else sX5_write 126 (O f L) L)
noncomputable def gXopd (o : Bool) (E O : sg_F → sg_L → sg_F) (f : sg_F) (L : sg_L) : sg_F :=
  if sX5_isDigit (sX5_next f L) f L = 1 then sX5_number f L else (if sX5_isName (sX5_next f L) f L = 1 then sX5_write (sX5_next f L) (xad f) L else (if o = true ∧ ((sX5_next f L).toInt = 40 ∨ (sX5_next f L).toInt = 33 ∨ (sX5_next f L).toInt = 45) then gXopen E O (sX5_next f L) (xad f) L else sX5_fail f L))
theorem gXopd_K {o : Bool} {E O : sg_F → sg_L → sg_F} (hE : ∀ (f : sg_F) (L : sg_L), xK f (E f L)) (hO : ∀ (f : sg_F) (L : sg_L), xK f (O f L)) (f : sg_F) (L : sg_L) : xK f (gXopd o E O f L) := by
  unfold gXopd
  by_cases c1 : sX5_isDigit (sX5_next f L) f L = 1
  · rw [if_pos c1]; exact xnumK L 5 0 0 f
  rw [if_neg c1]
  by_cases c2 : sX5_isName (sX5_next f L) f L = 1
  · rw [if_pos c2]; exact (xadK f).tr (xwrK _ _ L)
  rw [if_neg c2]
  by_cases c3 : o = true ∧ ((sX5_next f L).toInt = 40 ∨ (sX5_next f L).toInt = 33 ∨ (sX5_next f L).toInt = 45)
  case neg => rw [if_neg c3]; exact xfailK f L
  rw [if_pos c3]
  unfold gXopen
  by_cases c4 : (sX5_next f L).toInt = 40
  · rw [if_pos c4]
    have a := (xadK f).tr (hE _ L)
    by_cases c5 : (sX5_next (E (xad f) L) L).toInt = 41
    · rw [if_pos c5]; exact a.tr (xadK _)
    · rw [if_neg c5]; exact a.tr (xfailK _ L)
  rw [if_neg c4]
  have a := (xadK f).tr (hO _ L)
  by_cases c5 : (sX5_next f L).toInt = 33
  · rw [if_pos c5]; exact a.tr (xwrK _ _ L)
  · rw [if_neg c5]; exact a.tr (xwrK _ _ L)
theorem gXopd_O {T : Nat → Int32} {n : Nat} {o : Bool} {E O : sg_F → sg_L → sg_F} {PE PO : Nat → pR} (hE : xO T n E PE) (hO : xO T n O PO) (gE : ∀ a : Nat, pG n (PE a) a) (gO : ∀ a : Nat, pG n (PO a) a) : xO T n (gXopd o E O) (pOpd o PE PO T n) := by
  refine ⟨fun f L a d h => ?_, fun f L p h => ?_, gXopd_K hE.2.2 hO.2.2⟩
  · have hy := xnext h L
    have hb := h.2.2.2.2.2
    unfold gXopd pOpd
    rw [xdig, xnam, hy]
    by_cases c1 : 48 ≤ pnx T n a ∧ pnx T n a ≤ 57
    · rw [if_pos c1, if_pos c1, if_pos rfl]
      exact xnum_l L 5 4 0 0 f a d h (Or.inr ⟨rfl, c1.1, c1.2⟩) (by decide) (Nat.le_refl _) (by omega)
    rw [if_neg c1, if_neg c1, if_neg zk0]
    by_cases c2 : pnx T n a = 100 ∨ pnx T n a = 117 ∨ pnx T n a = 115 ∨ pnx T n a = 119 ∨ pnx T n a = 104 ∨ pnx T n a = 107
    · rw [if_pos c2, if_pos c2, if_pos rfl]
      obtain ⟨g1, g2⟩ := pnx_lt (T := T) (n := n) (a := a) (by omega)
      obtain ⟨u1, u2⟩ := xadv h g1
      have ey : sX5_next f L = T a := Int32.toInt_inj.mp (by rw [hy, g2])
      obtain ⟨w1, w2⟩ := xwr u1 (by omega) (T a) L
      rw [u2] at w2
      rw [ey]
      exact xG.ok w1 rfl w2
    rw [if_neg c2, if_neg c2, if_neg zk0]
    by_cases c : o = true ∧ (pnx T n a = 40 ∨ pnx T n a = 33 ∨ pnx T n a = 45)
    case neg =>
      rw [if_neg c, if_neg (fun z => c ⟨z.1, Or.inl z.2⟩), if_neg (fun z => c ⟨z.1, Or.inr (Or.inl z.2)⟩), if_neg (fun z => c ⟨z.1, Or.inr (Or.inr z.2)⟩)]
      exact xG.bad (xfail h L)
    rw [if_pos c]
    obtain ⟨g1, g2⟩ := pnx_lt (T := T) (n := n) (a := a) (by omega)
    obtain ⟨u1, u2⟩ := xadv h g1
    unfold gXopen
    rw [hy]
    by_cases c3 : pnx T n a = 40
    · rw [if_pos (show o = true ∧ pnx T n a = 40 from ⟨c.1, c3⟩), if_pos c3]
      have x := hE.1 (xad f) L (a + 1) d u1
      rw [u2] at x
      have G := gE (a + 1)
      obtain ⟨f2, e2⟩ : ∃ z : sg_F, z = E (xad f) L := ⟨_, rfl⟩
      rw [← e2] at x ⊢
      obtain ⟨r, er⟩ : ∃ z : pR, z = PE (a + 1) := ⟨_, rfl⟩
      rw [← er] at x G ⊢
      obtain ⟨p, r2, s, v⟩ := r
      cases r2 with
      | true =>
        obtain ⟨x1, x2⟩ := x.1 rfl
        show xG T n d (f 6) (if true = true then (if pnx T n p = 41 then (p + 1, true, s, v) else pbad p) else pbad p) _
        rw [if_pos rfl, xnext x1 L]
        by_cases c4 : pnx T n p = 41
        · rw [if_pos c4, if_pos c4]
          obtain ⟨k1, k2⟩ := pnx_lt (T := T) (n := n) (a := p) (by omega)
          obtain ⟨y1, y2⟩ := xadv x1 k1
          exact xG.ok y1 rfl ⟨fun i hi => by rw [y2]; exact x2.1 i hi, by rw [y2]; exact x2.2⟩
        · rw [if_neg c4, if_neg c4]
          exact xG.bad (xfail x1 L)
      | false =>
        have x1 := x.2 rfl
        show xG T n d (f 6) (if false = true then _ else pbad p) _
        rw [if_neg Bool.false_ne_true, if_neg (by rw [xnextF x1 L]; decide)]
        exact xG.bad (xfailF x1 L)
    rw [if_neg (fun z => c3 z.2), if_neg c3]
    have x := hO.1 (xad f) L (a + 1) d u1
    rw [u2] at x
    have G := gO (a + 1)
    obtain ⟨f2, e2⟩ : ∃ z : sg_F, z = O (xad f) L := ⟨_, rfl⟩
    rw [← e2] at x ⊢
    obtain ⟨r, er⟩ : ∃ z : pR, z = PO (a + 1) := ⟨_, rfl⟩
    rw [← er] at x G ⊢
    obtain ⟨p, r2, s, v⟩ := r
    have wr : ∀ (t : Int32) (v' : pV), xG T n d (f 6) (p, r2, s ++ [t], v') (sX5_write t f2 L) := by
      intro t v'
      cases r2 with
      | true =>
        obtain ⟨x1, x2⟩ := x.1 rfl
        obtain ⟨G1, G2, G3, -, -⟩ := G rfl
        have G3 : s.length + (a + 1) ≤ p := G3
        obtain ⟨y1, y2⟩ := xwr x1 (by show d + s.length + 1 ≤ p; omega) t L
        exact xG.ok y1 (by rw [List.length_append]; show d + s.length + 1 = d + (s.length + 1); omega) (x2.app rfl y2)
      | false => exact xG.bad (xwrF (x.2 rfl) t L)
    by_cases c4 : pnx T n a = 33
    · rw [if_pos (show o = true ∧ pnx T n a = 33 from ⟨c.1, c4⟩), if_pos c4]
      exact wr 33 _
    · rw [if_neg (fun z => c4 z.2), if_neg c4, if_pos (show o = true ∧ pnx T n a = 45 from ⟨c.1, by omega⟩)]
      exact wr 126 _
  · have hy := xnextF h L
    unfold gXopd
    rw [xdig, xnam, hy, if_neg (show ¬ ((48 : Int) ≤ -1 ∧ (-1 : Int) ≤ 57) by decide), if_neg zk0, if_neg (show ¬ ((-1 : Int) = 100 ∨ (-1 : Int) = 117 ∨ (-1 : Int) = 115 ∨ (-1 : Int) = 119 ∨ (-1 : Int) = 104 ∨ (-1 : Int) = 107) by decide), if_neg zk0, if_neg (show ¬ (o = true ∧ ((-1 : Int) = 40 ∨ (-1 : Int) = 33 ∨ (-1 : Int) = 45)) from fun z => absurd z.2 (by decide))]
    exact xfailF h L
theorem gXopd_N {T : Nat → Int32} {n : Nat} {E O : sg_F → sg_L → sg_F} (hE : ∀ (f : sg_F) (L : sg_L), xK f (E f L)) (hO : ∀ (f : sg_F) (L : sg_L), xK f (O f L)) : xO T n (gXopd false E O) (pOpd false pbad pbad T n) := by
  refine ⟨fun f L a d h => ?_, fun f L p h => ?_, gXopd_K hE hO⟩
  · have hy := xnext h L
    have hb := h.2.2.2.2.2
    unfold gXopd pOpd
    rw [xdig, xnam, hy]
    by_cases c1 : 48 ≤ pnx T n a ∧ pnx T n a ≤ 57
    · rw [if_pos c1, if_pos c1, if_pos rfl]
      exact xnum_l L 5 4 0 0 f a d h (Or.inr ⟨rfl, c1.1, c1.2⟩) (by decide) (Nat.le_refl _) (by omega)
    rw [if_neg c1, if_neg c1, if_neg zk0]
    by_cases c2 : pnx T n a = 100 ∨ pnx T n a = 117 ∨ pnx T n a = 115 ∨ pnx T n a = 119 ∨ pnx T n a = 104 ∨ pnx T n a = 107
    · rw [if_pos c2, if_pos c2, if_pos rfl]
      obtain ⟨g1, g2⟩ := pnx_lt (T := T) (n := n) (a := a) (by omega)
      obtain ⟨u1, u2⟩ := xadv h g1
      have ey : sX5_next f L = T a := Int32.toInt_inj.mp (by rw [hy, g2])
      obtain ⟨w1, w2⟩ := xwr u1 (by omega) (T a) L
      rw [u2] at w2
      rw [ey]
      exact xG.ok w1 rfl w2
    rw [if_neg c2, if_neg c2, if_neg zk0, if_neg (fun z => absurd z.1 Bool.false_ne_true), if_neg (fun z => absurd z.1 Bool.false_ne_true), if_neg (fun z => absurd z.1 Bool.false_ne_true), if_neg (fun z => absurd z.1 Bool.false_ne_true)]
    exact xG.bad (xfail h L)
  · have hy := xnextF h L
    unfold gXopd
    rw [xdig, xnam, hy, if_neg (show ¬ ((48 : Int) ≤ -1 ∧ (-1 : Int) ≤ 57) by decide), if_neg zk0, if_neg (show ¬ ((-1 : Int) = 100 ∨ (-1 : Int) = 117 ∨ (-1 : Int) = 115 ∨ (-1 : Int) = 119 ∨ (-1 : Int) = 104 ∨ (-1 : Int) = 107) by decide), if_neg zk0, if_neg (show ¬ (false = true ∧ ((-1 : Int) = 40 ∨ (-1 : Int) = 33 ∨ (-1 : Int) = 45)) from fun z => absurd z.2 (by decide))]
    exact xfailF h L
/-! each level of the class's reading is so -/
theorem gx_sX5_product_0_h (rec : Int32 → Int32 → sg_F → sg_L → sg_F) (y i : Int32) (f : sg_F) (L : sg_L) : sX5_product_0_h12 rec y i f L = gXh 0 sX5_operand_0 rec y i f L := by
  unfold sX5_product_0_h12 gXh; (repeat first | rw [spl_d] | rw [spl2_d])
  by_cases c : i.toInt < 120
  · rw [if_pos c, if_pos c]
    by_cases c42 : y.toInt = 42
    · rw [if_pos c42, if_pos (pS_0 (by omega))]
    rw [if_neg c42]
    by_cases c47 : y.toInt = 47
    · rw [if_pos c47, if_pos (pS_0 (by omega))]
    rw [if_neg c47]
    by_cases c37 : y.toInt = 37
    · rw [if_pos c37, if_pos (pS_0 (by omega))]
    rw [if_neg c37]
    rw [if_neg (pS_0n (by omega))]
  · rw [if_neg c, if_neg c]
theorem gx_sX5_product_0_l : ∀ (m : Nat) (y i : Int32) (f : sg_F) (L : sg_L), sX5_product_0_l12 m y i f L = gXl 0 sX5_operand_0 m y i f L := by
  intro m
  induction m with
  | zero => intro y i f L; rfl
  | succ m ih =>
    intro y i f L
    show sX5_product_0_h12 (sX5_product_0_l12 m) y i f L = gXh 0 sX5_operand_0 (gXl 0 sX5_operand_0 m) y i f L
    rw [gx_sX5_product_0_h]
    unfold gXh
    rw [ih]
theorem gx_sX5_product_0 : sX5_product_0 = gXc 0 sX5_operand_0 := by
  funext f L
  unfold sX5_product_0 gXc; (repeat first | rw [spl_d] | rw [spl2_d])
  exact gx_sX5_product_0_l _ _ _ _ _
theorem gx_sX5_sum_0_h (rec : Int32 → Int32 → sg_F → sg_L → sg_F) (y i : Int32) (f : sg_F) (L : sg_L) : sX5_sum_0_h12 rec y i f L = gXh 1 sX5_product_0 rec y i f L := by
  unfold sX5_sum_0_h12 gXh; (repeat first | rw [spl_d] | rw [spl2_d])
  by_cases c : i.toInt < 120
  · rw [if_pos c, if_pos c]
    by_cases c43 : y.toInt = 43
    · rw [if_pos c43, if_pos (pS_1 (by omega))]
    rw [if_neg c43]
    by_cases c45 : y.toInt = 45
    · rw [if_pos c45, if_pos (pS_1 (by omega))]
    rw [if_neg c45]
    rw [if_neg (pS_1n (by omega))]
  · rw [if_neg c, if_neg c]
theorem gx_sX5_sum_0_l : ∀ (m : Nat) (y i : Int32) (f : sg_F) (L : sg_L), sX5_sum_0_l12 m y i f L = gXl 1 sX5_product_0 m y i f L := by
  intro m
  induction m with
  | zero => intro y i f L; rfl
  | succ m ih =>
    intro y i f L
    show sX5_sum_0_h12 (sX5_sum_0_l12 m) y i f L = gXh 1 sX5_product_0 (gXl 1 sX5_product_0 m) y i f L
    rw [gx_sX5_sum_0_h]
    unfold gXh
    rw [ih]
theorem gx_sX5_sum_0 : sX5_sum_0 = gXc 1 sX5_product_0 := by
  funext f L
  unfold sX5_sum_0 gXc; (repeat first | rw [spl_d] | rw [spl2_d])
  exact gx_sX5_sum_0_l _ _ _ _ _
theorem gx_sX5_compared_0 : sX5_compared_0 = gXo 2 sX5_sum_0 := by
  funext f L
  unfold sX5_compared_0 gXo; (repeat first | rw [spl_d] | rw [spl2_d])
  by_cases c60 : (sX5_next (sX5_sum_0 f L) L).toInt = 60
  · rw [if_pos c60, if_pos (pS_2 (by omega))]
  rw [if_neg c60]
  by_cases c61 : (sX5_next (sX5_sum_0 f L) L).toInt = 61
  · rw [if_pos c61, if_pos (pS_2 (by omega))]
  rw [if_neg c61]
  by_cases c62 : (sX5_next (sX5_sum_0 f L) L).toInt = 62
  · rw [if_pos c62, if_pos (pS_2 (by omega))]
  rw [if_neg c62]
  rw [if_neg (pS_2n (by omega))]
theorem gx_sX5_both_0_l : ∀ (m : Nat) (i : Int32) (f : sg_F) (L : sg_L), sX5_both_0_l7 m i f L = gXl 3 sX5_compared_0 m (sX5_next f L) i f L := by
  intro m
  induction m with
  | zero => intro i f L; rfl
  | succ m ih =>
    intro i f L
    show sX5_both_0_h7 (sX5_both_0_l7 m) i f L = gXh 3 sX5_compared_0 (gXl 3 sX5_compared_0 m) (sX5_next f L) i f L
    unfold sX5_both_0_h7 gXh; (repeat first | rw [spl_d] | rw [spl2_d])
    by_cases c : i.toInt < 120
    · rw [if_pos c, if_pos c]
      by_cases s : (sX5_next f L).toInt = 38
      · have e : sX5_next f L = 38 := Int32.toInt_inj.mp (s.trans (by decide))
        rw [if_pos s, if_pos (pS_3 s), ih, e]
      · rw [if_neg s, if_neg (pS_3n s)]
    · rw [if_neg c, if_neg c]
theorem gx_sX5_both_0 : sX5_both_0 = gXc 3 sX5_compared_0 := by
  funext f L
  unfold sX5_both_0 gXc; (repeat first | rw [spl_d] | rw [spl2_d])
  exact gx_sX5_both_0_l _ _ _ _
theorem gx_sX5_either_0_l : ∀ (m : Nat) (i : Int32) (f : sg_F) (L : sg_L), sX5_either_0_l7 m i f L = gXl 4 sX5_both_0 m (sX5_next f L) i f L := by
  intro m
  induction m with
  | zero => intro i f L; rfl
  | succ m ih =>
    intro i f L
    show sX5_either_0_h7 (sX5_either_0_l7 m) i f L = gXh 4 sX5_both_0 (gXl 4 sX5_both_0 m) (sX5_next f L) i f L
    unfold sX5_either_0_h7 gXh; (repeat first | rw [spl_d] | rw [spl2_d])
    by_cases c : i.toInt < 120
    · rw [if_pos c, if_pos c]
      by_cases s : (sX5_next f L).toInt = 124
      · have e : sX5_next f L = 124 := Int32.toInt_inj.mp (s.trans (by decide))
        rw [if_pos s, if_pos (pS_4 s), ih, e]
      · rw [if_neg s, if_neg (pS_4n s)]
    · rw [if_neg c, if_neg c]
theorem gx_sX5_either_0 : sX5_either_0 = gXc 4 sX5_both_0 := by
  funext f L
  unfold sX5_either_0 gXc; (repeat first | rw [spl_d] | rw [spl2_d])
  exact gx_sX5_either_0_l _ _ _ _
theorem gx_sX5_opened_1 (x : Int32) (f : sg_F) (L : sg_L) : sX5_opened_1 x f L = gXopen sX5_either_1 sX5_operand_1 x f L := by
  unfold sX5_opened_1 gXopen; (repeat first | rw [spl_d] | rw [spl2_d])
theorem gx_sX5_operand_0 : sX5_operand_0 = gXopd true sX5_either_1 sX5_operand_1 := by
  funext f L
  unfold sX5_operand_0 gXopd; (repeat first | rw [spl_d] | rw [spl2_d])
  by_cases c1 : sX5_isDigit (sX5_next f L) f L = 1
  · rw [if_pos c1, if_pos c1]
  rw [if_neg c1, if_neg c1]
  by_cases c2 : sX5_isName (sX5_next f L) f L = 1
  · rw [if_pos c2, if_pos c2]
  rw [if_neg c2, if_neg c2]
  by_cases d40 : (sX5_next f L).toInt = 40
  · rw [if_pos d40, if_pos ⟨rfl, Or.inl d40⟩, gx_sX5_opened_1]
  rw [if_neg d40]
  by_cases d33 : (sX5_next f L).toInt = 33
  · rw [if_pos d33, if_pos ⟨rfl, Or.inr (Or.inl d33)⟩, gx_sX5_opened_1]
  rw [if_neg d33]
  by_cases d45 : (sX5_next f L).toInt = 45
  · rw [if_pos d45, if_pos ⟨rfl, Or.inr (Or.inr d45)⟩, gx_sX5_opened_1]
  rw [if_neg d45]
  rw [if_neg (fun w => by have := w.2; omega)]
theorem gx_sX5_product_1_h (rec : Int32 → Int32 → sg_F → sg_L → sg_F) (y i : Int32) (f : sg_F) (L : sg_L) : sX5_product_1_h12 rec y i f L = gXh 0 sX5_operand_1 rec y i f L := by
  unfold sX5_product_1_h12 gXh; (repeat first | rw [spl_d] | rw [spl2_d])
  by_cases c : i.toInt < 120
  · rw [if_pos c, if_pos c]
    by_cases c42 : y.toInt = 42
    · rw [if_pos c42, if_pos (pS_0 (by omega))]
    rw [if_neg c42]
    by_cases c47 : y.toInt = 47
    · rw [if_pos c47, if_pos (pS_0 (by omega))]
    rw [if_neg c47]
    by_cases c37 : y.toInt = 37
    · rw [if_pos c37, if_pos (pS_0 (by omega))]
    rw [if_neg c37]
    rw [if_neg (pS_0n (by omega))]
  · rw [if_neg c, if_neg c]
theorem gx_sX5_product_1_l : ∀ (m : Nat) (y i : Int32) (f : sg_F) (L : sg_L), sX5_product_1_l12 m y i f L = gXl 0 sX5_operand_1 m y i f L := by
  intro m
  induction m with
  | zero => intro y i f L; rfl
  | succ m ih =>
    intro y i f L
    show sX5_product_1_h12 (sX5_product_1_l12 m) y i f L = gXh 0 sX5_operand_1 (gXl 0 sX5_operand_1 m) y i f L
    rw [gx_sX5_product_1_h]
    unfold gXh
    rw [ih]
theorem gx_sX5_product_1 : sX5_product_1 = gXc 0 sX5_operand_1 := by
  funext f L
  unfold sX5_product_1 gXc; (repeat first | rw [spl_d] | rw [spl2_d])
  exact gx_sX5_product_1_l _ _ _ _ _
theorem gx_sX5_sum_1_h (rec : Int32 → Int32 → sg_F → sg_L → sg_F) (y i : Int32) (f : sg_F) (L : sg_L) : sX5_sum_1_h12 rec y i f L = gXh 1 sX5_product_1 rec y i f L := by
  unfold sX5_sum_1_h12 gXh; (repeat first | rw [spl_d] | rw [spl2_d])
  by_cases c : i.toInt < 120
  · rw [if_pos c, if_pos c]
    by_cases c43 : y.toInt = 43
    · rw [if_pos c43, if_pos (pS_1 (by omega))]
    rw [if_neg c43]
    by_cases c45 : y.toInt = 45
    · rw [if_pos c45, if_pos (pS_1 (by omega))]
    rw [if_neg c45]
    rw [if_neg (pS_1n (by omega))]
  · rw [if_neg c, if_neg c]
theorem gx_sX5_sum_1_l : ∀ (m : Nat) (y i : Int32) (f : sg_F) (L : sg_L), sX5_sum_1_l12 m y i f L = gXl 1 sX5_product_1 m y i f L := by
  intro m
  induction m with
  | zero => intro y i f L; rfl
  | succ m ih =>
    intro y i f L
    show sX5_sum_1_h12 (sX5_sum_1_l12 m) y i f L = gXh 1 sX5_product_1 (gXl 1 sX5_product_1 m) y i f L
    rw [gx_sX5_sum_1_h]
    unfold gXh
    rw [ih]
theorem gx_sX5_sum_1 : sX5_sum_1 = gXc 1 sX5_product_1 := by
  funext f L
  unfold sX5_sum_1 gXc; (repeat first | rw [spl_d] | rw [spl2_d])
  exact gx_sX5_sum_1_l _ _ _ _ _
theorem gx_sX5_compared_1 : sX5_compared_1 = gXo 2 sX5_sum_1 := by
  funext f L
  unfold sX5_compared_1 gXo; (repeat first | rw [spl_d] | rw [spl2_d])
  by_cases c60 : (sX5_next (sX5_sum_1 f L) L).toInt = 60
  · rw [if_pos c60, if_pos (pS_2 (by omega))]
  rw [if_neg c60]
  by_cases c61 : (sX5_next (sX5_sum_1 f L) L).toInt = 61
  · rw [if_pos c61, if_pos (pS_2 (by omega))]
  rw [if_neg c61]
  by_cases c62 : (sX5_next (sX5_sum_1 f L) L).toInt = 62
  · rw [if_pos c62, if_pos (pS_2 (by omega))]
  rw [if_neg c62]
  rw [if_neg (pS_2n (by omega))]
theorem gx_sX5_both_1_l : ∀ (m : Nat) (i : Int32) (f : sg_F) (L : sg_L), sX5_both_1_l7 m i f L = gXl 3 sX5_compared_1 m (sX5_next f L) i f L := by
  intro m
  induction m with
  | zero => intro i f L; rfl
  | succ m ih =>
    intro i f L
    show sX5_both_1_h7 (sX5_both_1_l7 m) i f L = gXh 3 sX5_compared_1 (gXl 3 sX5_compared_1 m) (sX5_next f L) i f L
    unfold sX5_both_1_h7 gXh; (repeat first | rw [spl_d] | rw [spl2_d])
    by_cases c : i.toInt < 120
    · rw [if_pos c, if_pos c]
      by_cases s : (sX5_next f L).toInt = 38
      · have e : sX5_next f L = 38 := Int32.toInt_inj.mp (s.trans (by decide))
        rw [if_pos s, if_pos (pS_3 s), ih, e]
      · rw [if_neg s, if_neg (pS_3n s)]
    · rw [if_neg c, if_neg c]
theorem gx_sX5_both_1 : sX5_both_1 = gXc 3 sX5_compared_1 := by
  funext f L
  unfold sX5_both_1 gXc; (repeat first | rw [spl_d] | rw [spl2_d])
  exact gx_sX5_both_1_l _ _ _ _
theorem gx_sX5_either_1_l : ∀ (m : Nat) (i : Int32) (f : sg_F) (L : sg_L), sX5_either_1_l7 m i f L = gXl 4 sX5_both_1 m (sX5_next f L) i f L := by
  intro m
  induction m with
  | zero => intro i f L; rfl
  | succ m ih =>
    intro i f L
    show sX5_either_1_h7 (sX5_either_1_l7 m) i f L = gXh 4 sX5_both_1 (gXl 4 sX5_both_1 m) (sX5_next f L) i f L
    unfold sX5_either_1_h7 gXh; (repeat first | rw [spl_d] | rw [spl2_d])
    by_cases c : i.toInt < 120
    · rw [if_pos c, if_pos c]
      by_cases s : (sX5_next f L).toInt = 124
      · have e : sX5_next f L = 124 := Int32.toInt_inj.mp (s.trans (by decide))
        rw [if_pos s, if_pos (pS_4 s), ih, e]
      · rw [if_neg s, if_neg (pS_4n s)]
    · rw [if_neg c, if_neg c]
theorem gx_sX5_either_1 : sX5_either_1 = gXc 4 sX5_both_1 := by
  funext f L
  unfold sX5_either_1 gXc; (repeat first | rw [spl_d] | rw [spl2_d])
  exact gx_sX5_either_1_l _ _ _ _
theorem gx_sX5_opened_2 (x : Int32) (f : sg_F) (L : sg_L) : sX5_opened_2 x f L = gXopen sX5_either_2 sX5_operand_2 x f L := by
  unfold sX5_opened_2 gXopen; (repeat first | rw [spl_d] | rw [spl2_d])
theorem gx_sX5_operand_1 : sX5_operand_1 = gXopd true sX5_either_2 sX5_operand_2 := by
  funext f L
  unfold sX5_operand_1 gXopd; (repeat first | rw [spl_d] | rw [spl2_d])
  by_cases c1 : sX5_isDigit (sX5_next f L) f L = 1
  · rw [if_pos c1, if_pos c1]
  rw [if_neg c1, if_neg c1]
  by_cases c2 : sX5_isName (sX5_next f L) f L = 1
  · rw [if_pos c2, if_pos c2]
  rw [if_neg c2, if_neg c2]
  by_cases d40 : (sX5_next f L).toInt = 40
  · rw [if_pos d40, if_pos ⟨rfl, Or.inl d40⟩, gx_sX5_opened_2]
  rw [if_neg d40]
  by_cases d33 : (sX5_next f L).toInt = 33
  · rw [if_pos d33, if_pos ⟨rfl, Or.inr (Or.inl d33)⟩, gx_sX5_opened_2]
  rw [if_neg d33]
  by_cases d45 : (sX5_next f L).toInt = 45
  · rw [if_pos d45, if_pos ⟨rfl, Or.inr (Or.inr d45)⟩, gx_sX5_opened_2]
  rw [if_neg d45]
  rw [if_neg (fun w => by have := w.2; omega)]
theorem gx_sX5_product_2_h (rec : Int32 → Int32 → sg_F → sg_L → sg_F) (y i : Int32) (f : sg_F) (L : sg_L) : sX5_product_2_h12 rec y i f L = gXh 0 sX5_operand_2 rec y i f L := by
  unfold sX5_product_2_h12 gXh; (repeat first | rw [spl_d] | rw [spl2_d])
  by_cases c : i.toInt < 120
  · rw [if_pos c, if_pos c]
    by_cases c42 : y.toInt = 42
    · rw [if_pos c42, if_pos (pS_0 (by omega))]
    rw [if_neg c42]
    by_cases c47 : y.toInt = 47
    · rw [if_pos c47, if_pos (pS_0 (by omega))]
    rw [if_neg c47]
    by_cases c37 : y.toInt = 37
    · rw [if_pos c37, if_pos (pS_0 (by omega))]
    rw [if_neg c37]
    rw [if_neg (pS_0n (by omega))]
  · rw [if_neg c, if_neg c]
theorem gx_sX5_product_2_l : ∀ (m : Nat) (y i : Int32) (f : sg_F) (L : sg_L), sX5_product_2_l12 m y i f L = gXl 0 sX5_operand_2 m y i f L := by
  intro m
  induction m with
  | zero => intro y i f L; rfl
  | succ m ih =>
    intro y i f L
    show sX5_product_2_h12 (sX5_product_2_l12 m) y i f L = gXh 0 sX5_operand_2 (gXl 0 sX5_operand_2 m) y i f L
    rw [gx_sX5_product_2_h]
    unfold gXh
    rw [ih]
theorem gx_sX5_product_2 : sX5_product_2 = gXc 0 sX5_operand_2 := by
  funext f L
  unfold sX5_product_2 gXc; (repeat first | rw [spl_d] | rw [spl2_d])
  exact gx_sX5_product_2_l _ _ _ _ _
theorem gx_sX5_sum_2_h (rec : Int32 → Int32 → sg_F → sg_L → sg_F) (y i : Int32) (f : sg_F) (L : sg_L) : sX5_sum_2_h12 rec y i f L = gXh 1 sX5_product_2 rec y i f L := by
  unfold sX5_sum_2_h12 gXh; (repeat first | rw [spl_d] | rw [spl2_d])
  by_cases c : i.toInt < 120
  · rw [if_pos c, if_pos c]
    by_cases c43 : y.toInt = 43
    · rw [if_pos c43, if_pos (pS_1 (by omega))]
    rw [if_neg c43]
    by_cases c45 : y.toInt = 45
    · rw [if_pos c45, if_pos (pS_1 (by omega))]
    rw [if_neg c45]
    rw [if_neg (pS_1n (by omega))]
  · rw [if_neg c, if_neg c]
theorem gx_sX5_sum_2_l : ∀ (m : Nat) (y i : Int32) (f : sg_F) (L : sg_L), sX5_sum_2_l12 m y i f L = gXl 1 sX5_product_2 m y i f L := by
  intro m
  induction m with
  | zero => intro y i f L; rfl
  | succ m ih =>
    intro y i f L
    show sX5_sum_2_h12 (sX5_sum_2_l12 m) y i f L = gXh 1 sX5_product_2 (gXl 1 sX5_product_2 m) y i f L
    rw [gx_sX5_sum_2_h]
    unfold gXh
    rw [ih]
theorem gx_sX5_sum_2 : sX5_sum_2 = gXc 1 sX5_product_2 := by
  funext f L
  unfold sX5_sum_2 gXc; (repeat first | rw [spl_d] | rw [spl2_d])
  exact gx_sX5_sum_2_l _ _ _ _ _
theorem gx_sX5_compared_2 : sX5_compared_2 = gXo 2 sX5_sum_2 := by
  funext f L
  unfold sX5_compared_2 gXo; (repeat first | rw [spl_d] | rw [spl2_d])
  by_cases c60 : (sX5_next (sX5_sum_2 f L) L).toInt = 60
  · rw [if_pos c60, if_pos (pS_2 (by omega))]
  rw [if_neg c60]
  by_cases c61 : (sX5_next (sX5_sum_2 f L) L).toInt = 61
  · rw [if_pos c61, if_pos (pS_2 (by omega))]
  rw [if_neg c61]
  by_cases c62 : (sX5_next (sX5_sum_2 f L) L).toInt = 62
  · rw [if_pos c62, if_pos (pS_2 (by omega))]
  rw [if_neg c62]
  rw [if_neg (pS_2n (by omega))]
theorem gx_sX5_both_2_l : ∀ (m : Nat) (i : Int32) (f : sg_F) (L : sg_L), sX5_both_2_l7 m i f L = gXl 3 sX5_compared_2 m (sX5_next f L) i f L := by
  intro m
  induction m with
  | zero => intro i f L; rfl
  | succ m ih =>
    intro i f L
    show sX5_both_2_h7 (sX5_both_2_l7 m) i f L = gXh 3 sX5_compared_2 (gXl 3 sX5_compared_2 m) (sX5_next f L) i f L
    unfold sX5_both_2_h7 gXh; (repeat first | rw [spl_d] | rw [spl2_d])
    by_cases c : i.toInt < 120
    · rw [if_pos c, if_pos c]
      by_cases s : (sX5_next f L).toInt = 38
      · have e : sX5_next f L = 38 := Int32.toInt_inj.mp (s.trans (by decide))
        rw [if_pos s, if_pos (pS_3 s), ih, e]
      · rw [if_neg s, if_neg (pS_3n s)]
    · rw [if_neg c, if_neg c]
theorem gx_sX5_both_2 : sX5_both_2 = gXc 3 sX5_compared_2 := by
  funext f L
  unfold sX5_both_2 gXc; (repeat first | rw [spl_d] | rw [spl2_d])
  exact gx_sX5_both_2_l _ _ _ _
theorem gx_sX5_either_2_l : ∀ (m : Nat) (i : Int32) (f : sg_F) (L : sg_L), sX5_either_2_l7 m i f L = gXl 4 sX5_both_2 m (sX5_next f L) i f L := by
  intro m
  induction m with
  | zero => intro i f L; rfl
  | succ m ih =>
    intro i f L
    show sX5_either_2_h7 (sX5_either_2_l7 m) i f L = gXh 4 sX5_both_2 (gXl 4 sX5_both_2 m) (sX5_next f L) i f L
    unfold sX5_either_2_h7 gXh; (repeat first | rw [spl_d] | rw [spl2_d])
    by_cases c : i.toInt < 120
    · rw [if_pos c, if_pos c]
      by_cases s : (sX5_next f L).toInt = 124
      · have e : sX5_next f L = 124 := Int32.toInt_inj.mp (s.trans (by decide))
        rw [if_pos s, if_pos (pS_4 s), ih, e]
      · rw [if_neg s, if_neg (pS_4n s)]
    · rw [if_neg c, if_neg c]
theorem gx_sX5_either_2 : sX5_either_2 = gXc 4 sX5_both_2 := by
  funext f L
  unfold sX5_either_2 gXc; (repeat first | rw [spl_d] | rw [spl2_d])
  exact gx_sX5_either_2_l _ _ _ _
theorem gx_sX5_opened_3 (x : Int32) (f : sg_F) (L : sg_L) : sX5_opened_3 x f L = gXopen sX5_either_3 sX5_operand_3 x f L := by
  unfold sX5_opened_3 gXopen; (repeat first | rw [spl_d] | rw [spl2_d])
theorem gx_sX5_operand_2 : sX5_operand_2 = gXopd true sX5_either_3 sX5_operand_3 := by
  funext f L
  unfold sX5_operand_2 gXopd; (repeat first | rw [spl_d] | rw [spl2_d])
  by_cases c1 : sX5_isDigit (sX5_next f L) f L = 1
  · rw [if_pos c1, if_pos c1]
  rw [if_neg c1, if_neg c1]
  by_cases c2 : sX5_isName (sX5_next f L) f L = 1
  · rw [if_pos c2, if_pos c2]
  rw [if_neg c2, if_neg c2]
  by_cases d40 : (sX5_next f L).toInt = 40
  · rw [if_pos d40, if_pos ⟨rfl, Or.inl d40⟩, gx_sX5_opened_3]
  rw [if_neg d40]
  by_cases d33 : (sX5_next f L).toInt = 33
  · rw [if_pos d33, if_pos ⟨rfl, Or.inr (Or.inl d33)⟩, gx_sX5_opened_3]
  rw [if_neg d33]
  by_cases d45 : (sX5_next f L).toInt = 45
  · rw [if_pos d45, if_pos ⟨rfl, Or.inr (Or.inr d45)⟩, gx_sX5_opened_3]
  rw [if_neg d45]
  rw [if_neg (fun w => by have := w.2; omega)]
theorem gx_sX5_product_3_h (rec : Int32 → Int32 → sg_F → sg_L → sg_F) (y i : Int32) (f : sg_F) (L : sg_L) : sX5_product_3_h12 rec y i f L = gXh 0 sX5_operand_3 rec y i f L := by
  unfold sX5_product_3_h12 gXh; (repeat first | rw [spl_d] | rw [spl2_d])
  by_cases c : i.toInt < 120
  · rw [if_pos c, if_pos c]
    by_cases c42 : y.toInt = 42
    · rw [if_pos c42, if_pos (pS_0 (by omega))]
    rw [if_neg c42]
    by_cases c47 : y.toInt = 47
    · rw [if_pos c47, if_pos (pS_0 (by omega))]
    rw [if_neg c47]
    by_cases c37 : y.toInt = 37
    · rw [if_pos c37, if_pos (pS_0 (by omega))]
    rw [if_neg c37]
    rw [if_neg (pS_0n (by omega))]
  · rw [if_neg c, if_neg c]
theorem gx_sX5_product_3_l : ∀ (m : Nat) (y i : Int32) (f : sg_F) (L : sg_L), sX5_product_3_l12 m y i f L = gXl 0 sX5_operand_3 m y i f L := by
  intro m
  induction m with
  | zero => intro y i f L; rfl
  | succ m ih =>
    intro y i f L
    show sX5_product_3_h12 (sX5_product_3_l12 m) y i f L = gXh 0 sX5_operand_3 (gXl 0 sX5_operand_3 m) y i f L
    rw [gx_sX5_product_3_h]
    unfold gXh
    rw [ih]
theorem gx_sX5_product_3 : sX5_product_3 = gXc 0 sX5_operand_3 := by
  funext f L
  unfold sX5_product_3 gXc; (repeat first | rw [spl_d] | rw [spl2_d])
  exact gx_sX5_product_3_l _ _ _ _ _
theorem gx_sX5_sum_3_h (rec : Int32 → Int32 → sg_F → sg_L → sg_F) (y i : Int32) (f : sg_F) (L : sg_L) : sX5_sum_3_h12 rec y i f L = gXh 1 sX5_product_3 rec y i f L := by
  unfold sX5_sum_3_h12 gXh; (repeat first | rw [spl_d] | rw [spl2_d])
  by_cases c : i.toInt < 120
  · rw [if_pos c, if_pos c]
    by_cases c43 : y.toInt = 43
    · rw [if_pos c43, if_pos (pS_1 (by omega))]
    rw [if_neg c43]
    by_cases c45 : y.toInt = 45
    · rw [if_pos c45, if_pos (pS_1 (by omega))]
    rw [if_neg c45]
    rw [if_neg (pS_1n (by omega))]
  · rw [if_neg c, if_neg c]
theorem gx_sX5_sum_3_l : ∀ (m : Nat) (y i : Int32) (f : sg_F) (L : sg_L), sX5_sum_3_l12 m y i f L = gXl 1 sX5_product_3 m y i f L := by
  intro m
  induction m with
  | zero => intro y i f L; rfl
  | succ m ih =>
    intro y i f L
    show sX5_sum_3_h12 (sX5_sum_3_l12 m) y i f L = gXh 1 sX5_product_3 (gXl 1 sX5_product_3 m) y i f L
    rw [gx_sX5_sum_3_h]
    unfold gXh
    rw [ih]
theorem gx_sX5_sum_3 : sX5_sum_3 = gXc 1 sX5_product_3 := by
  funext f L
  unfold sX5_sum_3 gXc; (repeat first | rw [spl_d] | rw [spl2_d])
  exact gx_sX5_sum_3_l _ _ _ _ _
theorem gx_sX5_compared_3 : sX5_compared_3 = gXo 2 sX5_sum_3 := by
  funext f L
  unfold sX5_compared_3 gXo; (repeat first | rw [spl_d] | rw [spl2_d])
  by_cases c60 : (sX5_next (sX5_sum_3 f L) L).toInt = 60
  · rw [if_pos c60, if_pos (pS_2 (by omega))]
  rw [if_neg c60]
  by_cases c61 : (sX5_next (sX5_sum_3 f L) L).toInt = 61
  · rw [if_pos c61, if_pos (pS_2 (by omega))]
  rw [if_neg c61]
  by_cases c62 : (sX5_next (sX5_sum_3 f L) L).toInt = 62
  · rw [if_pos c62, if_pos (pS_2 (by omega))]
  rw [if_neg c62]
  rw [if_neg (pS_2n (by omega))]
theorem gx_sX5_both_3_l : ∀ (m : Nat) (i : Int32) (f : sg_F) (L : sg_L), sX5_both_3_l7 m i f L = gXl 3 sX5_compared_3 m (sX5_next f L) i f L := by
  intro m
  induction m with
  | zero => intro i f L; rfl
  | succ m ih =>
    intro i f L
    show sX5_both_3_h7 (sX5_both_3_l7 m) i f L = gXh 3 sX5_compared_3 (gXl 3 sX5_compared_3 m) (sX5_next f L) i f L
    unfold sX5_both_3_h7 gXh; (repeat first | rw [spl_d] | rw [spl2_d])
    by_cases c : i.toInt < 120
    · rw [if_pos c, if_pos c]
      by_cases s : (sX5_next f L).toInt = 38
      · have e : sX5_next f L = 38 := Int32.toInt_inj.mp (s.trans (by decide))
        rw [if_pos s, if_pos (pS_3 s), ih, e]
      · rw [if_neg s, if_neg (pS_3n s)]
    · rw [if_neg c, if_neg c]
theorem gx_sX5_both_3 : sX5_both_3 = gXc 3 sX5_compared_3 := by
  funext f L
  unfold sX5_both_3 gXc; (repeat first | rw [spl_d] | rw [spl2_d])
  exact gx_sX5_both_3_l _ _ _ _
theorem gx_sX5_either_3_l : ∀ (m : Nat) (i : Int32) (f : sg_F) (L : sg_L), sX5_either_3_l7 m i f L = gXl 4 sX5_both_3 m (sX5_next f L) i f L := by
  intro m
  induction m with
  | zero => intro i f L; rfl
  | succ m ih =>
    intro i f L
    show sX5_either_3_h7 (sX5_either_3_l7 m) i f L = gXh 4 sX5_both_3 (gXl 4 sX5_both_3 m) (sX5_next f L) i f L
    unfold sX5_either_3_h7 gXh; (repeat first | rw [spl_d] | rw [spl2_d])
    by_cases c : i.toInt < 120
    · rw [if_pos c, if_pos c]
      by_cases s : (sX5_next f L).toInt = 124
      · have e : sX5_next f L = 124 := Int32.toInt_inj.mp (s.trans (by decide))
        rw [if_pos s, if_pos (pS_4 s), ih, e]
      · rw [if_neg s, if_neg (pS_4n s)]
    · rw [if_neg c, if_neg c]
theorem gx_sX5_either_3 : sX5_either_3 = gXc 4 sX5_both_3 := by
  funext f L
  unfold sX5_either_3 gXc; (repeat first | rw [spl_d] | rw [spl2_d])
  exact gx_sX5_either_3_l _ _ _ _
theorem gx_sX5_opened_4 (x : Int32) (f : sg_F) (L : sg_L) : sX5_opened_4 x f L = gXopen sX5_either_4 sX5_operand_4 x f L := by
  unfold sX5_opened_4 gXopen; (repeat first | rw [spl_d] | rw [spl2_d])
theorem gx_sX5_operand_3 : sX5_operand_3 = gXopd true sX5_either_4 sX5_operand_4 := by
  funext f L
  unfold sX5_operand_3 gXopd; (repeat first | rw [spl_d] | rw [spl2_d])
  by_cases c1 : sX5_isDigit (sX5_next f L) f L = 1
  · rw [if_pos c1, if_pos c1]
  rw [if_neg c1, if_neg c1]
  by_cases c2 : sX5_isName (sX5_next f L) f L = 1
  · rw [if_pos c2, if_pos c2]
  rw [if_neg c2, if_neg c2]
  by_cases d40 : (sX5_next f L).toInt = 40
  · rw [if_pos d40, if_pos ⟨rfl, Or.inl d40⟩, gx_sX5_opened_4]
  rw [if_neg d40]
  by_cases d33 : (sX5_next f L).toInt = 33
  · rw [if_pos d33, if_pos ⟨rfl, Or.inr (Or.inl d33)⟩, gx_sX5_opened_4]
  rw [if_neg d33]
  by_cases d45 : (sX5_next f L).toInt = 45
  · rw [if_pos d45, if_pos ⟨rfl, Or.inr (Or.inr d45)⟩, gx_sX5_opened_4]
  rw [if_neg d45]
  rw [if_neg (fun w => by have := w.2; omega)]
theorem gx_sX5_product_4_h (rec : Int32 → Int32 → sg_F → sg_L → sg_F) (y i : Int32) (f : sg_F) (L : sg_L) : sX5_product_4_h12 rec y i f L = gXh 0 sX5_operand_4 rec y i f L := by
  unfold sX5_product_4_h12 gXh; (repeat first | rw [spl_d] | rw [spl2_d])
  by_cases c : i.toInt < 120
  · rw [if_pos c, if_pos c]
    by_cases c42 : y.toInt = 42
    · rw [if_pos c42, if_pos (pS_0 (by omega))]
    rw [if_neg c42]
    by_cases c47 : y.toInt = 47
    · rw [if_pos c47, if_pos (pS_0 (by omega))]
    rw [if_neg c47]
    by_cases c37 : y.toInt = 37
    · rw [if_pos c37, if_pos (pS_0 (by omega))]
    rw [if_neg c37]
    rw [if_neg (pS_0n (by omega))]
  · rw [if_neg c, if_neg c]
theorem gx_sX5_product_4_l : ∀ (m : Nat) (y i : Int32) (f : sg_F) (L : sg_L), sX5_product_4_l12 m y i f L = gXl 0 sX5_operand_4 m y i f L := by
  intro m
  induction m with
  | zero => intro y i f L; rfl
  | succ m ih =>
    intro y i f L
    show sX5_product_4_h12 (sX5_product_4_l12 m) y i f L = gXh 0 sX5_operand_4 (gXl 0 sX5_operand_4 m) y i f L
    rw [gx_sX5_product_4_h]
    unfold gXh
    rw [ih]
theorem gx_sX5_product_4 : sX5_product_4 = gXc 0 sX5_operand_4 := by
  funext f L
  unfold sX5_product_4 gXc; (repeat first | rw [spl_d] | rw [spl2_d])
  exact gx_sX5_product_4_l _ _ _ _ _
theorem gx_sX5_sum_4_h (rec : Int32 → Int32 → sg_F → sg_L → sg_F) (y i : Int32) (f : sg_F) (L : sg_L) : sX5_sum_4_h12 rec y i f L = gXh 1 sX5_product_4 rec y i f L := by
  unfold sX5_sum_4_h12 gXh; (repeat first | rw [spl_d] | rw [spl2_d])
  by_cases c : i.toInt < 120
  · rw [if_pos c, if_pos c]
    by_cases c43 : y.toInt = 43
    · rw [if_pos c43, if_pos (pS_1 (by omega))]
    rw [if_neg c43]
    by_cases c45 : y.toInt = 45
    · rw [if_pos c45, if_pos (pS_1 (by omega))]
    rw [if_neg c45]
    rw [if_neg (pS_1n (by omega))]
  · rw [if_neg c, if_neg c]
theorem gx_sX5_sum_4_l : ∀ (m : Nat) (y i : Int32) (f : sg_F) (L : sg_L), sX5_sum_4_l12 m y i f L = gXl 1 sX5_product_4 m y i f L := by
  intro m
  induction m with
  | zero => intro y i f L; rfl
  | succ m ih =>
    intro y i f L
    show sX5_sum_4_h12 (sX5_sum_4_l12 m) y i f L = gXh 1 sX5_product_4 (gXl 1 sX5_product_4 m) y i f L
    rw [gx_sX5_sum_4_h]
    unfold gXh
    rw [ih]
theorem gx_sX5_sum_4 : sX5_sum_4 = gXc 1 sX5_product_4 := by
  funext f L
  unfold sX5_sum_4 gXc; (repeat first | rw [spl_d] | rw [spl2_d])
  exact gx_sX5_sum_4_l _ _ _ _ _
theorem gx_sX5_compared_4 : sX5_compared_4 = gXo 2 sX5_sum_4 := by
  funext f L
  unfold sX5_compared_4 gXo; (repeat first | rw [spl_d] | rw [spl2_d])
  by_cases c60 : (sX5_next (sX5_sum_4 f L) L).toInt = 60
  · rw [if_pos c60, if_pos (pS_2 (by omega))]
  rw [if_neg c60]
  by_cases c61 : (sX5_next (sX5_sum_4 f L) L).toInt = 61
  · rw [if_pos c61, if_pos (pS_2 (by omega))]
  rw [if_neg c61]
  by_cases c62 : (sX5_next (sX5_sum_4 f L) L).toInt = 62
  · rw [if_pos c62, if_pos (pS_2 (by omega))]
  rw [if_neg c62]
  rw [if_neg (pS_2n (by omega))]
theorem gx_sX5_both_4_l : ∀ (m : Nat) (i : Int32) (f : sg_F) (L : sg_L), sX5_both_4_l7 m i f L = gXl 3 sX5_compared_4 m (sX5_next f L) i f L := by
  intro m
  induction m with
  | zero => intro i f L; rfl
  | succ m ih =>
    intro i f L
    show sX5_both_4_h7 (sX5_both_4_l7 m) i f L = gXh 3 sX5_compared_4 (gXl 3 sX5_compared_4 m) (sX5_next f L) i f L
    unfold sX5_both_4_h7 gXh; (repeat first | rw [spl_d] | rw [spl2_d])
    by_cases c : i.toInt < 120
    · rw [if_pos c, if_pos c]
      by_cases s : (sX5_next f L).toInt = 38
      · have e : sX5_next f L = 38 := Int32.toInt_inj.mp (s.trans (by decide))
        rw [if_pos s, if_pos (pS_3 s), ih, e]
      · rw [if_neg s, if_neg (pS_3n s)]
    · rw [if_neg c, if_neg c]
theorem gx_sX5_both_4 : sX5_both_4 = gXc 3 sX5_compared_4 := by
  funext f L
  unfold sX5_both_4 gXc; (repeat first | rw [spl_d] | rw [spl2_d])
  exact gx_sX5_both_4_l _ _ _ _
theorem gx_sX5_either_4_l : ∀ (m : Nat) (i : Int32) (f : sg_F) (L : sg_L), sX5_either_4_l7 m i f L = gXl 4 sX5_both_4 m (sX5_next f L) i f L := by
  intro m
  induction m with
  | zero => intro i f L; rfl
  | succ m ih =>
    intro i f L
    show sX5_either_4_h7 (sX5_either_4_l7 m) i f L = gXh 4 sX5_both_4 (gXl 4 sX5_both_4 m) (sX5_next f L) i f L
    unfold sX5_either_4_h7 gXh; (repeat first | rw [spl_d] | rw [spl2_d])
    by_cases c : i.toInt < 120
    · rw [if_pos c, if_pos c]
      by_cases s : (sX5_next f L).toInt = 124
      · have e : sX5_next f L = 124 := Int32.toInt_inj.mp (s.trans (by decide))
        rw [if_pos s, if_pos (pS_4 s), ih, e]
      · rw [if_neg s, if_neg (pS_4n s)]
    · rw [if_neg c, if_neg c]
theorem gx_sX5_either_4 : sX5_either_4 = gXc 4 sX5_both_4 := by
  funext f L
  unfold sX5_either_4 gXc; (repeat first | rw [spl_d] | rw [spl2_d])
  exact gx_sX5_either_4_l _ _ _ _
theorem gx_sX5_opened_5 (x : Int32) (f : sg_F) (L : sg_L) : sX5_opened_5 x f L = gXopen sX5_either_5 sX5_operand_5 x f L := by
  unfold sX5_opened_5 gXopen; (repeat first | rw [spl_d] | rw [spl2_d])
theorem gx_sX5_operand_4 : sX5_operand_4 = gXopd true sX5_either_5 sX5_operand_5 := by
  funext f L
  unfold sX5_operand_4 gXopd; (repeat first | rw [spl_d] | rw [spl2_d])
  by_cases c1 : sX5_isDigit (sX5_next f L) f L = 1
  · rw [if_pos c1, if_pos c1]
  rw [if_neg c1, if_neg c1]
  by_cases c2 : sX5_isName (sX5_next f L) f L = 1
  · rw [if_pos c2, if_pos c2]
  rw [if_neg c2, if_neg c2]
  by_cases d40 : (sX5_next f L).toInt = 40
  · rw [if_pos d40, if_pos ⟨rfl, Or.inl d40⟩, gx_sX5_opened_5]
  rw [if_neg d40]
  by_cases d33 : (sX5_next f L).toInt = 33
  · rw [if_pos d33, if_pos ⟨rfl, Or.inr (Or.inl d33)⟩, gx_sX5_opened_5]
  rw [if_neg d33]
  by_cases d45 : (sX5_next f L).toInt = 45
  · rw [if_pos d45, if_pos ⟨rfl, Or.inr (Or.inr d45)⟩, gx_sX5_opened_5]
  rw [if_neg d45]
  rw [if_neg (fun w => by have := w.2; omega)]
theorem gx_sX5_product_5_h (rec : Int32 → Int32 → sg_F → sg_L → sg_F) (y i : Int32) (f : sg_F) (L : sg_L) : sX5_product_5_h12 rec y i f L = gXh 0 sX5_operand_5 rec y i f L := by
  unfold sX5_product_5_h12 gXh; (repeat first | rw [spl_d] | rw [spl2_d])
  by_cases c : i.toInt < 120
  · rw [if_pos c, if_pos c]
    by_cases c42 : y.toInt = 42
    · rw [if_pos c42, if_pos (pS_0 (by omega))]
    rw [if_neg c42]
    by_cases c47 : y.toInt = 47
    · rw [if_pos c47, if_pos (pS_0 (by omega))]
    rw [if_neg c47]
    by_cases c37 : y.toInt = 37
    · rw [if_pos c37, if_pos (pS_0 (by omega))]
    rw [if_neg c37]
    rw [if_neg (pS_0n (by omega))]
  · rw [if_neg c, if_neg c]
theorem gx_sX5_product_5_l : ∀ (m : Nat) (y i : Int32) (f : sg_F) (L : sg_L), sX5_product_5_l12 m y i f L = gXl 0 sX5_operand_5 m y i f L := by
  intro m
  induction m with
  | zero => intro y i f L; rfl
  | succ m ih =>
    intro y i f L
    show sX5_product_5_h12 (sX5_product_5_l12 m) y i f L = gXh 0 sX5_operand_5 (gXl 0 sX5_operand_5 m) y i f L
    rw [gx_sX5_product_5_h]
    unfold gXh
    rw [ih]
theorem gx_sX5_product_5 : sX5_product_5 = gXc 0 sX5_operand_5 := by
  funext f L
  unfold sX5_product_5 gXc; (repeat first | rw [spl_d] | rw [spl2_d])
  exact gx_sX5_product_5_l _ _ _ _ _
theorem gx_sX5_sum_5_h (rec : Int32 → Int32 → sg_F → sg_L → sg_F) (y i : Int32) (f : sg_F) (L : sg_L) : sX5_sum_5_h12 rec y i f L = gXh 1 sX5_product_5 rec y i f L := by
  unfold sX5_sum_5_h12 gXh; (repeat first | rw [spl_d] | rw [spl2_d])
  by_cases c : i.toInt < 120
  · rw [if_pos c, if_pos c]
    by_cases c43 : y.toInt = 43
    · rw [if_pos c43, if_pos (pS_1 (by omega))]
    rw [if_neg c43]
    by_cases c45 : y.toInt = 45
    · rw [if_pos c45, if_pos (pS_1 (by omega))]
    rw [if_neg c45]
    rw [if_neg (pS_1n (by omega))]
  · rw [if_neg c, if_neg c]
theorem gx_sX5_sum_5_l : ∀ (m : Nat) (y i : Int32) (f : sg_F) (L : sg_L), sX5_sum_5_l12 m y i f L = gXl 1 sX5_product_5 m y i f L := by
  intro m
  induction m with
  | zero => intro y i f L; rfl
  | succ m ih =>
    intro y i f L
    show sX5_sum_5_h12 (sX5_sum_5_l12 m) y i f L = gXh 1 sX5_product_5 (gXl 1 sX5_product_5 m) y i f L
    rw [gx_sX5_sum_5_h]
    unfold gXh
    rw [ih]
theorem gx_sX5_sum_5 : sX5_sum_5 = gXc 1 sX5_product_5 := by
  funext f L
  unfold sX5_sum_5 gXc; (repeat first | rw [spl_d] | rw [spl2_d])
  exact gx_sX5_sum_5_l _ _ _ _ _
theorem gx_sX5_compared_5 : sX5_compared_5 = gXo 2 sX5_sum_5 := by
  funext f L
  unfold sX5_compared_5 gXo; (repeat first | rw [spl_d] | rw [spl2_d])
  by_cases c60 : (sX5_next (sX5_sum_5 f L) L).toInt = 60
  · rw [if_pos c60, if_pos (pS_2 (by omega))]
  rw [if_neg c60]
  by_cases c61 : (sX5_next (sX5_sum_5 f L) L).toInt = 61
  · rw [if_pos c61, if_pos (pS_2 (by omega))]
  rw [if_neg c61]
  by_cases c62 : (sX5_next (sX5_sum_5 f L) L).toInt = 62
  · rw [if_pos c62, if_pos (pS_2 (by omega))]
  rw [if_neg c62]
  rw [if_neg (pS_2n (by omega))]
theorem gx_sX5_both_5_l : ∀ (m : Nat) (i : Int32) (f : sg_F) (L : sg_L), sX5_both_5_l7 m i f L = gXl 3 sX5_compared_5 m (sX5_next f L) i f L := by
  intro m
  induction m with
  | zero => intro i f L; rfl
  | succ m ih =>
    intro i f L
    show sX5_both_5_h7 (sX5_both_5_l7 m) i f L = gXh 3 sX5_compared_5 (gXl 3 sX5_compared_5 m) (sX5_next f L) i f L
    unfold sX5_both_5_h7 gXh; (repeat first | rw [spl_d] | rw [spl2_d])
    by_cases c : i.toInt < 120
    · rw [if_pos c, if_pos c]
      by_cases s : (sX5_next f L).toInt = 38
      · have e : sX5_next f L = 38 := Int32.toInt_inj.mp (s.trans (by decide))
        rw [if_pos s, if_pos (pS_3 s), ih, e]
      · rw [if_neg s, if_neg (pS_3n s)]
    · rw [if_neg c, if_neg c]
theorem gx_sX5_both_5 : sX5_both_5 = gXc 3 sX5_compared_5 := by
  funext f L
  unfold sX5_both_5 gXc; (repeat first | rw [spl_d] | rw [spl2_d])
  exact gx_sX5_both_5_l _ _ _ _
theorem gx_sX5_either_5_l : ∀ (m : Nat) (i : Int32) (f : sg_F) (L : sg_L), sX5_either_5_l7 m i f L = gXl 4 sX5_both_5 m (sX5_next f L) i f L := by
  intro m
  induction m with
  | zero => intro i f L; rfl
  | succ m ih =>
    intro i f L
    show sX5_either_5_h7 (sX5_either_5_l7 m) i f L = gXh 4 sX5_both_5 (gXl 4 sX5_both_5 m) (sX5_next f L) i f L
    unfold sX5_either_5_h7 gXh; (repeat first | rw [spl_d] | rw [spl2_d])
    by_cases c : i.toInt < 120
    · rw [if_pos c, if_pos c]
      by_cases s : (sX5_next f L).toInt = 124
      · have e : sX5_next f L = 124 := Int32.toInt_inj.mp (s.trans (by decide))
        rw [if_pos s, if_pos (pS_4 s), ih, e]
      · rw [if_neg s, if_neg (pS_4n s)]
    · rw [if_neg c, if_neg c]
theorem gx_sX5_either_5 : sX5_either_5 = gXc 4 sX5_both_5 := by
  funext f L
  unfold sX5_either_5 gXc; (repeat first | rw [spl_d] | rw [spl2_d])
  exact gx_sX5_either_5_l _ _ _ _
theorem gx_sX5_opened_6 (x : Int32) (f : sg_F) (L : sg_L) : sX5_opened_6 x f L = gXopen sX5_either_6 sX5_operand_6 x f L := by
  unfold sX5_opened_6 gXopen; (repeat first | rw [spl_d] | rw [spl2_d])
theorem gx_sX5_operand_5 : sX5_operand_5 = gXopd true sX5_either_6 sX5_operand_6 := by
  funext f L
  unfold sX5_operand_5 gXopd; (repeat first | rw [spl_d] | rw [spl2_d])
  by_cases c1 : sX5_isDigit (sX5_next f L) f L = 1
  · rw [if_pos c1, if_pos c1]
  rw [if_neg c1, if_neg c1]
  by_cases c2 : sX5_isName (sX5_next f L) f L = 1
  · rw [if_pos c2, if_pos c2]
  rw [if_neg c2, if_neg c2]
  by_cases d40 : (sX5_next f L).toInt = 40
  · rw [if_pos d40, if_pos ⟨rfl, Or.inl d40⟩, gx_sX5_opened_6]
  rw [if_neg d40]
  by_cases d33 : (sX5_next f L).toInt = 33
  · rw [if_pos d33, if_pos ⟨rfl, Or.inr (Or.inl d33)⟩, gx_sX5_opened_6]
  rw [if_neg d33]
  by_cases d45 : (sX5_next f L).toInt = 45
  · rw [if_pos d45, if_pos ⟨rfl, Or.inr (Or.inr d45)⟩, gx_sX5_opened_6]
  rw [if_neg d45]
  rw [if_neg (fun w => by have := w.2; omega)]
theorem gx_sX5_product_6_h (rec : Int32 → Int32 → sg_F → sg_L → sg_F) (y i : Int32) (f : sg_F) (L : sg_L) : sX5_product_6_h12 rec y i f L = gXh 0 sX5_operand_6 rec y i f L := by
  unfold sX5_product_6_h12 gXh; (repeat first | rw [spl_d] | rw [spl2_d])
  by_cases c : i.toInt < 120
  · rw [if_pos c, if_pos c]
    by_cases c42 : y.toInt = 42
    · rw [if_pos c42, if_pos (pS_0 (by omega))]
    rw [if_neg c42]
    by_cases c47 : y.toInt = 47
    · rw [if_pos c47, if_pos (pS_0 (by omega))]
    rw [if_neg c47]
    by_cases c37 : y.toInt = 37
    · rw [if_pos c37, if_pos (pS_0 (by omega))]
    rw [if_neg c37]
    rw [if_neg (pS_0n (by omega))]
  · rw [if_neg c, if_neg c]
theorem gx_sX5_product_6_l : ∀ (m : Nat) (y i : Int32) (f : sg_F) (L : sg_L), sX5_product_6_l12 m y i f L = gXl 0 sX5_operand_6 m y i f L := by
  intro m
  induction m with
  | zero => intro y i f L; rfl
  | succ m ih =>
    intro y i f L
    show sX5_product_6_h12 (sX5_product_6_l12 m) y i f L = gXh 0 sX5_operand_6 (gXl 0 sX5_operand_6 m) y i f L
    rw [gx_sX5_product_6_h]
    unfold gXh
    rw [ih]
theorem gx_sX5_product_6 : sX5_product_6 = gXc 0 sX5_operand_6 := by
  funext f L
  unfold sX5_product_6 gXc; (repeat first | rw [spl_d] | rw [spl2_d])
  exact gx_sX5_product_6_l _ _ _ _ _
theorem gx_sX5_sum_6_h (rec : Int32 → Int32 → sg_F → sg_L → sg_F) (y i : Int32) (f : sg_F) (L : sg_L) : sX5_sum_6_h12 rec y i f L = gXh 1 sX5_product_6 rec y i f L := by
  unfold sX5_sum_6_h12 gXh; (repeat first | rw [spl_d] | rw [spl2_d])
  by_cases c : i.toInt < 120
  · rw [if_pos c, if_pos c]
    by_cases c43 : y.toInt = 43
    · rw [if_pos c43, if_pos (pS_1 (by omega))]
    rw [if_neg c43]
    by_cases c45 : y.toInt = 45
    · rw [if_pos c45, if_pos (pS_1 (by omega))]
    rw [if_neg c45]
    rw [if_neg (pS_1n (by omega))]
  · rw [if_neg c, if_neg c]
theorem gx_sX5_sum_6_l : ∀ (m : Nat) (y i : Int32) (f : sg_F) (L : sg_L), sX5_sum_6_l12 m y i f L = gXl 1 sX5_product_6 m y i f L := by
  intro m
  induction m with
  | zero => intro y i f L; rfl
  | succ m ih =>
    intro y i f L
    show sX5_sum_6_h12 (sX5_sum_6_l12 m) y i f L = gXh 1 sX5_product_6 (gXl 1 sX5_product_6 m) y i f L
    rw [gx_sX5_sum_6_h]
    unfold gXh
    rw [ih]
theorem gx_sX5_sum_6 : sX5_sum_6 = gXc 1 sX5_product_6 := by
  funext f L
  unfold sX5_sum_6 gXc; (repeat first | rw [spl_d] | rw [spl2_d])
  exact gx_sX5_sum_6_l _ _ _ _ _
theorem gx_sX5_compared_6 : sX5_compared_6 = gXo 2 sX5_sum_6 := by
  funext f L
  unfold sX5_compared_6 gXo; (repeat first | rw [spl_d] | rw [spl2_d])
  by_cases c60 : (sX5_next (sX5_sum_6 f L) L).toInt = 60
  · rw [if_pos c60, if_pos (pS_2 (by omega))]
  rw [if_neg c60]
  by_cases c61 : (sX5_next (sX5_sum_6 f L) L).toInt = 61
  · rw [if_pos c61, if_pos (pS_2 (by omega))]
  rw [if_neg c61]
  by_cases c62 : (sX5_next (sX5_sum_6 f L) L).toInt = 62
  · rw [if_pos c62, if_pos (pS_2 (by omega))]
  rw [if_neg c62]
  rw [if_neg (pS_2n (by omega))]
theorem gx_sX5_both_6_l : ∀ (m : Nat) (i : Int32) (f : sg_F) (L : sg_L), sX5_both_6_l7 m i f L = gXl 3 sX5_compared_6 m (sX5_next f L) i f L := by
  intro m
  induction m with
  | zero => intro i f L; rfl
  | succ m ih =>
    intro i f L
    show sX5_both_6_h7 (sX5_both_6_l7 m) i f L = gXh 3 sX5_compared_6 (gXl 3 sX5_compared_6 m) (sX5_next f L) i f L
    unfold sX5_both_6_h7 gXh; (repeat first | rw [spl_d] | rw [spl2_d])
    by_cases c : i.toInt < 120
    · rw [if_pos c, if_pos c]
      by_cases s : (sX5_next f L).toInt = 38
      · have e : sX5_next f L = 38 := Int32.toInt_inj.mp (s.trans (by decide))
        rw [if_pos s, if_pos (pS_3 s), ih, e]
      · rw [if_neg s, if_neg (pS_3n s)]
    · rw [if_neg c, if_neg c]
theorem gx_sX5_both_6 : sX5_both_6 = gXc 3 sX5_compared_6 := by
  funext f L
  unfold sX5_both_6 gXc; (repeat first | rw [spl_d] | rw [spl2_d])
  exact gx_sX5_both_6_l _ _ _ _
theorem gx_sX5_either_6_l : ∀ (m : Nat) (i : Int32) (f : sg_F) (L : sg_L), sX5_either_6_l7 m i f L = gXl 4 sX5_both_6 m (sX5_next f L) i f L := by
  intro m
  induction m with
  | zero => intro i f L; rfl
  | succ m ih =>
    intro i f L
    show sX5_either_6_h7 (sX5_either_6_l7 m) i f L = gXh 4 sX5_both_6 (gXl 4 sX5_both_6 m) (sX5_next f L) i f L
    unfold sX5_either_6_h7 gXh; (repeat first | rw [spl_d] | rw [spl2_d])
    by_cases c : i.toInt < 120
    · rw [if_pos c, if_pos c]
      by_cases s : (sX5_next f L).toInt = 124
      · have e : sX5_next f L = 124 := Int32.toInt_inj.mp (s.trans (by decide))
        rw [if_pos s, if_pos (pS_4 s), ih, e]
      · rw [if_neg s, if_neg (pS_4n s)]
    · rw [if_neg c, if_neg c]
theorem gx_sX5_either_6 : sX5_either_6 = gXc 4 sX5_both_6 := by
  funext f L
  unfold sX5_either_6 gXc; (repeat first | rw [spl_d] | rw [spl2_d])
  exact gx_sX5_either_6_l _ _ _ _
theorem gx_sX5_operand_6 : sX5_operand_6 = gXopd false (fun f _ => f) (fun f _ => f) := by
  funext f L
  unfold sX5_operand_6 gXopd; (repeat first | rw [spl_d] | rw [spl2_d])
  by_cases c1 : sX5_isDigit (sX5_next f L) f L = 1
  · rw [if_pos c1, if_pos c1]
  rw [if_neg c1, if_neg c1]
  by_cases c2 : sX5_isName (sX5_next f L) f L = 1
  · rw [if_pos c2, if_pos c2]
  rw [if_neg c2, if_neg c2]
  rw [if_neg (show ¬ (false = true ∧ ((sX5_next f L).toInt = 40 ∨ (sX5_next f L).toInt = 33 ∨ (sX5_next f L).toInt = 45)) from fun w => absurd w.1 Bool.false_ne_true)]
  (repeat' split) <;> rfl
theorem xO_exp {T : Nat → Int32} {n : Nat} {op : sg_F → sg_L → sg_F} {P : Nat → pR} (h : xO T n op P) (g : ∀ a : Nat, pG n (P a) a) : xO T n (gXc 4 (gXc 3 (gXo 2 (gXc 1 (gXc 0 op))))) (pExp P T n) := gXc_O (gXc_O (gXo_O (gXc_O (gXc_O h g) (pChain_G g)) (pChain_G (pChain_G g))) (pChain_G (pChain_G (pChain_G g)))) (pChain_G (pChain_G (pChain_G (pChain_G g))))
theorem xO_o6 {T : Nat → Int32} {n : Nat} : xO T n sX5_operand_6 (pO T n 0) := by
  rw [gx_sX5_operand_6]
  show xO T n (gXopd false (fun f _ => f) (fun f _ => f)) (pOpd false pbad pbad T n)
  exact gXopd_N (fun _ _ => xK.rf) (fun _ _ => xK.rf)
theorem xO_e6 {T : Nat → Int32} {n : Nat} : xO T n sX5_either_6 (pExp (pO T n 0) T n) := by
  rw [gx_sX5_either_6, gx_sX5_both_6, gx_sX5_compared_6, gx_sX5_sum_6, gx_sX5_product_6]
  exact xO_exp xO_o6 (pO_G 0)
theorem xO_o5 {T : Nat → Int32} {n : Nat} : xO T n sX5_operand_5 (pO T n 1) := by
  rw [gx_sX5_operand_5]
  exact gXopd_O xO_e6 xO_o6 (pExp_G (pO_G 0)) (pO_G 0)
theorem xO_e5 {T : Nat → Int32} {n : Nat} : xO T n sX5_either_5 (pExp (pO T n 1) T n) := by
  rw [gx_sX5_either_5, gx_sX5_both_5, gx_sX5_compared_5, gx_sX5_sum_5, gx_sX5_product_5]
  exact xO_exp xO_o5 (pO_G 1)
theorem xO_o4 {T : Nat → Int32} {n : Nat} : xO T n sX5_operand_4 (pO T n 2) := by
  rw [gx_sX5_operand_4]
  exact gXopd_O xO_e5 xO_o5 (pExp_G (pO_G 1)) (pO_G 1)
theorem xO_e4 {T : Nat → Int32} {n : Nat} : xO T n sX5_either_4 (pExp (pO T n 2) T n) := by
  rw [gx_sX5_either_4, gx_sX5_both_4, gx_sX5_compared_4, gx_sX5_sum_4, gx_sX5_product_4]
  exact xO_exp xO_o4 (pO_G 2)
theorem xO_o3 {T : Nat → Int32} {n : Nat} : xO T n sX5_operand_3 (pO T n 3) := by
  rw [gx_sX5_operand_3]
  exact gXopd_O xO_e4 xO_o4 (pExp_G (pO_G 2)) (pO_G 2)
theorem xO_e3 {T : Nat → Int32} {n : Nat} : xO T n sX5_either_3 (pExp (pO T n 3) T n) := by
  rw [gx_sX5_either_3, gx_sX5_both_3, gx_sX5_compared_3, gx_sX5_sum_3, gx_sX5_product_3]
  exact xO_exp xO_o3 (pO_G 3)
theorem xO_o2 {T : Nat → Int32} {n : Nat} : xO T n sX5_operand_2 (pO T n 4) := by
  rw [gx_sX5_operand_2]
  exact gXopd_O xO_e3 xO_o3 (pExp_G (pO_G 3)) (pO_G 3)
theorem xO_e2 {T : Nat → Int32} {n : Nat} : xO T n sX5_either_2 (pExp (pO T n 4) T n) := by
  rw [gx_sX5_either_2, gx_sX5_both_2, gx_sX5_compared_2, gx_sX5_sum_2, gx_sX5_product_2]
  exact xO_exp xO_o2 (pO_G 4)
theorem xO_o1 {T : Nat → Int32} {n : Nat} : xO T n sX5_operand_1 (pO T n 5) := by
  rw [gx_sX5_operand_1]
  exact gXopd_O xO_e2 xO_o2 (pExp_G (pO_G 4)) (pO_G 4)
theorem xO_e1 {T : Nat → Int32} {n : Nat} : xO T n sX5_either_1 (pExp (pO T n 5) T n) := by
  rw [gx_sX5_either_1, gx_sX5_both_1, gx_sX5_compared_1, gx_sX5_sum_1, gx_sX5_product_1]
  exact xO_exp xO_o1 (pO_G 5)
theorem xO_o0 {T : Nat → Int32} {n : Nat} : xO T n sX5_operand_0 (pO T n 6) := by
  rw [gx_sX5_operand_0]
  exact gXopd_O xO_e1 xO_o1 (pExp_G (pO_G 5)) (pO_G 5)
theorem xO_e0 {T : Nat → Int32} {n : Nat} : xO T n sX5_either_0 (pExp (pO T n 6) T n) := by
  rw [gx_sX5_either_0, gx_sX5_both_0, gx_sX5_compared_0, gx_sX5_sum_0, gx_sX5_product_0]
  exact xO_exp xO_o0 (pO_G 6)
