/-! THE LAW: the class's reading -/
/-- reading stands at a of the text, d signs are written, no fault -/
def xS (T : Nat → Int32) (n a d : Nat) (f : sg_F) : Prop := (f 4 6).toInt = a ∧ (f 4 1).toInt = n ∧ (f 4 7).toInt = -1 ∧ (f 4 8).toInt = d ∧ (∀ i : Nat, i < n → f 5 i = T i) ∧ n ≤ 120 ∧ a ≤ n ∧ d ≤ a
/-- a fault was met at p -/
def xF (n p : Nat) (f : sg_F) : Prop := (f 4 6).toInt = p ∧ (f 4 1).toInt = n ∧ (f 4 7).toInt = p ∧ p ≤ 120
/-- what is written from d on -/
def xC (c0 : Nat → Int32) (d : Nat) (c : List Int32) (f : sg_F) : Prop := (∀ i : Nat, i < d → f 6 i = c0 i) ∧ trL (f 6) d c
theorem xC.nil {f : sg_F} {d : Nat} : xC (f 6) d [] f := ⟨fun _ _ => rfl, trivial⟩
theorem xC.app {c0 : Nat → Int32} {d d1 : Nat} {c c1 : List Int32} {f f1 : sg_F} (h : xC c0 d c f) (e : d1 = d + c.length) (h1 : xC (f 6) d1 c1 f1) : xC c0 d (c ++ c1) f1 := by
  subst e
  exact ⟨fun i hi => (h1.1 i (by omega)).trans (h.1 i hi), trL.ap c d (trL.kp c d h.2 (fun j hj => h1.1 j hj)) h1.2⟩
abbrev xad (f : sg_F) : sg_F := sg_up f 4 (sgu (f 4) 6 (f 4 6 + 1))
theorem xnext {T : Nat → Int32} {n a d : Nat} {f : sg_F} (h : xS T n a d f) (L : sg_L) : (sX5_next f L).toInt = pnx T n a := by
  obtain ⟨h1, h2, h3, h4, h5, h6, h7, h8⟩ := h
  unfold sX5_next pnx; (repeat first | rw [spl_d] | rw [spl2_d])
  rw [if_pos (show (f 4 7).toInt < 0 from by omega)]
  by_cases c : a < n
  · have e := bn_clI (x := f 4 6) (by omega)
    rw [if_pos c, if_pos (show (f 4 6).toInt < (f 4 1).toInt from by omega), show (f 4 6).toNatClampNeg = a from by omega, h5 a c]
  · rw [if_neg c, if_neg (show ¬ (f 4 6).toInt < (f 4 1).toInt from by omega)]; decide
theorem xnextF {n p : Nat} {f : sg_F} (h : xF n p f) (L : sg_L) : (sX5_next f L).toInt = -1 := by
  obtain ⟨h1, h2, h3⟩ := h
  unfold sX5_next; (repeat first | rw [spl_d] | rw [spl2_d])
  rw [if_neg (show ¬ (f 4 7).toInt < 0 from by omega)]; decide
theorem xwr {T : Nat → Int32} {n a d : Nat} {f : sg_F} (h : xS T n a d f) (hd : d + 1 ≤ a) (s : Int32) (L : sg_L) : xS T n a (d + 1) (sX5_write s f L) ∧ xC (f 6) d [s] (sX5_write s f L) := by
  obtain ⟨h1, h2, h3, h4, h5, h6, h7, h8⟩ := h
  have k1 : (1 : Int32).toInt = 1 := by decide
  have e := bn_clI (x := f 4 8) (by omega)
  have e1 : (f 4 8 + 1).toInt = (f 4 8).toInt + 1 := (bn_addI (by omega) (by omega)).trans (by omega)
  unfold sX5_write; (repeat first | rw [spl_d] | rw [spl2_d])
  rw [if_pos (show (f 4 8).toInt < 121 from by omega), show (f 4 8).toNatClampNeg = d from by omega]
  refine ⟨⟨?_, ?_, ?_, ?_, fun i hi => ?_, h6, h7, hd⟩, fun i hi => ?_, ?_, trivial⟩
  · rw [sg_up_s, sgu_n (show (6 : Nat) ≠ 8 by decide), sg_up_n (show (4 : Nat) ≠ 6 by decide)]; exact h1
  · rw [sg_up_s, sgu_n (show (1 : Nat) ≠ 8 by decide), sg_up_n (show (4 : Nat) ≠ 6 by decide)]; exact h2
  · rw [sg_up_s, sgu_n (show (7 : Nat) ≠ 8 by decide), sg_up_n (show (4 : Nat) ≠ 6 by decide)]; exact h3
  · rw [sg_up_s, sgu_s]; omega
  · rw [sg_up_n (show (5 : Nat) ≠ 4 by decide), sg_up_n (show (5 : Nat) ≠ 6 by decide)]; exact h5 i hi
  · rw [sg_up_n (show (6 : Nat) ≠ 4 by decide), sg_up_s, sgu_n (by omega)]
  · rw [sg_up_n (show (6 : Nat) ≠ 4 by decide), sg_up_s, sgu_s]
theorem xwrF {n p : Nat} {f : sg_F} (h : xF n p f) (s : Int32) (L : sg_L) : xF n p (sX5_write s f L) := by
  obtain ⟨h1, h2, h3⟩ := h
  unfold sX5_write; (repeat first | rw [spl_d] | rw [spl2_d])
  by_cases c : (f 4 8).toInt < 121
  · rw [if_pos c]
    refine ⟨?_, ?_, ?_⟩
    · rw [sg_up_s, sgu_n (show (6 : Nat) ≠ 8 by decide), sg_up_n (show (4 : Nat) ≠ 6 by decide)]; exact h1
    · rw [sg_up_s, sgu_n (show (1 : Nat) ≠ 8 by decide), sg_up_n (show (4 : Nat) ≠ 6 by decide)]; exact h2
    · rw [sg_up_s, sgu_n (show (7 : Nat) ≠ 8 by decide), sg_up_n (show (4 : Nat) ≠ 6 by decide)]; exact h3
  · rw [if_neg c]; exact ⟨h1, h2, h3⟩
theorem xadv {T : Nat → Int32} {n a d : Nat} {f : sg_F} (h : xS T n a d f) (c : a < n) : xS T n (a + 1) d (xad f) ∧ xad f 6 = f 6 := by
  obtain ⟨h1, h2, h3, h4, h5, h6, h7, h8⟩ := h
  have k1 : (1 : Int32).toInt = 1 := by decide
  have e1 : (f 4 6 + 1).toInt = (f 4 6).toInt + 1 := (bn_addI (by omega) (by omega)).trans (by omega)
  unfold xad
  refine ⟨⟨?_, ?_, ?_, ?_, fun i hi => ?_, h6, by omega, by omega⟩, ?_⟩
  · rw [sg_up_s, sgu_s]; omega
  · rw [sg_up_s, sgu_n (show (1 : Nat) ≠ 6 by decide)]; exact h2
  · rw [sg_up_s, sgu_n (show (7 : Nat) ≠ 6 by decide)]; exact h3
  · rw [sg_up_s, sgu_n (show (8 : Nat) ≠ 6 by decide)]; exact h4
  · rw [sg_up_n (show (5 : Nat) ≠ 4 by decide)]; exact h5 i hi
  · exact sg_up_n (by decide)
theorem xfail {T : Nat → Int32} {n a d : Nat} {f : sg_F} (h : xS T n a d f) (L : sg_L) : xF n a (sX5_fail f L) := by
  obtain ⟨h1, h2, h3, h4, h5, h6, h7, h8⟩ := h
  unfold sX5_fail; (repeat first | rw [spl_d] | rw [spl2_d])
  rw [if_pos (show (f 4 7).toInt < 0 from by omega)]
  refine ⟨?_, ?_, ?_⟩
  · rw [sg_up_s, sgu_n (show (6 : Nat) ≠ 7 by decide)]; exact h1
  · rw [sg_up_s, sgu_n (show (1 : Nat) ≠ 7 by decide)]; exact h2
  · rw [sg_up_s, sgu_s]; exact ⟨h1, by omega⟩
theorem xfailF {n p : Nat} {f : sg_F} (h : xF n p f) (L : sg_L) : xF n p (sX5_fail f L) := by
  unfold sX5_fail; (repeat first | rw [spl_d] | rw [spl2_d])
  rw [if_neg (show ¬ (f 4 7).toInt < 0 from by have := h.2.2; omega)]
  exact h
/-- all but where reading stands and what is written is as it was -/
def xK (f f1 : sg_F) : Prop := ∀ k j : Nat, k ≠ 6 → (k ≠ 4 ∨ (j ≠ 6 ∧ j ≠ 7 ∧ j ≠ 8)) → f1 k j = f k j
theorem xK.rf {f : sg_F} : xK f f := fun _ _ _ _ => rfl
theorem xK.tr {f f1 f2 : sg_F} (h : xK f f1) (h1 : xK f1 f2) : xK f f2 := fun k j a b => (h1 k j a b).trans (h k j a b)
theorem xK.put {f : sg_F} {j : Nat} {x : Int32} (hj : j = 6 ∨ j = 7 ∨ j = 8) : xK f (sg_up f 4 (sgu (f 4) j x)) := by
  intro k i _ hk
  by_cases c : k = 4
  · subst c
    rw [sg_up_s, sgu_n (by omega)]
  · rw [sg_up_n c]
theorem xadK (f : sg_F) : xK f (xad f) := xK.put (Or.inl rfl)
theorem xwrK (s : Int32) (f : sg_F) (L : sg_L) : xK f (sX5_write s f L) := by
  unfold sX5_write; (repeat first | rw [spl_d] | rw [spl2_d])
  by_cases c : (f 4 8).toInt < 121
  · rw [if_pos c]
    have a : xK f (sg_up f 6 (sgu (f 6) (f 4 8).toNatClampNeg s)) := fun k j hk _ => by rw [sg_up_n hk]
    exact a.tr (xK.put (Or.inr (Or.inr rfl)))
  · rw [if_neg c]; exact xK.rf
theorem xfailK (f : sg_F) (L : sg_L) : xK f (sX5_fail f L) := by
  unfold sX5_fail; (repeat first | rw [spl_d] | rw [spl2_d])
  by_cases c : (f 4 7).toInt < 0
  · rw [if_pos c]; exact xK.put (Or.inr (Or.inl rfl))
  · rw [if_neg c]; exact xK.rf
/-- how reading ends: as r says -/
def xG (T : Nat → Int32) (n d : Nat) (c0 : Nat → Int32) (r : pR) (f : sg_F) : Prop := (r.2.1 = true → xS T n r.1 (d + r.2.2.1.length) f ∧ xC c0 d r.2.2.1 f) ∧ (r.2.1 = false → xF n r.1 f)
def xO (T : Nat → Int32) (n : Nat) (op : sg_F → sg_L → sg_F) (P : Nat → pR) : Prop := (∀ (f : sg_F) (L : sg_L) (a d : Nat), xS T n a d f → xG T n d (f 6) (P a) (op f L)) ∧ (∀ (f : sg_F) (L : sg_L) (p : Nat), xF n p f → xF n p (op f L)) ∧ ∀ (f : sg_F) (L : sg_L), xK f (op f L)
theorem xG.bad {T : Nat → Int32} {n d p : Nat} {c0 : Nat → Int32} {f : sg_F} {c : List Int32} {v : pV} (h : xF n p f) : xG T n d c0 (p, false, c, v) f := ⟨fun z => (by cases z), fun _ => h⟩
theorem xG.ok {T : Nat → Int32} {n d d1 p : Nat} {c0 : Nat → Int32} {f : sg_F} {c : List Int32} {v : pV} (h : xS T n p d1 f) (e : d1 = d + c.length) (k : xC c0 d c f) : xG T n d c0 (p, true, c, v) f := by
  subst e
  exact ⟨fun _ => ⟨h, k⟩, fun z => (by cases z)⟩
/-- a chain of operands parted by signs -/
noncomputable def gXh (k : Nat) (op : sg_F → sg_L → sg_F) (rec : Int32 → Int32 → sg_F → sg_L → sg_F) (y i : Int32) (f : sg_F) (L : sg_L) : sg_F :=
  if i.toInt < 120 then (if pS k y.toInt = true then rec (sX5_next (sX5_write y (op (xad f) L) L) L) (i + 1) (sX5_write y (op (xad f) L) L) L else f) else f
noncomputable def gXl (k : Nat) (op : sg_F → sg_L → sg_F) : Nat → Int32 → Int32 → sg_F → sg_L → sg_F
  | 0, _, _, f, _ => f
  | m + 1, y, i, f, L => gXh k op (gXl k op m) y i f L
noncomputable def gXc (k : Nat) (op : sg_F → sg_L → sg_F) (f : sg_F) (L : sg_L) : sg_F := gXl k op 121 (sX5_next (op f L) L) 0 (op f L) L
theorem pS_m1 {k : Nat} {z : Int} (h : z = -1) : ¬ pS k z = true := by
  intro w
  have b := pS_bin w
  unfold pbin at b
  omega
theorem gXl_F {k n p : Nat} {op : sg_F → sg_L → sg_F} {L : sg_L} : ∀ (m : Nat) (y i : Int32) (f : sg_F), y.toInt = -1 → xF n p f → xF n p (gXl k op m y i f L) := by
  intro m y i f hy h
  cases m with
  | zero => exact h
  | succ m =>
    show xF n p (gXh k op (gXl k op m) y i f L)
    unfold gXh
    by_cases c : i.toInt < 120
    · rw [if_pos c, if_neg (pS_m1 hy)]; exact h
    · rw [if_neg c]; exact h
theorem gXl_K {k : Nat} {op : sg_F → sg_L → sg_F} (h : ∀ (f : sg_F) (L : sg_L), xK f (op f L)) (L : sg_L) : ∀ (m : Nat) (y i : Int32) (f : sg_F), xK f (gXl k op m y i f L) := by
  intro m
  induction m with
  | zero => intro y i f; exact xK.rf
  | succ m ih =>
    intro y i f
    show xK f (gXh k op (gXl k op m) y i f L)
    unfold gXh
    by_cases c1 : i.toInt < 120
    · rw [if_pos c1]
      by_cases c2 : pS k y.toInt = true
      · rw [if_pos c2]; exact (((xadK f).tr (h _ L)).tr (xwrK _ _ L)).tr (ih _ _ _)
      · rw [if_neg c2]; exact xK.rf
    · rw [if_neg c1]; exact xK.rf
theorem pLoop_bad {S : Int → Bool} {op : Nat → pR} {T : Nat → Int32} {n : Nat} {q : Nat} {r : pR} (h : r.2.1 = false) : pLoop S op T n q r = r := by
  cases q with
  | zero => rfl
  | succ q =>
    unfold pLoop
    rw [if_neg (by rw [h]; exact Bool.false_ne_true)]
theorem gXl_S {T : Nat → Int32} {n k : Nat} {op : sg_F → sg_L → sg_F} {P : Nat → pR} (hop : xO T n op P) (hP : ∀ a : Nat, pG n (P a) a) (L : sg_L) (c0 : Nat → Int32) (d0 : Nat) : ∀ (m q : Nat) (y i : Int32) (f : sg_F) (p d : Nat) (c : List Int32) (v : pV), xS T n p d f → d = d0 + c.length → xC c0 d0 c f → y.toInt = pnx T n p → 0 ≤ i.toInt → i.toInt ≤ (p : Int) → 120 - i.toInt < (m : Int) → n - p < q → xG T n d0 c0 (pLoop (pS k) P T n q (p, true, c, v)) (gXl k op m y i f L) := by
  intro m
  induction m with
  | zero => intro q y i f p d c v h e hc hy h0 h1 h2 h3; exact absurd h2 (by have := h.2.2.2.2.2; omega)
  | succ m ih =>
    intro q y i f p d c v h e hc hy h0 h1 h2 h3
    have hb := h.2.2.2.2.2
    cases q with
    | zero => exact absurd h3 (by omega)
    | succ q =>
      show xG T n d0 c0 (pLoop (pS k) P T n (q + 1) (p, true, c, v)) (gXh k op (gXl k op m) y i f L)
      unfold pLoop gXh
      rw [if_pos (show ((p, true, c, v) : pR).2.1 = true from rfl)]
      show xG T n d0 c0 (if pS k (pnx T n p) = true then _ else _) _
      by_cases s : pS k (pnx T n p) = true
      · have sb := pS_bin s
        obtain ⟨g1, g2⟩ := pnx_lt (T := T) (n := n) (a := p) (by unfold pbin at sb; omega)
        rw [if_pos s, if_pos (show i.toInt < 120 from by omega), if_pos (by rw [hy]; exact s)]
        obtain ⟨u1, u2⟩ := xadv h g1
        have ey : y = T p := Int32.toInt_inj.mp (by rw [hy, g2])
        have k1 : (1 : Int32).toInt = 1 := by decide
        have ei : (i + 1).toInt = i.toInt + 1 := (bn_addI (by omega) (by omega)).trans (by omega)
        have w := hop.1 (xad f) L (p + 1) d u1
        rw [u2] at w
        have G := hP (p + 1)
        obtain ⟨f2, e2⟩ : ∃ z : sg_F, z = op (xad f) L := ⟨_, rfl⟩
        rw [← e2] at w ⊢
        obtain ⟨r, er⟩ : ∃ z : pR, z = P (p + 1) := ⟨_, rfl⟩
        rw [← er] at w G ⊢
        cases hr : r.2.1 with
        | true =>
          obtain ⟨w1, w2⟩ := w.1 hr
          obtain ⟨G1, G2, G3, G4, G5⟩ := G hr
          obtain ⟨x1, x2⟩ := xwr w1 (by omega) y L
          have x3 := hc.app e w2
          have x4 := x3.app (by rw [List.length_append, ← Nat.add_assoc, ← e]) x2
          rw [ey] at x1 x4 ⊢
          exact ih q _ (i + 1) _ r.1 _ (c ++ r.2.2.1 ++ [T p]) _ x1 (by rw [List.length_append, List.length_append, e]; show d0 + c.length + r.2.2.1.length + 1 = d0 + (c.length + r.2.2.1.length + 1); omega) x4 (xnext x1 L) (by omega) (by omega) (by omega) (by omega)
        | false =>
          have w1 := xwrF (w.2 hr) y L
          have z : pLoop (pS k) P T n q (r.1, false, c ++ r.2.2.1 ++ [T p], fun N => pwk (pnx T n p) (v N) (r.2.2.2 N)) = (r.1, false, c ++ r.2.2.1 ++ [T p], fun N => pwk (pnx T n p) (v N) (r.2.2.2 N)) := pLoop_bad rfl
          show xG T n d0 c0 (pLoop (pS k) P T n q (r.1, false, c ++ r.2.2.1 ++ [T p], fun N => pwk (pnx T n p) (v N) (r.2.2.2 N))) _
          rw [z]
          exact xG.bad (gXl_F _ _ _ _ (xnextF w1 L) w1)
      · rw [if_neg s]
        have z : (if i.toInt < 120 then (if pS k y.toInt = true then gXl k op m (sX5_next (sX5_write y (op (xad f) L) L) L) (i + 1) (sX5_write y (op (xad f) L) L) L else f) else f) = f := by
          by_cases c : i.toInt < 120
          · rw [if_pos c, if_neg (by rw [hy]; exact s)]
          · rw [if_neg c]
        rw [z]
        exact xG.ok h e hc
theorem gXc_O {T : Nat → Int32} {n k : Nat} {op : sg_F → sg_L → sg_F} {P : Nat → pR} (hop : xO T n op P) (hP : ∀ a : Nat, pG n (P a) a) : xO T n (gXc k op) (pChain k 121 P T n) := by
  have k0 : (0 : Int32).toInt = 0 := by decide
  refine ⟨fun f L a d h => ?_, fun f L p h => ?_, fun f L => (hop.2.2 f L).tr (gXl_K hop.2.2 L _ _ _ _)⟩
  · have w := hop.1 f L a d h
    have hb := h.2.2.2.2.2
    unfold gXc pChain
    obtain ⟨r, er⟩ : ∃ z : pR, z = P a := ⟨_, rfl⟩
    rw [← er] at w ⊢
    obtain ⟨r1, r2, r3, r4⟩ := r
    cases r2 with
    | true =>
      obtain ⟨w1, w2⟩ := w.1 rfl
      exact gXl_S hop hP L (f 6) d 121 121 _ 0 _ r1 _ r3 r4 w1 rfl w2 (xnext w1 L) (by omega) (by omega) (by omega) (by have := w1.2.2.2.2.2; omega)
    | false =>
      have w1 := w.2 rfl
      rw [pLoop_bad rfl]
      exact xG.bad (gXl_F _ _ _ _ (xnextF w1 L) w1)
  · have w1 := hop.2.1 f L p h
    exact gXl_F _ _ _ _ (xnextF w1 L) w1
/-- two operands at most, parted by a sign -/
noncomputable def gXo (k : Nat) (op : sg_F → sg_L → sg_F) (f : sg_F) (L : sg_L) : sg_F :=
  if pS k (sX5_next (op f L) L).toInt = true then sX5_write (sX5_next (op f L) L) (op (xad (op f L)) L) L else op f L
theorem gXo_O {T : Nat → Int32} {n k : Nat} {op : sg_F → sg_L → sg_F} {P : Nat → pR} (hop : xO T n op P) (hP : ∀ a : Nat, pG n (P a) a) : xO T n (gXo k op) (pChain k 1 P T n) := by
  refine ⟨fun f L a d h => ?_, fun f L p h => ?_, fun f L => ?_⟩
  · have w := hop.1 f L a d h
    unfold gXo pChain
    obtain ⟨r, er⟩ : ∃ z : pR, z = P a := ⟨_, rfl⟩
    have GP := hP a
    rw [← er] at w GP ⊢
    obtain ⟨f1, e1⟩ : ∃ z : sg_F, z = op f L := ⟨_, rfl⟩
    rw [← e1] at w ⊢
    obtain ⟨p, r2, c, v⟩ := r
    cases r2 with
    | true =>
      obtain ⟨w1, w2⟩ := w.1 rfl
      obtain ⟨GP1, GP2, GP3, -, -⟩ := GP rfl
      have hd := h.2.2.2.2.2
      have hy := xnext w1 L
      show xG T n d (f 6) (if true = true then (if pS k (pnx T n p) = true then _ else _) else _) _
      rw [if_pos rfl]
      by_cases s : pS k (pnx T n p) = true
      · have sb := pS_bin s
        obtain ⟨g1, g2⟩ := pnx_lt (T := T) (n := n) (a := p) (by unfold pbin at sb; omega)
        rw [if_pos s, if_pos (by rw [hy]; exact s)]
        obtain ⟨u1, u2⟩ := xadv w1 g1
        have ey : sX5_next f1 L = T p := Int32.toInt_inj.mp (by rw [hy, g2])
        rw [ey]
        have x := hop.1 (xad f1) L (p + 1) _ u1
        rw [u2] at x
        have G := hP (p + 1)
        obtain ⟨f2, e2⟩ : ∃ z : sg_F, z = op (xad f1) L := ⟨_, rfl⟩
        rw [← e2] at x ⊢
        obtain ⟨r', er'⟩ : ∃ z : pR, z = P (p + 1) := ⟨_, rfl⟩
        rw [← er'] at x G ⊢
        show xG T n d (f 6) (r'.1, r'.2.1, c ++ r'.2.2.1 ++ [T p], fun N => pwk (pnx T n p) (v N) (r'.2.2.2 N)) _
        cases hr : r'.2.1 with
        | true =>
          obtain ⟨x1, x2⟩ := x.1 hr
          obtain ⟨G1, G2, G3, -, -⟩ := G hr
          have GP3 : c.length + a ≤ p := GP3
          obtain ⟨y1, y2⟩ := xwr x1 (by show d + c.length + r'.2.2.1.length + 1 ≤ r'.1; omega) (T p) L
          have x3 := w2.app rfl x2
          have x4 := x3.app (by rw [List.length_append, ← Nat.add_assoc]) y2
          exact xG.ok y1 (by rw [List.length_append, List.length_append]; show d + c.length + r'.2.2.1.length + 1 = d + (c.length + r'.2.2.1.length + 1); omega) x4
        | false => exact xG.bad (xwrF (x.2 hr) _ L)
      · rw [if_neg s, if_neg (by rw [hy]; exact s)]
        exact xG.ok w1 rfl w2
    | false =>
      have w1 := w.2 rfl
      show xG T n d (f 6) (if false = true then _ else _) _
      rw [if_neg Bool.false_ne_true, if_neg (pS_m1 (xnextF w1 L))]
      exact xG.bad w1
  · have w1 := hop.2.1 f L p h
    unfold gXo
    rw [if_neg (pS_m1 (xnextF w1 L))]
    exact w1
  · unfold gXo
    by_cases c : pS k (sX5_next (op f L) L).toInt = true
    · rw [if_pos c]; exact (((hop.2.2 f L).tr (xadK _)).tr (hop.2.2 _ L)).tr (xwrK _ _ L)
    · rw [if_neg c]; exact hop.2.2 f L
/-! an operand -/
theorem xdig (x : Int32) (f : sg_F) (L : sg_L) : sX5_isDigit x f L = if 48 ≤ x.toInt ∧ x.toInt ≤ 57 then 1 else 0 := by
  unfold sX5_isDigit
  by_cases c1 : x.toInt < 48
  · rw [if_pos c1, if_neg (by omega)]
  rw [if_neg c1]
  by_cases c2 : 57 < x.toInt
  · rw [if_pos c2, if_neg (by omega)]
  · rw [if_neg c2, if_pos (by omega)]
theorem xnam (x : Int32) (f : sg_F) (L : sg_L) : sX5_isName x f L = if x.toInt = 100 ∨ x.toInt = 117 ∨ x.toInt = 115 ∨ x.toInt = 119 ∨ x.toInt = 104 ∨ x.toInt = 107 then 1 else 0 := by
  unfold sX5_isName
  (repeat' split) <;> first | rfl | (exfalso; omega)
theorem xnum_l {T : Nat → Int32} {n : Nat} (L : sg_L) : ∀ (m q : Nat) (v i : Int32) (f : sg_F) (a d : Nat), xS T n a d f → d + 1 ≤ a ∨ (q = 4 ∧ 48 ≤ pnx T n a ∧ pnx T n a ≤ 57) → i.toInt = 4 - (q : Int) → q ≤ 4 → q < m → xG T n d (f 6) ((pDig T n q a v).1, true, [1000 + (pDig T n q a v).2], fun _ => (pDig T n q a v).2) (sX5_number_l4 m v i f L) := by
  intro m
  induction m with
  | zero => intro q v i f a d h hd hi hq hm; exact absurd hm (by omega)
  | succ m ih =>
    intro q v i f a d h hd hi hq hm
    show xG T n d (f 6) _ (sX5_number_h4 (sX5_number_l4 m) v i f L)
    unfold sX5_number_h4 sX5_number_b48; (repeat first | rw [spl_d] | rw [spl2_d])
    rw [xdig, xnext h L]
    cases q with
    | zero =>
      rw [if_neg (show ¬ i.toInt < 4 from by omega)]
      have hd : d + 1 ≤ a := by omega
      obtain ⟨w1, w2⟩ := xwr h hd (1000 + v) L
      exact xG.ok w1 rfl w2
    | succ q =>
      rw [if_pos (show i.toInt < 4 from by omega)]
      unfold pDig
      by_cases c : 48 ≤ pnx T n a ∧ pnx T n a ≤ 57
      · rw [if_pos c, if_pos c, if_pos rfl]
        obtain ⟨g1, g2⟩ := pnx_lt (T := T) (n := n) (a := a) (by omega)
        obtain ⟨u1, u2⟩ := xadv h g1
        have ey : sX5_next f L = T a := Int32.toInt_inj.mp (by rw [xnext h L, g2])
        have k1 : (1 : Int32).toInt = 1 := by decide
        have ei : (i + 1).toInt = i.toInt + 1 := (bn_addI (by omega) (by omega)).trans (by omega)
        have hb := h.2.2.2.2.2
        rw [ey]
        have w := ih q (v * 10 + T a - 48) (i + 1) (xad f) (a + 1) d u1 (Or.inl (by omega)) (by omega) (by omega) (by omega)
        rw [u2] at w
        exact w
      · rw [if_neg c, if_neg c, if_neg zk0]
        have hd : d + 1 ≤ a := by omega
        obtain ⟨w1, w2⟩ := xwr h hd (1000 + v) L
        exact xG.ok w1 rfl w2
theorem xnumK (L : sg_L) : ∀ (m : Nat) (v i : Int32) (f : sg_F), xK f (sX5_number_l4 m v i f L) := by
  intro m
  induction m with
  | zero => intro v i f; exact xK.rf
  | succ m ih =>
    intro v i f
    show xK f (sX5_number_h4 (sX5_number_l4 m) v i f L)
    unfold sX5_number_h4 sX5_number_b48; (repeat first | rw [spl_d] | rw [spl2_d])
    by_cases c1 : i.toInt < 4
    · rw [if_pos c1]
      by_cases c2 : sX5_isDigit (sX5_next f L) f L = 1
      · rw [if_pos c2]; exact (xadK f).tr (ih _ _ _)
      · rw [if_neg c2]; exact xwrK _ f L
    · rw [if_neg c1]; exact xwrK _ f L
noncomputable def gXopen (E O : sg_F → sg_L → sg_F) (x : Int32) (f : sg_F) (L : sg_L) : sg_F :=
  if x.toInt = 40 then (if (sX5_next (E f L) L).toInt = 41 then xad (E f L) else sX5_fail (E f L) L) else (if x.toInt = 33 then sX5_write 33 (O f L) L else sX5_write 126 (O f L) L)
noncomputable def gXopd (o : Bool) (E O : sg_F → sg_L → sg_F) (f : sg_F) (L : sg_L) : sg_F :=
  if sX5_isDigit (sX5_next f L) f L = 1 then sX5_number f L else (if sX5_isName (sX5_next f L) f L = 1 then sX5_write (sX5_next f L) (xad f) L else (if o = true ∧ ((sX5_next f L).toInt = 40 ∨ (sX5_next f L).toInt = 33 ∨ (sX5_next f L).toInt = 45) then gXopen E O (sX5_next f L) (xad f) L else sX5_fail f L))
theorem gXopd_K {o : Bool} {E O : sg_F → sg_L → sg_F} (hE : ∀ (f : sg_F) (L : sg_L), xK f (E f L)) (hO : ∀ (f : sg_F) (L : sg_L), xK f (O f L)) (f : sg_F) (L : sg_L) : xK f (gXopd o E O f L) := by
  unfold gXopd
  by_cases c1 : sX5_isDigit (sX5_next f L) f L = 1
  · rw [if_pos c1]; exact xnumK L 5 0 0 f
  rw [if_neg c1]
  by_cases c2 : sX5_isName (sX5_next f L) f L = 1
  · rw [if_pos c2]; exact (xadK f).tr (xwrK _ _ L)
  rw [if_neg c2]
  by_cases c3 : o = true ∧ ((sX5_next f L).toInt = 40 ∨ (sX5_next f L).toInt = 33 ∨ (sX5_next f L).toInt = 45)
  case neg => rw [if_neg c3]; exact xfailK f L
  rw [if_pos c3]
  unfold gXopen
  by_cases c4 : (sX5_next f L).toInt = 40
  · rw [if_pos c4]
    have a := (xadK f).tr (hE _ L)
    by_cases c5 : (sX5_next (E (xad f) L) L).toInt = 41
    · rw [if_pos c5]; exact a.tr (xadK _)
    · rw [if_neg c5]; exact a.tr (xfailK _ L)
  rw [if_neg c4]
  have a := (xadK f).tr (hO _ L)
  by_cases c5 : (sX5_next f L).toInt = 33
  · rw [if_pos c5]; exact a.tr (xwrK _ _ L)
  · rw [if_neg c5]; exact a.tr (xwrK _ _ L)
theorem gXopd_O {T : Nat → Int32} {n : Nat} {o : Bool} {E O : sg_F → sg_L → sg_F} {PE PO : Nat → pR} (hE : xO T n E PE) (hO : xO T n O PO) (gE : ∀ a : Nat, pG n (PE a) a) (gO : ∀ a : Nat, pG n (PO a) a) : xO T n (gXopd o E O) (pOpd o PE PO T n) := by
  refine ⟨fun f L a d h => ?_, fun f L p h => ?_, gXopd_K hE.2.2 hO.2.2⟩
  · have hy := xnext h L
    have hb := h.2.2.2.2.2
    unfold gXopd pOpd
    rw [xdig, xnam, hy]
    by_cases c1 : 48 ≤ pnx T n a ∧ pnx T n a ≤ 57
    · rw [if_pos c1, if_pos c1, if_pos rfl]
      exact xnum_l L 5 4 0 0 f a d h (Or.inr ⟨rfl, c1.1, c1.2⟩) (by decide) (Nat.le_refl _) (by omega)
    rw [if_neg c1, if_neg c1, if_neg zk0]
    by_cases c2 : pnx T n a = 100 ∨ pnx T n a = 117 ∨ pnx T n a = 115 ∨ pnx T n a = 119 ∨ pnx T n a = 104 ∨ pnx T n a = 107
    · rw [if_pos c2, if_pos c2, if_pos rfl]
      obtain ⟨g1, g2⟩ := pnx_lt (T := T) (n := n) (a := a) (by omega)
      obtain ⟨u1, u2⟩ := xadv h g1
      have ey : sX5_next f L = T a := Int32.toInt_inj.mp (by rw [hy, g2])
      obtain ⟨w1, w2⟩ := xwr u1 (by omega) (T a) L
      rw [u2] at w2
      rw [ey]
      exact xG.ok w1 rfl w2
    rw [if_neg c2, if_neg c2, if_neg zk0]
    by_cases c : o = true ∧ (pnx T n a = 40 ∨ pnx T n a = 33 ∨ pnx T n a = 45)
    case neg =>
      rw [if_neg c, if_neg (fun z => c ⟨z.1, Or.inl z.2⟩), if_neg (fun z => c ⟨z.1, Or.inr (Or.inl z.2)⟩), if_neg (fun z => c ⟨z.1, Or.inr (Or.inr z.2)⟩)]
      exact xG.bad (xfail h L)
    rw [if_pos c]
    obtain ⟨g1, g2⟩ := pnx_lt (T := T) (n := n) (a := a) (by omega)
    obtain ⟨u1, u2⟩ := xadv h g1
    unfold gXopen
    rw [hy]
    by_cases c3 : pnx T n a = 40
    · rw [if_pos (show o = true ∧ pnx T n a = 40 from ⟨c.1, c3⟩), if_pos c3]
      have x := hE.1 (xad f) L (a + 1) d u1
      rw [u2] at x
      have G := gE (a + 1)
      obtain ⟨f2, e2⟩ : ∃ z : sg_F, z = E (xad f) L := ⟨_, rfl⟩
      rw [← e2] at x ⊢
      obtain ⟨r, er⟩ : ∃ z : pR, z = PE (a + 1) := ⟨_, rfl⟩
      rw [← er] at x G ⊢
      obtain ⟨p, r2, s, v⟩ := r
      cases r2 with
      | true =>
        obtain ⟨x1, x2⟩ := x.1 rfl
        show xG T n d (f 6) (if true = true then (if pnx T n p = 41 then (p + 1, true, s, v) else pbad p) else pbad p) _
        rw [if_pos rfl, xnext x1 L]
        by_cases c4 : pnx T n p = 41
        · rw [if_pos c4, if_pos c4]
          obtain ⟨k1, k2⟩ := pnx_lt (T := T) (n := n) (a := p) (by omega)
          obtain ⟨y1, y2⟩ := xadv x1 k1
          exact xG.ok y1 rfl ⟨fun i hi => by rw [y2]; exact x2.1 i hi, by rw [y2]; exact x2.2⟩
        · rw [if_neg c4, if_neg c4]
          exact xG.bad (xfail x1 L)
      | false =>
        have x1 := x.2 rfl
        show xG T n d (f 6) (if false = true then _ else pbad p) _
        rw [if_neg Bool.false_ne_true, if_neg (by rw [xnextF x1 L]; decide)]
        exact xG.bad (xfailF x1 L)
    rw [if_neg (fun z => c3 z.2), if_neg c3]
    have x := hO.1 (xad f) L (a + 1) d u1
    rw [u2] at x
    have G := gO (a + 1)
    obtain ⟨f2, e2⟩ : ∃ z : sg_F, z = O (xad f) L := ⟨_, rfl⟩
    rw [← e2] at x ⊢
    obtain ⟨r, er⟩ : ∃ z : pR, z = PO (a + 1) := ⟨_, rfl⟩
    rw [← er] at x G ⊢
    obtain ⟨p, r2, s, v⟩ := r
    have wr : ∀ (t : Int32) (v' : pV), xG T n d (f 6) (p, r2, s ++ [t], v') (sX5_write t f2 L) := by
      intro t v'
      cases r2 with
      | true =>
        obtain ⟨x1, x2⟩ := x.1 rfl
        obtain ⟨G1, G2, G3, -, -⟩ := G rfl
        have G3 : s.length + (a + 1) ≤ p := G3
        obtain ⟨y1, y2⟩ := xwr x1 (by show d + s.length + 1 ≤ p; omega) t L
        exact xG.ok y1 (by rw [List.length_append]; show d + s.length + 1 = d + (s.length + 1); omega) (x2.app rfl y2)
      | false => exact xG.bad (xwrF (x.2 rfl) t L)
    by_cases c4 : pnx T n a = 33
    · rw [if_pos (show o = true ∧ pnx T n a = 33 from ⟨c.1, c4⟩), if_pos c4]
      exact wr 33 _
    · rw [if_neg (fun z => c4 z.2), if_neg c4, if_pos (show o = true ∧ pnx T n a = 45 from ⟨c.1, by omega⟩)]
      exact wr 126 _
  · have hy := xnextF h L
    unfold gXopd
    rw [xdig, xnam, hy, if_neg (show ¬ ((48 : Int) ≤ -1 ∧ (-1 : Int) ≤ 57) by decide), if_neg zk0, if_neg (show ¬ ((-1 : Int) = 100 ∨ (-1 : Int) = 117 ∨ (-1 : Int) = 115 ∨ (-1 : Int) = 119 ∨ (-1 : Int) = 104 ∨ (-1 : Int) = 107) by decide), if_neg zk0, if_neg (show ¬ (o = true ∧ ((-1 : Int) = 40 ∨ (-1 : Int) = 33 ∨ (-1 : Int) = 45)) from fun z => absurd z.2 (by decide))]
    exact xfailF h L
theorem gXopd_N {T : Nat → Int32} {n : Nat} {E O : sg_F → sg_L → sg_F} (hE : ∀ (f : sg_F) (L : sg_L), xK f (E f L)) (hO : ∀ (f : sg_F) (L : sg_L), xK f (O f L)) : xO T n (gXopd false E O) (pOpd false pbad pbad T n) := by
  refine ⟨fun f L a d h => ?_, fun f L p h => ?_, gXopd_K hE hO⟩
  · have hy := xnext h L
    have hb := h.2.2.2.2.2
    unfold gXopd pOpd
    rw [xdig, xnam, hy]
    by_cases c1 : 48 ≤ pnx T n a ∧ pnx T n a ≤ 57
    · rw [if_pos c1, if_pos c1, if_pos rfl]
      exact xnum_l L 5 4 0 0 f a d h (Or.inr ⟨rfl, c1.1, c1.2⟩) (by decide) (Nat.le_refl _) (by omega)
    rw [if_neg c1, if_neg c1, if_neg zk0]
    by_cases c2 : pnx T n a = 100 ∨ pnx T n a = 117 ∨ pnx T n a = 115 ∨ pnx T n a = 119 ∨ pnx T n a = 104 ∨ pnx T n a = 107
    · rw [if_pos c2, if_pos c2, if_pos rfl]
      obtain ⟨g1, g2⟩ := pnx_lt (T := T) (n := n) (a := a) (by omega)
      obtain ⟨u1, u2⟩ := xadv h g1
      have ey : sX5_next f L = T a := Int32.toInt_inj.mp (by rw [hy, g2])
      obtain ⟨w1, w2⟩ := xwr u1 (by omega) (T a) L
      rw [u2] at w2
      rw [ey]
      exact xG.ok w1 rfl w2
    rw [if_neg c2, if_neg c2, if_neg zk0, if_neg (fun z => absurd z.1 Bool.false_ne_true), if_neg (fun z => absurd z.1 Bool.false_ne_true), if_neg (fun z => absurd z.1 Bool.false_ne_true), if_neg (fun z => absurd z.1 Bool.false_ne_true)]
    exact xG.bad (xfail h L)
  · have hy := xnextF h L
    unfold gXopd
    rw [xdig, xnam, hy, if_neg (show ¬ ((48 : Int) ≤ -1 ∧ (-1 : Int) ≤ 57) by decide), if_neg zk0, if_neg (show ¬ ((-1 : Int) = 100 ∨ (-1 : Int) = 117 ∨ (-1 : Int) = 115 ∨ (-1 : Int) = 119 ∨ (-1 : Int) = 104 ∨ (-1 : Int) = 107) by decide), if_neg zk0, if_neg (show ¬ (false = true ∧ ((-1 : Int) = 40 ∨ (-1 : Int) = 33 ∨ (-1 : Int) = 45)) from fun z => absurd z.2 (by decide))]
    exact xfailF h L
/-! each level of the class's reading is so -/
theorem gx_sX5_product_0_h (rec : Int32 → Int32 → sg_F → sg_L → sg_F) (y i : Int32) (f : sg_F) (L : sg_L) : sX5_product_0_h12 rec y i f L = gXh 0 sX5_operand_0 rec y i f L := by
  unfold sX5_product_0_h12 gXh; (repeat first | rw [spl_d] | rw [spl2_d])
  by_cases c : i.toInt < 120
  · rw [if_pos c, if_pos c]
    by_cases c42 : y.toInt = 42
    · rw [if_pos c42, if_pos (pS_0 (by omega))]
    rw [if_neg c42]
    by_cases c47 : y.toInt = 47
    · rw [if_pos c47, if_pos (pS_0 (by omega))]
    rw [if_neg c47]
    by_cases c37 : y.toInt = 37
    · rw [if_pos c37, if_pos (pS_0 (by omega))]
    rw [if_neg c37]
    rw [if_neg (pS_0n (by omega))]
  · rw [if_neg c, if_neg c]
theorem gx_sX5_product_0_l : ∀ (m : Nat) (y i : Int32) (f : sg_F) (L : sg_L), sX5_product_0_l12 m y i f L = gXl 0 sX5_operand_0 m y i f L := by
  intro m
  induction m with
  | zero => intro y i f L; rfl
  | succ m ih =>
    intro y i f L
    show sX5_product_0_h12 (sX5_product_0_l12 m) y i f L = gXh 0 sX5_operand_0 (gXl 0 sX5_operand_0 m) y i f L
    rw [gx_sX5_product_0_h]
    unfold gXh
    rw [ih]
theorem gx_sX5_product_0 : sX5_product_0 = gXc 0 sX5_operand_0 := by
  funext f L
  unfold sX5_product_0 gXc; (repeat first | rw [spl_d] | rw [spl2_d])
  exact gx_sX5_product_0_l _ _ _ _ _
theorem gx_sX5_sum_0_h (rec : Int32 → Int32 → sg_F → sg_L → sg_F) (y i : Int32) (f : sg_F) (L : sg_L) : sX5_sum_0_h12 rec y i f L = gXh 1 sX5_product_0 rec y i f L := by
  unfold sX5_sum_0_h12 gXh; (repeat first | rw [spl_d] | rw [spl2_d])
  by_cases c : i.toInt < 120
  · rw [if_pos c, if_pos c]
    by_cases c43 : y.toInt = 43
    · rw [if_pos c43, if_pos (pS_1 (by omega))]
    rw [if_neg c43]
    by_cases c45 : y.toInt = 45
    · rw [if_pos c45, if_pos (pS_1 (by omega))]
    rw [if_neg c45]
    rw [if_neg (pS_1n (by omega))]
  · rw [if_neg c, if_neg c]
theorem gx_sX5_sum_0_l : ∀ (m : Nat) (y i : Int32) (f : sg_F) (L : sg_L), sX5_sum_0_l12 m y i f L = gXl 1 sX5_product_0 m y i f L := by
  intro m
  induction m with
  | zero => intro y i f L; rfl
  | succ m ih =>
    intro y i f L
    show sX5_sum_0_h12 (sX5_sum_0_l12 m) y i f L = gXh 1 sX5_product_0 (gXl 1 sX5_product_0 m) y i f L
    rw [gx_sX5_sum_0_h]
    unfold gXh
    rw [ih]
theorem gx_sX5_sum_0 : sX5_sum_0 = gXc 1 sX5_product_0 := by
  funext f L
  unfold sX5_sum_0 gXc; (repeat first | rw [spl_d] | rw [spl2_d])
  exact gx_sX5_sum_0_l _ _ _ _ _
theorem gx_sX5_compared_0 : sX5_compared_0 = gXo 2 sX5_sum_0 := by
  funext f L
  unfold sX5_compared_0 gXo; (repeat first | rw [spl_d] | rw [spl2_d])
  by_cases c60 : (sX5_next (sX5_sum_0 f L) L).toInt = 60
  · rw [if_pos c60, if_pos (pS_2 (by omega))]
  rw [if_neg c60]
  by_cases c61 : (sX5_next (sX5_sum_0 f L) L).toInt = 61
  · rw [if_pos c61, if_pos (pS_2 (by omega))]
  rw [if_neg c61]
  by_cases c62 : (sX5_next (sX5_sum_0 f L) L).toInt = 62
  · rw [if_pos c62, if_pos (pS_2 (by omega))]
  rw [if_neg c62]
  rw [if_neg (pS_2n (by omega))]
theorem gx_sX5_both_0_l : ∀ (m : Nat) (i : Int32) (f : sg_F) (L : sg_L), sX5_both_0_l7 m i f L = gXl 3 sX5_compared_0 m (sX5_next f L) i f L := by
  intro m
  induction m with
  | zero => intro i f L; rfl
  | succ m ih =>
    intro i f L
    show sX5_both_0_h7 (sX5_both_0_l7 m) i f L = gXh 3 sX5_compared_0 (gXl 3 sX5_compared_0 m) (sX5_next f L) i f L
    unfold sX5_both_0_h7 gXh; (repeat first | rw [spl_d] | rw [spl2_d])
    by_cases c : i.toInt < 120
    · rw [if_pos c, if_pos c]
      by_cases s : (sX5_next f L).toInt = 38
      · have e : sX5_next f L = 38 := Int32.toInt_inj.mp (s.trans (by decide))
        rw [if_pos s, if_pos (pS_3 s), ih, e]
      · rw [if_neg s, if_neg (pS_3n s)]
    · rw [if_neg c, if_neg c]
theorem gx_sX5_both_0 : sX5_both_0 = gXc 3 sX5_compared_0 := by
  funext f L
  unfold sX5_both_0 gXc; (repeat first | rw [spl_d] | rw [spl2_d])
  exact gx_sX5_both_0_l _ _ _ _
theorem gx_sX5_either_0_l : ∀ (m : Nat) (i : Int32) (f : sg_F) (L : sg_L), sX5_either_0_l7 m i f L = gXl 4 sX5_both_0 m (sX5_next f L) i f L := by
  intro m
  induction m with
  | zero => intro i f L; rfl
  | succ m ih =>
    intro i f L
    show sX5_either_0_h7 (sX5_either_0_l7 m) i f L = gXh 4 sX5_both_0 (gXl 4 sX5_both_0 m) (sX5_next f L) i f L
    unfold sX5_either_0_h7 gXh; (repeat first | rw [spl_d] | rw [spl2_d])
    by_cases c : i.toInt < 120
    · rw [if_pos c, if_pos c]
      by_cases s : (sX5_next f L).toInt = 124
      · have e : sX5_next f L = 124 := Int32.toInt_inj.mp (s.trans (by decide))
        rw [if_pos s, if_pos (pS_4 s), ih, e]
      · rw [if_neg s, if_neg (pS_4n s)]
    · rw [if_neg c, if_neg c]
theorem gx_sX5_either_0 : sX5_either_0 = gXc 4 sX5_both_0 := by
  funext f L
  unfold sX5_either_0 gXc; (repeat first | rw [spl_d] | rw [spl2_d])
  exact gx_sX5_either_0_l _ _ _ _
theorem gx_sX5_opened_1 (x : Int32) (f : sg_F) (L : sg_L) : sX5_opened_1 x f L = gXopen sX5_either_1 sX5_operand_1 x f L := by
  unfold sX5_opened_1 gXopen; (repeat first | rw [spl_d] | rw [spl2_d])
theorem gx_sX5_operand_0 : sX5_operand_0 = gXopd true sX5_either_1 sX5_operand_1 := by
  funext f L
  unfold sX5_operand_0 gXopd; (repeat first | rw [spl_d] | rw [spl2_d])
  by_cases c1 : sX5_isDigit (sX5_next f L) f L = 1
  · rw [if_pos c1, if_pos c1]
  rw [if_neg c1, if_neg c1]
  by_cases c2 : sX5_isName (sX5_next f L) f L = 1
  · rw [if_pos c2, if_pos c2]
  rw [if_neg c2, if_neg c2]
  by_cases d40 : (sX5_next f L).toInt = 40
  · rw [if_pos d40, if_pos ⟨rfl, Or.inl d40⟩, gx_sX5_opened_1]
  rw [if_neg d40]
  by_cases d33 : (sX5_next f L).toInt = 33
  · rw [if_pos d33, if_pos ⟨rfl, Or.inr (Or.inl d33)⟩, gx_sX5_opened_1]
  rw [if_neg d33]
  by_cases d45 : (sX5_next f L).toInt = 45
  · rw [if_pos d45, if_pos ⟨rfl, Or.inr (Or.inr d45)⟩, gx_sX5_opened_1]
  rw [if_neg d45]
  rw [if_neg (fun w => by have := w.2; omega)]
theorem gx_sX5_product_1_h (rec : Int32 → Int32 → sg_F → sg_L → sg_F) (y i : Int32) (f : sg_F) (L : sg_L) : sX5_product_1_h12 rec y i f L = gXh 0 sX5_operand_1 rec y i f L := by
  unfold sX5_product_1_h12 gXh; (repeat first | rw [spl_d] | rw [spl2_d])
  by_cases c : i.toInt < 120
  · rw [if_pos c, if_pos c]
    by_cases c42 : y.toInt = 42
    · rw [if_pos c42, if_pos (pS_0 (by omega))]
    rw [if_neg c42]
    by_cases c47 : y.toInt = 47
    · rw [if_pos c47, if_pos (pS_0 (by omega))]
    rw [if_neg c47]
    by_cases c37 : y.toInt = 37
    · rw [if_pos c37, if_pos (pS_0 (by omega))]
    rw [if_neg c37]
    rw [if_neg (pS_0n (by omega))]
  · rw [if_neg c, if_neg c]
theorem gx_sX5_product_1_l : ∀ (m : Nat) (y i : Int32) (f : sg_F) (L : sg_L), sX5_product_1_l12 m y i f L = gXl 0 sX5_operand_1 m y i f L := by
  intro m
  induction m with
  | zero => intro y i f L; rfl
  | succ m ih =>
    intro y i f L
    show sX5_product_1_h12 (sX5_product_1_l12 m) y i f L = gXh 0 sX5_operand_1 (gXl 0 sX5_operand_1 m) y i f L
    rw [gx_sX5_product_1_h]
    unfold gXh
    rw [ih]
theorem gx_sX5_product_1 : sX5_product_1 = gXc 0 sX5_operand_1 := by
  funext f L
  unfold sX5_product_1 gXc; (repeat first | rw [spl_d] | rw [spl2_d])
  exact gx_sX5_product_1_l _ _ _ _ _
theorem gx_sX5_sum_1_h (rec : Int32 → Int32 → sg_F → sg_L → sg_F) (y i : Int32) (f : sg_F) (L : sg_L) : sX5_sum_1_h12 rec y i f L = gXh 1 sX5_product_1 rec y i f L := by
  unfold sX5_sum_1_h12 gXh; (repeat first | rw [spl_d] | rw [spl2_d])
  by_cases c : i.toInt < 120
  · rw [if_pos c, if_pos c]
    by_cases c43 : y.toInt = 43
    · rw [if_pos c43, if_pos (pS_1 (by omega))]
    rw [if_neg c43]
    by_cases c45 : y.toInt = 45
    · rw [if_pos c45, if_pos (pS_1 (by omega))]
    rw [if_neg c45]
    rw [if_neg (pS_1n (by omega))]
  · rw [if_neg c, if_neg c]
theorem gx_sX5_sum_1_l : ∀ (m : Nat) (y i : Int32) (f : sg_F) (L : sg_L), sX5_sum_1_l12 m y i f L = gXl 1 sX5_product_1 m y i f L := by
  intro m
  induction m with
  | zero => intro y i f L; rfl
  | succ m ih =>
    intro y i f L
    show sX5_sum_1_h12 (sX5_sum_1_l12 m) y i f L = gXh 1 sX5_product_1 (gXl 1 sX5_product_1 m) y i f L
    rw [gx_sX5_sum_1_h]
    unfold gXh
    rw [ih]
theorem gx_sX5_sum_1 : sX5_sum_1 = gXc 1 sX5_product_1 := by
  funext f L
  unfold sX5_sum_1 gXc; (repeat first | rw [spl_d] | rw [spl2_d])
  exact gx_sX5_sum_1_l _ _ _ _ _
theorem gx_sX5_compared_1 : sX5_compared_1 = gXo 2 sX5_sum_1 := by
  funext f L
  unfold sX5_compared_1 gXo; (repeat first | rw [spl_d] | rw [spl2_d])
  by_cases c60 : (sX5_next (sX5_sum_1 f L) L).toInt = 60
  · rw [if_pos c60, if_pos (pS_2 (by omega))]
  rw [if_neg c60]
  by_cases c61 : (sX5_next (sX5_sum_1 f L) L).toInt = 61
  · rw [if_pos c61, if_pos (pS_2 (by omega))]
  rw [if_neg c61]
  by_cases c62 : (sX5_next (sX5_sum_1 f L) L).toInt = 62
  · rw [if_pos c62, if_pos (pS_2 (by omega))]
  rw [if_neg c62]
  rw [if_neg (pS_2n (by omega))]
theorem gx_sX5_both_1_l : ∀ (m : Nat) (i : Int32) (f : sg_F) (L : sg_L), sX5_both_1_l7 m i f L = gXl 3 sX5_compared_1 m (sX5_next f L) i f L := by
  intro m
  induction m with
  | zero => intro i f L; rfl
  | succ m ih =>
    intro i f L
    show sX5_both_1_h7 (sX5_both_1_l7 m) i f L = gXh 3 sX5_compared_1 (gXl 3 sX5_compared_1 m) (sX5_next f L) i f L
    unfold sX5_both_1_h7 gXh; (repeat first | rw [spl_d] | rw [spl2_d])
    by_cases c : i.toInt < 120
    · rw [if_pos c, if_pos c]
      by_cases s : (sX5_next f L).toInt = 38
      · have e : sX5_next f L = 38 := Int32.toInt_inj.mp (s.trans (by decide))
        rw [if_pos s, if_pos (pS_3 s), ih, e]
      · rw [if_neg s, if_neg (pS_3n s)]
    · rw [if_neg c, if_neg c]
theorem gx_sX5_both_1 : sX5_both_1 = gXc 3 sX5_compared_1 := by
  funext f L
  unfold sX5_both_1 gXc; (repeat first | rw [spl_d] | rw [spl2_d])
  exact gx_sX5_both_1_l _ _ _ _
theorem gx_sX5_either_1_l : ∀ (m : Nat) (i : Int32) (f : sg_F) (L : sg_L), sX5_either_1_l7 m i f L = gXl 4 sX5_both_1 m (sX5_next f L) i f L := by
  intro m
  induction m with
  | zero => intro i f L; rfl
  | succ m ih =>
    intro i f L
    show sX5_either_1_h7 (sX5_either_1_l7 m) i f L = gXh 4 sX5_both_1 (gXl 4 sX5_both_1 m) (sX5_next f L) i f L
    unfold sX5_either_1_h7 gXh; (repeat first | rw [spl_d] | rw [spl2_d])
    by_cases c : i.toInt < 120
    · rw [if_pos c, if_pos c]
      by_cases s : (sX5_next f L).toInt = 124
      · have e : sX5_next f L = 124 := Int32.toInt_inj.mp (s.trans (by decide))
        rw [if_pos s, if_pos (pS_4 s), ih, e]
      · rw [if_neg s, if_neg (pS_4n s)]
    · rw [if_neg c, if_neg c]
theorem gx_sX5_either_1 : sX5_either_1 = gXc 4 sX5_both_1 := by
  funext f L
  unfold sX5_either_1 gXc; (repeat first | rw [spl_d] | rw [spl2_d])
  exact gx_sX5_either_1_l _ _ _ _
theorem gx_sX5_opened_2 (x : Int32) (f : sg_F) (L : sg_L) : sX5_opened_2 x f L = gXopen sX5_either_2 sX5_operand_2 x f L := by
  unfold sX5_opened_2 gXopen; (repeat first | rw [spl_d] | rw [spl2_d])
theorem gx_sX5_operand_1 : sX5_operand_1 = gXopd true sX5_either_2 sX5_operand_2 := by
  funext f L
  unfold sX5_operand_1 gXopd; (repeat first | rw [spl_d] | rw [spl2_d])
  by_cases c1 : sX5_isDigit (sX5_next f L) f L = 1
  · rw [if_pos c1, if_pos c1]
  rw [if_neg c1, if_neg c1]
  by_cases c2 : sX5_isName (sX5_next f L) f L = 1
  · rw [if_pos c2, if_pos c2]
  rw [if_neg c2, if_neg c2]
  by_cases d40 : (sX5_next f L).toInt = 40
  · rw [if_pos d40, if_pos ⟨rfl, Or.inl d40⟩, gx_sX5_opened_2]
  rw [if_neg d40]
  by_cases d33 : (sX5_next f L).toInt = 33
  · rw [if_pos d33, if_pos ⟨rfl, Or.inr (Or.inl d33)⟩, gx_sX5_opened_2]
  rw [if_neg d33]
  by_cases d45 : (sX5_next f L).toInt = 45
  · rw [if_pos d45, if_pos ⟨rfl, Or.inr (Or.inr d45)⟩, gx_sX5_opened_2]
  rw [if_neg d45]
  rw [if_neg (fun w => by have := w.2; omega)]
theorem gx_sX5_product_2_h (rec : Int32 → Int32 → sg_F → sg_L → sg_F) (y i : Int32) (f : sg_F) (L : sg_L) : sX5_product_2_h12 rec y i f L = gXh 0 sX5_operand_2 rec y i f L := by
  unfold sX5_product_2_h12 gXh; (repeat first | rw [spl_d] | rw [spl2_d])
  by_cases c : i.toInt < 120
  · rw [if_pos c, if_pos c]
    by_cases c42 : y.toInt = 42
    · rw [if_pos c42, if_pos (pS_0 (by omega))]
    rw [if_neg c42]
    by_cases c47 : y.toInt = 47
    · rw [if_pos c47, if_pos (pS_0 (by omega))]
    rw [if_neg c47]
    by_cases c37 : y.toInt = 37
    · rw [if_pos c37, if_pos (pS_0 (by omega))]
    rw [if_neg c37]
    rw [if_neg (pS_0n (by omega))]
  · rw [if_neg c, if_neg c]
theorem gx_sX5_product_2_l : ∀ (m : Nat) (y i : Int32) (f : sg_F) (L : sg_L), sX5_product_2_l12 m y i f L = gXl 0 sX5_operand_2 m y i f L := by
  intro m
  induction m with
  | zero => intro y i f L; rfl
  | succ m ih =>
    intro y i f L
    show sX5_product_2_h12 (sX5_product_2_l12 m) y i f L = gXh 0 sX5_operand_2 (gXl 0 sX5_operand_2 m) y i f L
    rw [gx_sX5_product_2_h]
    unfold gXh
    rw [ih]
theorem gx_sX5_product_2 : sX5_product_2 = gXc 0 sX5_operand_2 := by
  funext f L
  unfold sX5_product_2 gXc; (repeat first | rw [spl_d] | rw [spl2_d])
  exact gx_sX5_product_2_l _ _ _ _ _
theorem gx_sX5_sum_2_h (rec : Int32 → Int32 → sg_F → sg_L → sg_F) (y i : Int32) (f : sg_F) (L : sg_L) : sX5_sum_2_h12 rec y i f L = gXh 1 sX5_product_2 rec y i f L := by
  unfold sX5_sum_2_h12 gXh; (repeat first | rw [spl_d] | rw [spl2_d])
  by_cases c : i.toInt < 120
  · rw [if_pos c, if_pos c]
    by_cases c43 : y.toInt = 43
    · rw [if_pos c43, if_pos (pS_1 (by omega))]
    rw [if_neg c43]
    by_cases c45 : y.toInt = 45
    · rw [if_pos c45, if_pos (pS_1 (by omega))]
    rw [if_neg c45]
    rw [if_neg (pS_1n (by omega))]
  · rw [if_neg c, if_neg c]
theorem gx_sX5_sum_2_l : ∀ (m : Nat) (y i : Int32) (f : sg_F) (L : sg_L), sX5_sum_2_l12 m y i f L = gXl 1 sX5_product_2 m y i f L := by
  intro m
  induction m with
  | zero => intro y i f L; rfl
  | succ m ih =>
    intro y i f L
    show sX5_sum_2_h12 (sX5_sum_2_l12 m) y i f L = gXh 1 sX5_product_2 (gXl 1 sX5_product_2 m) y i f L
    rw [gx_sX5_sum_2_h]
    unfold gXh
    rw [ih]
theorem gx_sX5_sum_2 : sX5_sum_2 = gXc 1 sX5_product_2 := by
  funext f L
  unfold sX5_sum_2 gXc; (repeat first | rw [spl_d] | rw [spl2_d])
  exact gx_sX5_sum_2_l _ _ _ _ _
theorem gx_sX5_compared_2 : sX5_compared_2 = gXo 2 sX5_sum_2 := by
  funext f L
  unfold sX5_compared_2 gXo; (repeat first | rw [spl_d] | rw [spl2_d])
  by_cases c60 : (sX5_next (sX5_sum_2 f L) L).toInt = 60
  · rw [if_pos c60, if_pos (pS_2 (by omega))]
  rw [if_neg c60]
  by_cases c61 : (sX5_next (sX5_sum_2 f L) L).toInt = 61
  · rw [if_pos c61, if_pos (pS_2 (by omega))]
  rw [if_neg c61]
  by_cases c62 : (sX5_next (sX5_sum_2 f L) L).toInt = 62
  · rw [if_pos c62, if_pos (pS_2 (by omega))]
  rw [if_neg c62]
  rw [if_neg (pS_2n (by omega))]
theorem gx_sX5_both_2_l : ∀ (m : Nat) (i : Int32) (f : sg_F) (L : sg_L), sX5_both_2_l7 m i f L = gXl 3 sX5_compared_2 m (sX5_next f L) i f L := by
  intro m
  induction m with
  | zero => intro i f L; rfl
  | succ m ih =>
    intro i f L
    show sX5_both_2_h7 (sX5_both_2_l7 m) i f L = gXh 3 sX5_compared_2 (gXl 3 sX5_compared_2 m) (sX5_next f L) i f L
    unfold sX5_both_2_h7 gXh; (repeat first | rw [spl_d] | rw [spl2_d])
    by_cases c : i.toInt < 120
    · rw [if_pos c, if_pos c]
      by_cases s : (sX5_next f L).toInt = 38
      · have e : sX5_next f L = 38 := Int32.toInt_inj.mp (s.trans (by decide))
        rw [if_pos s, if_pos (pS_3 s), ih, e]
      · rw [if_neg s, if_neg (pS_3n s)]
    · rw [if_neg c, if_neg c]
theorem gx_sX5_both_2 : sX5_both_2 = gXc 3 sX5_compared_2 := by
  funext f L
  unfold sX5_both_2 gXc; (repeat first | rw [spl_d] | rw [spl2_d])
  exact gx_sX5_both_2_l _ _ _ _
theorem gx_sX5_either_2_l : ∀ (m : Nat) (i : Int32) (f : sg_F) (L : sg_L), sX5_either_2_l7 m i f L = gXl 4 sX5_both_2 m (sX5_next f L) i f L := by
  intro m
  induction m with
  | zero => intro i f L; rfl
  | succ m ih =>
    intro i f L
    show sX5_either_2_h7 (sX5_either_2_l7 m) i f L = gXh 4 sX5_both_2 (gXl 4 sX5_both_2 m) (sX5_next f L) i f L
    unfold sX5_either_2_h7 gXh; (repeat first | rw [spl_d] | rw [spl2_d])
    by_cases c : i.toInt < 120
    · rw [if_pos c, if_pos c]
      by_cases s : (sX5_next f L).toInt = 124
      · have e : sX5_next f L = 124 := Int32.toInt_inj.mp (s.trans (by decide))
        rw [if_pos s, if_pos (pS_4 s), ih, e]
      · rw [if_neg s, if_neg (pS_4n s)]
    · rw [if_neg c, if_neg c]
theorem gx_sX5_either_2 : sX5_either_2 = gXc 4 sX5_both_2 := by
  funext f L
  unfold sX5_either_2 gXc; (repeat first | rw [spl_d] | rw [spl2_d])
  exact gx_sX5_either_2_l _ _ _ _
theorem gx_sX5_opened_3 (x : Int32) (f : sg_F) (L : sg_L) : sX5_opened_3 x f L = gXopen sX5_either_3 sX5_operand_3 x f L := by
  unfold sX5_opened_3 gXopen; (repeat first | rw [spl_d] | rw [spl2_d])
theorem gx_sX5_operand_2 : sX5_operand_2 = gXopd true sX5_either_3 sX5_operand_3 := by
  funext f L
  unfold sX5_operand_2 gXopd; (repeat first | rw [spl_d] | rw [spl2_d])
  by_cases c1 : sX5_isDigit (sX5_next f L) f L = 1
  · rw [if_pos c1, if_pos c1]
  rw [if_neg c1, if_neg c1]
  by_cases c2 : sX5_isName (sX5_next f L) f L = 1
  · rw [if_pos c2, if_pos c2]
  rw [if_neg c2, if_neg c2]
  by_cases d40 : (sX5_next f L).toInt = 40
  · rw [if_pos d40, if_pos ⟨rfl, Or.inl d40⟩, gx_sX5_opened_3]
  rw [if_neg d40]
  by_cases d33 : (sX5_next f L).toInt = 33
  · rw [if_pos d33, if_pos ⟨rfl, Or.inr (Or.inl d33)⟩, gx_sX5_opened_3]
  rw [if_neg d33]
  by_cases d45 : (sX5_next f L).toInt = 45
  · rw [if_pos d45, if_pos ⟨rfl, Or.inr (Or.inr d45)⟩, gx_sX5_opened_3]
  rw [if_neg d45]
  rw [if_neg (fun w => by have := w.2; omega)]
theorem gx_sX5_product_3_h (rec : Int32 → Int32 → sg_F → sg_L → sg_F) (y i : Int32) (f : sg_F) (L : sg_L) : sX5_product_3_h12 rec y i f L = gXh 0 sX5_operand_3 rec y i f L := by
  unfold sX5_product_3_h12 gXh; (repeat first | rw [spl_d] | rw [spl2_d])
  by_cases c : i.toInt < 120
  · rw [if_pos c, if_pos c]
    by_cases c42 : y.toInt = 42
    · rw [if_pos c42, if_pos (pS_0 (by omega))]
    rw [if_neg c42]
    by_cases c47 : y.toInt = 47
    · rw [if_pos c47, if_pos (pS_0 (by omega))]
    rw [if_neg c47]
    by_cases c37 : y.toInt = 37
    · rw [if_pos c37, if_pos (pS_0 (by omega))]
    rw [if_neg c37]
    rw [if_neg (pS_0n (by omega))]
  · rw [if_neg c, if_neg c]
theorem gx_sX5_product_3_l : ∀ (m : Nat) (y i : Int32) (f : sg_F) (L : sg_L), sX5_product_3_l12 m y i f L = gXl 0 sX5_operand_3 m y i f L := by
  intro m
  induction m with
  | zero => intro y i f L; rfl
  | succ m ih =>
    intro y i f L
    show sX5_product_3_h12 (sX5_product_3_l12 m) y i f L = gXh 0 sX5_operand_3 (gXl 0 sX5_operand_3 m) y i f L
    rw [gx_sX5_product_3_h]
    unfold gXh
    rw [ih]
theorem gx_sX5_product_3 : sX5_product_3 = gXc 0 sX5_operand_3 := by
  funext f L
  unfold sX5_product_3 gXc; (repeat first | rw [spl_d] | rw [spl2_d])
  exact gx_sX5_product_3_l _ _ _ _ _
theorem gx_sX5_sum_3_h (rec : Int32 → Int32 → sg_F → sg_L → sg_F) (y i : Int32) (f : sg_F) (L : sg_L) : sX5_sum_3_h12 rec y i f L = gXh 1 sX5_product_3 rec y i f L := by
  unfold sX5_sum_3_h12 gXh; (repeat first | rw [spl_d] | rw [spl2_d])
  by_cases c : i.toInt < 120
  · rw [if_pos c, if_pos c]
    by_cases c43 : y.toInt = 43
    · rw [if_pos c43, if_pos (pS_1 (by omega))]
    rw [if_neg c43]
    by_cases c45 : y.toInt = 45
    · rw [if_pos c45, if_pos (pS_1 (by omega))]
    rw [if_neg c45]
    rw [if_neg (pS_1n (by omega))]
  · rw [if_neg c, if_neg c]
theorem gx_sX5_sum_3_l : ∀ (m : Nat) (y i : Int32) (f : sg_F) (L : sg_L), sX5_sum_3_l12 m y i f L = gXl 1 sX5_product_3 m y i f L := by
  intro m
  induction m with
  | zero => intro y i f L; rfl
  | succ m ih =>
    intro y i f L
    show sX5_sum_3_h12 (sX5_sum_3_l12 m) y i f L = gXh 1 sX5_product_3 (gXl 1 sX5_product_3 m) y i f L
    rw [gx_sX5_sum_3_h]
    unfold gXh
    rw [ih]
theorem gx_sX5_sum_3 : sX5_sum_3 = gXc 1 sX5_product_3 := by
  funext f L
  unfold sX5_sum_3 gXc; (repeat first | rw [spl_d] | rw [spl2_d])
  exact gx_sX5_sum_3_l _ _ _ _ _
theorem gx_sX5_compared_3 : sX5_compared_3 = gXo 2 sX5_sum_3 := by
  funext f L
  unfold sX5_compared_3 gXo; (repeat first | rw [spl_d] | rw [spl2_d])
  by_cases c60 : (sX5_next (sX5_sum_3 f L) L).toInt = 60
  · rw [if_pos c60, if_pos (pS_2 (by omega))]
  rw [if_neg c60]
  by_cases c61 : (sX5_next (sX5_sum_3 f L) L).toInt = 61
  · rw [if_pos c61, if_pos (pS_2 (by omega))]
  rw [if_neg c61]
  by_cases c62 : (sX5_next (sX5_sum_3 f L) L).toInt = 62
  · rw [if_pos c62, if_pos (pS_2 (by omega))]
  rw [if_neg c62]
  rw [if_neg (pS_2n (by omega))]
theorem gx_sX5_both_3_l : ∀ (m : Nat) (i : Int32) (f : sg_F) (L : sg_L), sX5_both_3_l7 m i f L = gXl 3 sX5_compared_3 m (sX5_next f L) i f L := by
  intro m
  induction m with
  | zero => intro i f L; rfl
  | succ m ih =>
    intro i f L
    show sX5_both_3_h7 (sX5_both_3_l7 m) i f L = gXh 3 sX5_compared_3 (gXl 3 sX5_compared_3 m) (sX5_next f L) i f L
    unfold sX5_both_3_h7 gXh; (repeat first | rw [spl_d] | rw [spl2_d])
    by_cases c : i.toInt < 120
    · rw [if_pos c, if_pos c]
      by_cases s : (sX5_next f L).toInt = 38
      · have e : sX5_next f L = 38 := Int32.toInt_inj.mp (s.trans (by decide))
        rw [if_pos s, if_pos (pS_3 s), ih, e]
      · rw [if_neg s, if_neg (pS_3n s)]
    · rw [if_neg c, if_neg c]
theorem gx_sX5_both_3 : sX5_both_3 = gXc 3 sX5_compared_3 := by
  funext f L
  unfold sX5_both_3 gXc; (repeat first | rw [spl_d] | rw [spl2_d])
  exact gx_sX5_both_3_l _ _ _ _
theorem gx_sX5_either_3_l : ∀ (m : Nat) (i : Int32) (f : sg_F) (L : sg_L), sX5_either_3_l7 m i f L = gXl 4 sX5_both_3 m (sX5_next f L) i f L := by
  intro m
  induction m with
  | zero => intro i f L; rfl
  | succ m ih =>
    intro i f L
    show sX5_either_3_h7 (sX5_either_3_l7 m) i f L = gXh 4 sX5_both_3 (gXl 4 sX5_both_3 m) (sX5_next f L) i f L
    unfold sX5_either_3_h7 gXh; (repeat first | rw [spl_d] | rw [spl2_d])
    by_cases c : i.toInt < 120
    · rw [if_pos c, if_pos c]
      by_cases s : (sX5_next f L).toInt = 124
      · have e : sX5_next f L = 124 := Int32.toInt_inj.mp (s.trans (by decide))
        rw [if_pos s, if_pos (pS_4 s), ih, e]
      · rw [if_neg s, if_neg (pS_4n s)]
    · rw [if_neg c, if_neg c]
theorem gx_sX5_either_3 : sX5_either_3 = gXc 4 sX5_both_3 := by
  funext f L
  unfold sX5_either_3 gXc; (repeat first | rw [spl_d] | rw [spl2_d])
  exact gx_sX5_either_3_l _ _ _ _
theorem gx_sX5_opened_4 (x : Int32) (f : sg_F) (L : sg_L) : sX5_opened_4 x f L = gXopen sX5_either_4 sX5_operand_4 x f L := by
  unfold sX5_opened_4 gXopen; (repeat first | rw [spl_d] | rw [spl2_d])
theorem gx_sX5_operand_3 : sX5_operand_3 = gXopd true sX5_either_4 sX5_operand_4 := by
  funext f L
  unfold sX5_operand_3 gXopd; (repeat first | rw [spl_d] | rw [spl2_d])
  by_cases c1 : sX5_isDigit (sX5_next f L) f L = 1
  · rw [if_pos c1, if_pos c1]
  rw [if_neg c1, if_neg c1]
  by_cases c2 : sX5_isName (sX5_next f L) f L = 1
  · rw [if_pos c2, if_pos c2]
  rw [if_neg c2, if_neg c2]
  by_cases d40 : (sX5_next f L).toInt = 40
  · rw [if_pos d40, if_pos ⟨rfl, Or.inl d40⟩, gx_sX5_opened_4]
  rw [if_neg d40]
  by_cases d33 : (sX5_next f L).toInt = 33
  · rw [if_pos d33, if_pos ⟨rfl, Or.inr (Or.inl d33)⟩, gx_sX5_opened_4]
  rw [if_neg d33]
  by_cases d45 : (sX5_next f L).toInt = 45
  · rw [if_pos d45, if_pos ⟨rfl, Or.inr (Or.inr d45)⟩, gx_sX5_opened_4]
  rw [if_neg d45]
  rw [if_neg (fun w => by have := w.2; omega)]
theorem gx_sX5_product_4_h (rec : Int32 → Int32 → sg_F → sg_L → sg_F) (y i : Int32) (f : sg_F) (L : sg_L) : sX5_product_4_h12 rec y i f L = gXh 0 sX5_operand_4 rec y i f L := by
  unfold sX5_product_4_h12 gXh; (repeat first | rw [spl_d] | rw [spl2_d])
  by_cases c : i.toInt < 120
  · rw [if_pos c, if_pos c]
    by_cases c42 : y.toInt = 42
    · rw [if_pos c42, if_pos (pS_0 (by omega))]
    rw [if_neg c42]
    by_cases c47 : y.toInt = 47
    · rw [if_pos c47, if_pos (pS_0 (by omega))]
    rw [if_neg c47]
    by_cases c37 : y.toInt = 37
    · rw [if_pos c37, if_pos (pS_0 (by omega))]
    rw [if_neg c37]
    rw [if_neg (pS_0n (by omega))]
  · rw [if_neg c, if_neg c]
theorem gx_sX5_product_4_l : ∀ (m : Nat) (y i : Int32) (f : sg_F) (L : sg_L), sX5_product_4_l12 m y i f L = gXl 0 sX5_operand_4 m y i f L := by
  intro m
  induction m with
  | zero => intro y i f L; rfl
  | succ m ih =>
    intro y i f L
    show sX5_product_4_h12 (sX5_product_4_l12 m) y i f L = gXh 0 sX5_operand_4 (gXl 0 sX5_operand_4 m) y i f L
    rw [gx_sX5_product_4_h]
    unfold gXh
    rw [ih]
theorem gx_sX5_product_4 : sX5_product_4 = gXc 0 sX5_operand_4 := by
  funext f L
  unfold sX5_product_4 gXc; (repeat first | rw [spl_d] | rw [spl2_d])
  exact gx_sX5_product_4_l _ _ _ _ _
theorem gx_sX5_sum_4_h (rec : Int32 → Int32 → sg_F → sg_L → sg_F) (y i : Int32) (f : sg_F) (L : sg_L) : sX5_sum_4_h12 rec y i f L = gXh 1 sX5_product_4 rec y i f L := by
  unfold sX5_sum_4_h12 gXh; (repeat first | rw [spl_d] | rw [spl2_d])
  by_cases c : i.toInt < 120
  · rw [if_pos c, if_pos c]
    by_cases c43 : y.toInt = 43
    · rw [if_pos c43, if_pos (pS_1 (by omega))]
    rw [if_neg c43]
    by_cases c45 : y.toInt = 45
    · rw [if_pos c45, if_pos (pS_1 (by omega))]
    rw [if_neg c45]
    rw [if_neg (pS_1n (by omega))]
  · rw [if_neg c, if_neg c]
theorem gx_sX5_sum_4_l : ∀ (m : Nat) (y i : Int32) (f : sg_F) (L : sg_L), sX5_sum_4_l12 m y i f L = gXl 1 sX5_product_4 m y i f L := by
  intro m
  induction m with
  | zero => intro y i f L; rfl
  | succ m ih =>
    intro y i f L
    show sX5_sum_4_h12 (sX5_sum_4_l12 m) y i f L = gXh 1 sX5_product_4 (gXl 1 sX5_product_4 m) y i f L
    rw [gx_sX5_sum_4_h]
    unfold gXh
    rw [ih]
theorem gx_sX5_sum_4 : sX5_sum_4 = gXc 1 sX5_product_4 := by
  funext f L
  unfold sX5_sum_4 gXc; (repeat first | rw [spl_d] | rw [spl2_d])
  exact gx_sX5_sum_4_l _ _ _ _ _
theorem gx_sX5_compared_4 : sX5_compared_4 = gXo 2 sX5_sum_4 := by
  funext f L
  unfold sX5_compared_4 gXo; (repeat first | rw [spl_d] | rw [spl2_d])
  by_cases c60 : (sX5_next (sX5_sum_4 f L) L).toInt = 60
  · rw [if_pos c60, if_pos (pS_2 (by omega))]
  rw [if_neg c60]
  by_cases c61 : (sX5_next (sX5_sum_4 f L) L).toInt = 61
  · rw [if_pos c61, if_pos (pS_2 (by omega))]
  rw [if_neg c61]
  by_cases c62 : (sX5_next (sX5_sum_4 f L) L).toInt = 62
  · rw [if_pos c62, if_pos (pS_2 (by omega))]
  rw [if_neg c62]
  rw [if_neg (pS_2n (by omega))]
theorem gx_sX5_both_4_l : ∀ (m : Nat) (i : Int32) (f : sg_F) (L : sg_L), sX5_both_4_l7 m i f L = gXl 3 sX5_compared_4 m (sX5_next f L) i f L := by
  intro m
  induction m with
  | zero => intro i f L; rfl
  | succ m ih =>
    intro i f L
    show sX5_both_4_h7 (sX5_both_4_l7 m) i f L = gXh 3 sX5_compared_4 (gXl 3 sX5_compared_4 m) (sX5_next f L) i f L
    unfold sX5_both_4_h7 gXh; (repeat first | rw [spl_d] | rw [spl2_d])
    by_cases c : i.toInt < 120
    · rw [if_pos c, if_pos c]
      by_cases s : (sX5_next f L).toInt = 38
      · have e : sX5_next f L = 38 := Int32.toInt_inj.mp (s.trans (by decide))
        rw [if_pos s, if_pos (pS_3 s), ih, e]
      · rw [if_neg s, if_neg (pS_3n s)]
    · rw [if_neg c, if_neg c]
theorem gx_sX5_both_4 : sX5_both_4 = gXc 3 sX5_compared_4 := by
  funext f L
  unfold sX5_both_4 gXc; (repeat first | rw [spl_d] | rw [spl2_d])
  exact gx_sX5_both_4_l _ _ _ _
theorem gx_sX5_either_4_l : ∀ (m : Nat) (i : Int32) (f : sg_F) (L : sg_L), sX5_either_4_l7 m i f L = gXl 4 sX5_both_4 m (sX5_next f L) i f L := by
  intro m
  induction m with
  | zero => intro i f L; rfl
  | succ m ih =>
    intro i f L
    show sX5_either_4_h7 (sX5_either_4_l7 m) i f L = gXh 4 sX5_both_4 (gXl 4 sX5_both_4 m) (sX5_next f L) i f L
    unfold sX5_either_4_h7 gXh; (repeat first | rw [spl_d] | rw [spl2_d])
    by_cases c : i.toInt < 120
    · rw [if_pos c, if_pos c]
      by_cases s : (sX5_next f L).toInt = 124
      · have e : sX5_next f L = 124 := Int32.toInt_inj.mp (s.trans (by decide))
        rw [if_pos s, if_pos (pS_4 s), ih, e]
      · rw [if_neg s, if_neg (pS_4n s)]
    · rw [if_neg c, if_neg c]
theorem gx_sX5_either_4 : sX5_either_4 = gXc 4 sX5_both_4 := by
  funext f L
  unfold sX5_either_4 gXc; (repeat first | rw [spl_d] | rw [spl2_d])
  exact gx_sX5_either_4_l _ _ _ _
theorem gx_sX5_opened_5 (x : Int32) (f : sg_F) (L : sg_L) : sX5_opened_5 x f L = gXopen sX5_either_5 sX5_operand_5 x f L := by
  unfold sX5_opened_5 gXopen; (repeat first | rw [spl_d] | rw [spl2_d])
theorem gx_sX5_operand_4 : sX5_operand_4 = gXopd true sX5_either_5 sX5_operand_5 := by
  funext f L
  unfold sX5_operand_4 gXopd; (repeat first | rw [spl_d] | rw [spl2_d])
  by_cases c1 : sX5_isDigit (sX5_next f L) f L = 1
  · rw [if_pos c1, if_pos c1]
  rw [if_neg c1, if_neg c1]
  by_cases c2 : sX5_isName (sX5_next f L) f L = 1
  · rw [if_pos c2, if_pos c2]
  rw [if_neg c2, if_neg c2]
  by_cases d40 : (sX5_next f L).toInt = 40
  · rw [if_pos d40, if_pos ⟨rfl, Or.inl d40⟩, gx_sX5_opened_5]
  rw [if_neg d40]
  by_cases d33 : (sX5_next f L).toInt = 33
  · rw [if_pos d33, if_pos ⟨rfl, Or.inr (Or.inl d33)⟩, gx_sX5_opened_5]
  rw [if_neg d33]
  by_cases d45 : (sX5_next f L).toInt = 45
  · rw [if_pos d45, if_pos ⟨rfl, Or.inr (Or.inr d45)⟩, gx_sX5_opened_5]
  rw [if_neg d45]
  rw [if_neg (fun w => by have := w.2; omega)]
theorem gx_sX5_product_5_h (rec : Int32 → Int32 → sg_F → sg_L → sg_F) (y i : Int32) (f : sg_F) (L : sg_L) : sX5_product_5_h12 rec y i f L = gXh 0 sX5_operand_5 rec y i f L := by
  unfold sX5_product_5_h12 gXh; (repeat first | rw [spl_d] | rw [spl2_d])
  by_cases c : i.toInt < 120
  · rw [if_pos c, if_pos c]
    by_cases c42 : y.toInt = 42
    · rw [if_pos c42, if_pos (pS_0 (by omega))]
    rw [if_neg c42]
    by_cases c47 : y.toInt = 47
    · rw [if_pos c47, if_pos (pS_0 (by omega))]
    rw [if_neg c47]
    by_cases c37 : y.toInt = 37
    · rw [if_pos c37, if_pos (pS_0 (by omega))]
    rw [if_neg c37]
    rw [if_neg (pS_0n (by omega))]
  · rw [if_neg c, if_neg c]
theorem gx_sX5_product_5_l : ∀ (m : Nat) (y i : Int32) (f : sg_F) (L : sg_L), sX5_product_5_l12 m y i f L = gXl 0 sX5_operand_5 m y i f L := by
  intro m
  induction m with
  | zero => intro y i f L; rfl
  | succ m ih =>
    intro y i f L
    show sX5_product_5_h12 (sX5_product_5_l12 m) y i f L = gXh 0 sX5_operand_5 (gXl 0 sX5_operand_5 m) y i f L
    rw [gx_sX5_product_5_h]
    unfold gXh
    rw [ih]
theorem gx_sX5_product_5 : sX5_product_5 = gXc 0 sX5_operand_5 := by
  funext f L
  unfold sX5_product_5 gXc; (repeat first | rw [spl_d] | rw [spl2_d])
  exact gx_sX5_product_5_l _ _ _ _ _
theorem gx_sX5_sum_5_h (rec : Int32 → Int32 → sg_F → sg_L → sg_F) (y i : Int32) (f : sg_F) (L : sg_L) : sX5_sum_5_h12 rec y i f L = gXh 1 sX5_product_5 rec y i f L := by
  unfold sX5_sum_5_h12 gXh; (repeat first | rw [spl_d] | rw [spl2_d])
  by_cases c : i.toInt < 120
  · rw [if_pos c, if_pos c]
    by_cases c43 : y.toInt = 43
    · rw [if_pos c43, if_pos (pS_1 (by omega))]
    rw [if_neg c43]
    by_cases c45 : y.toInt = 45
    · rw [if_pos c45, if_pos (pS_1 (by omega))]
    rw [if_neg c45]
    rw [if_neg (pS_1n (by omega))]
  · rw [if_neg c, if_neg c]
theorem gx_sX5_sum_5_l : ∀ (m : Nat) (y i : Int32) (f : sg_F) (L : sg_L), sX5_sum_5_l12 m y i f L = gXl 1 sX5_product_5 m y i f L := by
  intro m
  induction m with
  | zero => intro y i f L; rfl
  | succ m ih =>
    intro y i f L
    show sX5_sum_5_h12 (sX5_sum_5_l12 m) y i f L = gXh 1 sX5_product_5 (gXl 1 sX5_product_5 m) y i f L
    rw [gx_sX5_sum_5_h]
    unfold gXh
    rw [ih]
theorem gx_sX5_sum_5 : sX5_sum_5 = gXc 1 sX5_product_5 := by
  funext f L
  unfold sX5_sum_5 gXc; (repeat first | rw [spl_d] | rw [spl2_d])
  exact gx_sX5_sum_5_l _ _ _ _ _
theorem gx_sX5_compared_5 : sX5_compared_5 = gXo 2 sX5_sum_5 := by
  funext f L
  unfold sX5_compared_5 gXo; (repeat first | rw [spl_d] | rw [spl2_d])
  by_cases c60 : (sX5_next (sX5_sum_5 f L) L).toInt = 60
  · rw [if_pos c60, if_pos (pS_2 (by omega))]
  rw [if_neg c60]
  by_cases c61 : (sX5_next (sX5_sum_5 f L) L).toInt = 61
  · rw [if_pos c61, if_pos (pS_2 (by omega))]
  rw [if_neg c61]
  by_cases c62 : (sX5_next (sX5_sum_5 f L) L).toInt = 62
  · rw [if_pos c62, if_pos (pS_2 (by omega))]
  rw [if_neg c62]
  rw [if_neg (pS_2n (by omega))]
theorem gx_sX5_both_5_l : ∀ (m : Nat) (i : Int32) (f : sg_F) (L : sg_L), sX5_both_5_l7 m i f L = gXl 3 sX5_compared_5 m (sX5_next f L) i f L := by
  intro m
  induction m with
  | zero => intro i f L; rfl
  | succ m ih =>
    intro i f L
    show sX5_both_5_h7 (sX5_both_5_l7 m) i f L = gXh 3 sX5_compared_5 (gXl 3 sX5_compared_5 m) (sX5_next f L) i f L
    unfold sX5_both_5_h7 gXh; (repeat first | rw [spl_d] | rw [spl2_d])
    by_cases c : i.toInt < 120
    · rw [if_pos c, if_pos c]
      by_cases s : (sX5_next f L).toInt = 38
      · have e : sX5_next f L = 38 := Int32.toInt_inj.mp (s.trans (by decide))
        rw [if_pos s, if_pos (pS_3 s), ih, e]
      · rw [if_neg s, if_neg (pS_3n s)]
    · rw [if_neg c, if_neg c]
theorem gx_sX5_both_5 : sX5_both_5 = gXc 3 sX5_compared_5 := by
  funext f L
  unfold sX5_both_5 gXc; (repeat first | rw [spl_d] | rw [spl2_d])
  exact gx_sX5_both_5_l _ _ _ _
theorem gx_sX5_either_5_l : ∀ (m : Nat) (i : Int32) (f : sg_F) (L : sg_L), sX5_either_5_l7 m i f L = gXl 4 sX5_both_5 m (sX5_next f L) i f L := by
  intro m
  induction m with
  | zero => intro i f L; rfl
  | succ m ih =>
    intro i f L
    show sX5_either_5_h7 (sX5_either_5_l7 m) i f L = gXh 4 sX5_both_5 (gXl 4 sX5_both_5 m) (sX5_next f L) i f L
    unfold sX5_either_5_h7 gXh; (repeat first | rw [spl_d] | rw [spl2_d])
    by_cases c : i.toInt < 120
    · rw [if_pos c, if_pos c]
      by_cases s : (sX5_next f L).toInt = 124
      · have e : sX5_next f L = 124 := Int32.toInt_inj.mp (s.trans (by decide))
        rw [if_pos s, if_pos (pS_4 s), ih, e]
      · rw [if_neg s, if_neg (pS_4n s)]
    · rw [if_neg c, if_neg c]
theorem gx_sX5_either_5 : sX5_either_5 = gXc 4 sX5_both_5 := by
  funext f L
  unfold sX5_either_5 gXc; (repeat first | rw [spl_d] | rw [spl2_d])
  exact gx_sX5_either_5_l _ _ _ _
theorem gx_sX5_opened_6 (x : Int32) (f : sg_F) (L : sg_L) : sX5_opened_6 x f L = gXopen sX5_either_6 sX5_operand_6 x f L := by
  unfold sX5_opened_6 gXopen; (repeat first | rw [spl_d] | rw [spl2_d])
theorem gx_sX5_operand_5 : sX5_operand_5 = gXopd true sX5_either_6 sX5_operand_6 := by
  funext f L
  unfold sX5_operand_5 gXopd; (repeat first | rw [spl_d] | rw [spl2_d])
  by_cases c1 : sX5_isDigit (sX5_next f L) f L = 1
  · rw [if_pos c1, if_pos c1]
  rw [if_neg c1, if_neg c1]
  by_cases c2 : sX5_isName (sX5_next f L) f L = 1
  · rw [if_pos c2, if_pos c2]
  rw [if_neg c2, if_neg c2]
  by_cases d40 : (sX5_next f L).toInt = 40
  · rw [if_pos d40, if_pos ⟨rfl, Or.inl d40⟩, gx_sX5_opened_6]
  rw [if_neg d40]
  by_cases d33 : (sX5_next f L).toInt = 33
  · rw [if_pos d33, if_pos ⟨rfl, Or.inr (Or.inl d33)⟩, gx_sX5_opened_6]
  rw [if_neg d33]
  by_cases d45 : (sX5_next f L).toInt = 45
  · rw [if_pos d45, if_pos ⟨rfl, Or.inr (Or.inr d45)⟩, gx_sX5_opened_6]
  rw [if_neg d45]
  rw [if_neg (fun w => by have := w.2; omega)]
theorem gx_sX5_product_6_h (rec : Int32 → Int32 → sg_F → sg_L → sg_F) (y i : Int32) (f : sg_F) (L : sg_L) : sX5_product_6_h12 rec y i f L = gXh 0 sX5_operand_6 rec y i f L := by
  unfold sX5_product_6_h12 gXh; (repeat first | rw [spl_d] | rw [spl2_d])
  by_cases c : i.toInt < 120
  · rw [if_pos c, if_pos c]
    by_cases c42 : y.toInt = 42
    · rw [if_pos c42, if_pos (pS_0 (by omega))]
    rw [if_neg c42]
    by_cases c47 : y.toInt = 47
    · rw [if_pos c47, if_pos (pS_0 (by omega))]
    rw [if_neg c47]
    by_cases c37 : y.toInt = 37
    · rw [if_pos c37, if_pos (pS_0 (by omega))]
    rw [if_neg c37]
    rw [if_neg (pS_0n (by omega))]
  · rw [if_neg c, if_neg c]
theorem gx_sX5_product_6_l : ∀ (m : Nat) (y i : Int32) (f : sg_F) (L : sg_L), sX5_product_6_l12 m y i f L = gXl 0 sX5_operand_6 m y i f L := by
  intro m
  induction m with
  | zero => intro y i f L; rfl
  | succ m ih =>
    intro y i f L
    show sX5_product_6_h12 (sX5_product_6_l12 m) y i f L = gXh 0 sX5_operand_6 (gXl 0 sX5_operand_6 m) y i f L
    rw [gx_sX5_product_6_h]
    unfold gXh
    rw [ih]
theorem gx_sX5_product_6 : sX5_product_6 = gXc 0 sX5_operand_6 := by
  funext f L
  unfold sX5_product_6 gXc; (repeat first | rw [spl_d] | rw [spl2_d])
  exact gx_sX5_product_6_l _ _ _ _ _
theorem gx_sX5_sum_6_h (rec : Int32 → Int32 → sg_F → sg_L → sg_F) (y i : Int32) (f : sg_F) (L : sg_L) : sX5_sum_6_h12 rec y i f L = gXh 1 sX5_product_6 rec y i f L := by
  unfold sX5_sum_6_h12 gXh; (repeat first | rw [spl_d] | rw [spl2_d])
  by_cases c : i.toInt < 120
  · rw [if_pos c, if_pos c]
    by_cases c43 : y.toInt = 43
    · rw [if_pos c43, if_pos (pS_1 (by omega))]
    rw [if_neg c43]
    by_cases c45 : y.toInt = 45
    · rw [if_pos c45, if_pos (pS_1 (by omega))]
    rw [if_neg c45]
    rw [if_neg (pS_1n (by omega))]
  · rw [if_neg c, if_neg c]
theorem gx_sX5_sum_6_l : ∀ (m : Nat) (y i : Int32) (f : sg_F) (L : sg_L), sX5_sum_6_l12 m y i f L = gXl 1 sX5_product_6 m y i f L := by
  intro m
  induction m with
  | zero => intro y i f L; rfl
  | succ m ih =>
    intro y i f L
    show sX5_sum_6_h12 (sX5_sum_6_l12 m) y i f L = gXh 1 sX5_product_6 (gXl 1 sX5_product_6 m) y i f L
    rw [gx_sX5_sum_6_h]
    unfold gXh
    rw [ih]
theorem gx_sX5_sum_6 : sX5_sum_6 = gXc 1 sX5_product_6 := by
  funext f L
  unfold sX5_sum_6 gXc; (repeat first | rw [spl_d] | rw [spl2_d])
  exact gx_sX5_sum_6_l _ _ _ _ _
theorem gx_sX5_compared_6 : sX5_compared_6 = gXo 2 sX5_sum_6 := by
  funext f L
  unfold sX5_compared_6 gXo; (repeat first | rw [spl_d] | rw [spl2_d])
  by_cases c60 : (sX5_next (sX5_sum_6 f L) L).toInt = 60
  · rw [if_pos c60, if_pos (pS_2 (by omega))]
  rw [if_neg c60]
  by_cases c61 : (sX5_next (sX5_sum_6 f L) L).toInt = 61
  · rw [if_pos c61, if_pos (pS_2 (by omega))]
  rw [if_neg c61]
  by_cases c62 : (sX5_next (sX5_sum_6 f L) L).toInt = 62
  · rw [if_pos c62, if_pos (pS_2 (by omega))]
  rw [if_neg c62]
  rw [if_neg (pS_2n (by omega))]
theorem gx_sX5_both_6_l : ∀ (m : Nat) (i : Int32) (f : sg_F) (L : sg_L), sX5_both_6_l7 m i f L = gXl 3 sX5_compared_6 m (sX5_next f L) i f L := by
  intro m
  induction m with
  | zero => intro i f L; rfl
  | succ m ih =>
    intro i f L
    show sX5_both_6_h7 (sX5_both_6_l7 m) i f L = gXh 3 sX5_compared_6 (gXl 3 sX5_compared_6 m) (sX5_next f L) i f L
    unfold sX5_both_6_h7 gXh; (repeat first | rw [spl_d] | rw [spl2_d])
    by_cases c : i.toInt < 120
    · rw [if_pos c, if_pos c]
      by_cases s : (sX5_next f L).toInt = 38
      · have e : sX5_next f L = 38 := Int32.toInt_inj.mp (s.trans (by decide))
        rw [if_pos s, if_pos (pS_3 s), ih, e]
      · rw [if_neg s, if_neg (pS_3n s)]
    · rw [if_neg c, if_neg c]
theorem gx_sX5_both_6 : sX5_both_6 = gXc 3 sX5_compared_6 := by
  funext f L
  unfold sX5_both_6 gXc; (repeat first | rw [spl_d] | rw [spl2_d])
  exact gx_sX5_both_6_l _ _ _ _
theorem gx_sX5_either_6_l : ∀ (m : Nat) (i : Int32) (f : sg_F) (L : sg_L), sX5_either_6_l7 m i f L = gXl 4 sX5_both_6 m (sX5_next f L) i f L := by
  intro m
  induction m with
  | zero => intro i f L; rfl
  | succ m ih =>
    intro i f L
    show sX5_either_6_h7 (sX5_either_6_l7 m) i f L = gXh 4 sX5_both_6 (gXl 4 sX5_both_6 m) (sX5_next f L) i f L
    unfold sX5_either_6_h7 gXh; (repeat first | rw [spl_d] | rw [spl2_d])
    by_cases c : i.toInt < 120
    · rw [if_pos c, if_pos c]
      by_cases s : (sX5_next f L).toInt = 124
      · have e : sX5_next f L = 124 := Int32.toInt_inj.mp (s.trans (by decide))
        rw [if_pos s, if_pos (pS_4 s), ih, e]
      · rw [if_neg s, if_neg (pS_4n s)]
    · rw [if_neg c, if_neg c]
theorem gx_sX5_either_6 : sX5_either_6 = gXc 4 sX5_both_6 := by
  funext f L
  unfold sX5_either_6 gXc; (repeat first | rw [spl_d] | rw [spl2_d])
  exact gx_sX5_either_6_l _ _ _ _
theorem gx_sX5_operand_6 : sX5_operand_6 = gXopd false (fun f _ => f) (fun f _ => f) := by
  funext f L
  unfold sX5_operand_6 gXopd; (repeat first | rw [spl_d] | rw [spl2_d])
  by_cases c1 : sX5_isDigit (sX5_next f L) f L = 1
  · rw [if_pos c1, if_pos c1]
  rw [if_neg c1, if_neg c1]
  by_cases c2 : sX5_isName (sX5_next f L) f L = 1
  · rw [if_pos c2, if_pos c2]
  rw [if_neg c2, if_neg c2]
  rw [if_neg (show ¬ (false = true ∧ ((sX5_next f L).toInt = 40 ∨ (sX5_next f L).toInt = 33 ∨ (sX5_next f L).toInt = 45)) from fun w => absurd w.1 Bool.false_ne_true)]
  (repeat' split) <;> rfl
theorem xO_exp {T : Nat → Int32} {n : Nat} {op : sg_F → sg_L → sg_F} {P : Nat → pR} (h : xO T n op P) (g : ∀ a : Nat, pG n (P a) a) : xO T n (gXc 4 (gXc 3 (gXo 2 (gXc 1 (gXc 0 op))))) (pExp P T n) := gXc_O (gXc_O (gXo_O (gXc_O (gXc_O h g) (pChain_G g)) (pChain_G (pChain_G g))) (pChain_G (pChain_G (pChain_G g)))) (pChain_G (pChain_G (pChain_G (pChain_G g))))
theorem xO_o6 {T : Nat → Int32} {n : Nat} : xO T n sX5_operand_6 (pO T n 0) := by
  rw [gx_sX5_operand_6]
  show xO T n (gXopd false (fun f _ => f) (fun f _ => f)) (pOpd false pbad pbad T n)
  exact gXopd_N (fun _ _ => xK.rf) (fun _ _ => xK.rf)
theorem xO_e6 {T : Nat → Int32} {n : Nat} : xO T n sX5_either_6 (pExp (pO T n 0) T n) := by
  rw [gx_sX5_either_6, gx_sX5_both_6, gx_sX5_compared_6, gx_sX5_sum_6, gx_sX5_product_6]
  exact xO_exp xO_o6 (pO_G 0)
theorem xO_o5 {T : Nat → Int32} {n : Nat} : xO T n sX5_operand_5 (pO T n 1) := by
  rw [gx_sX5_operand_5]
  exact gXopd_O xO_e6 xO_o6 (pExp_G (pO_G 0)) (pO_G 0)
theorem xO_e5 {T : Nat → Int32} {n : Nat} : xO T n sX5_either_5 (pExp (pO T n 1) T n) := by
  rw [gx_sX5_either_5, gx_sX5_both_5, gx_sX5_compared_5, gx_sX5_sum_5, gx_sX5_product_5]
  exact xO_exp xO_o5 (pO_G 1)
theorem xO_o4 {T : Nat → Int32} {n : Nat} : xO T n sX5_operand_4 (pO T n 2) := by
  rw [gx_sX5_operand_4]
  exact gXopd_O xO_e5 xO_o5 (pExp_G (pO_G 1)) (pO_G 1)
theorem xO_e4 {T : Nat → Int32} {n : Nat} : xO T n sX5_either_4 (pExp (pO T n 2) T n) := by
  rw [gx_sX5_either_4, gx_sX5_both_4, gx_sX5_compared_4, gx_sX5_sum_4, gx_sX5_product_4]
  exact xO_exp xO_o4 (pO_G 2)
theorem xO_o3 {T : Nat → Int32} {n : Nat} : xO T n sX5_operand_3 (pO T n 3) := by
  rw [gx_sX5_operand_3]
  exact gXopd_O xO_e4 xO_o4 (pExp_G (pO_G 2)) (pO_G 2)
theorem xO_e3 {T : Nat → Int32} {n : Nat} : xO T n sX5_either_3 (pExp (pO T n 3) T n) := by
  rw [gx_sX5_either_3, gx_sX5_both_3, gx_sX5_compared_3, gx_sX5_sum_3, gx_sX5_product_3]
  exact xO_exp xO_o3 (pO_G 3)
theorem xO_o2 {T : Nat → Int32} {n : Nat} : xO T n sX5_operand_2 (pO T n 4) := by
  rw [gx_sX5_operand_2]
  exact gXopd_O xO_e3 xO_o3 (pExp_G (pO_G 3)) (pO_G 3)
theorem xO_e2 {T : Nat → Int32} {n : Nat} : xO T n sX5_either_2 (pExp (pO T n 4) T n) := by
  rw [gx_sX5_either_2, gx_sX5_both_2, gx_sX5_compared_2, gx_sX5_sum_2, gx_sX5_product_2]
  exact xO_exp xO_o2 (pO_G 4)
theorem xO_o1 {T : Nat → Int32} {n : Nat} : xO T n sX5_operand_1 (pO T n 5) := by
  rw [gx_sX5_operand_1]
  exact gXopd_O xO_e2 xO_o2 (pExp_G (pO_G 4)) (pO_G 4)
theorem xO_e1 {T : Nat → Int32} {n : Nat} : xO T n sX5_either_1 (pExp (pO T n 5) T n) := by
  rw [gx_sX5_either_1, gx_sX5_both_1, gx_sX5_compared_1, gx_sX5_sum_1, gx_sX5_product_1]
  exact xO_exp xO_o1 (pO_G 5)
theorem xO_o0 {T : Nat → Int32} {n : Nat} : xO T n sX5_operand_0 (pO T n 6) := by
  rw [gx_sX5_operand_0]
  exact gXopd_O xO_e1 xO_o1 (pExp_G (pO_G 5)) (pO_G 5)
theorem xO_e0 {T : Nat → Int32} {n : Nat} : xO T n sX5_either_0 (pExp (pO T n 6) T n) := by
  rw [gx_sX5_either_0, gx_sX5_both_0, gx_sX5_compared_0, gx_sX5_sum_0, gx_sX5_product_0]
  exact xO_exp xO_o0 (pO_G 6)
/-! THE LAW: the reference's reading -/
/-- reading stands at a, k are open, no fault -/
def mS (T N : Nat → Int32) (n a : Nat) (k : Int) (g : sg_F) : Prop := (g 0 13).toInt = a ∧ (g 0 14).toInt = n ∧ (g 0 15).toInt = -1 ∧ (g 0 16).toInt = k ∧ (((g 0 12).toInt < 0 ∧ ∀ i : Nat, i < n → g 6 i = T i) ∨ ((g 0 12).toInt = 0 ∧ ∀ i : Nat, i < n → g 7 i = T i)) ∧ (∀ i : Nat, i < 6 → g 8 i = N i) ∧ n ≤ 120 ∧ a ≤ n
def mF (n p : Nat) (g : sg_F) : Prop := (g 0 13).toInt = p ∧ (g 0 14).toInt = n ∧ (g 0 15).toInt = p
/-- all but where reading stands is as it was -/
def mK (g g1 : sg_F) : Prop := ∀ k j : Nat, (k ≠ 0 ∨ (j ≠ 13 ∧ j ≠ 15 ∧ j ≠ 16)) → g1 k j = g k j
theorem mK.rf {g : sg_F} : mK g g := fun _ _ _ => rfl
theorem mK.tr {g g1 g2 : sg_F} (h : mK g g1) (h1 : mK g1 g2) : mK g g2 := fun k j hk => (h1 k j hk).trans (h k j hk)
theorem mK.put {g : sg_F} {j : Nat} {x : Int32} (hj : j = 13 ∨ j = 15 ∨ j = 16) : mK g (sg_up g 0 (sgu (g 0) j x)) := by
  intro k i hk
  by_cases c : k = 0
  · subst c
    rw [sg_up_s, sgu_n (by omega)]
  · rw [sg_up_n c]
abbrev mad (g : sg_F) : sg_F := sg_up g 0 (sgu (g 0) 13 (g 0 13 + 1))
theorem mS.put {T N : Nat → Int32} {n a : Nat} {k k1 : Int} {g : sg_F} {x : Int32} (h : mS T N n a k g) (e : x.toInt = k1) : mS T N n a k1 (sg_up g 0 (sgu (g 0) 16 x)) := by
  obtain ⟨h1, h2, h3, h4, h5, h6, h7, h8⟩ := h
  refine ⟨?_, ?_, ?_, ?_, ?_, fun i hi => ?_, h7, h8⟩
  · rw [sg_up_s, sgu_n (show (13 : Nat) ≠ 16 by decide)]; exact h1
  · rw [sg_up_s, sgu_n (show (14 : Nat) ≠ 16 by decide)]; exact h2
  · rw [sg_up_s, sgu_n (show (15 : Nat) ≠ 16 by decide)]; exact h3
  · rw [sg_up_s, sgu_s]; exact e
  · rw [sg_up_s, sgu_n (show (12 : Nat) ≠ 16 by decide), sg_up_n (show (6 : Nat) ≠ 0 by decide), sg_up_n (show (7 : Nat) ≠ 0 by decide)]; exact h5
  · rw [sg_up_n (show (8 : Nat) ≠ 0 by decide)]; exact h6 i hi
theorem madv {T N : Nat → Int32} {n a : Nat} {k : Int} {g : sg_F} (h : mS T N n a k g) (c : a < n) {x : Int32} (e : x.toInt = (a : Int) + 1) : mS T N n (a + 1) k (sg_up g 0 (sgu (g 0) 13 x)) := by
  obtain ⟨h1, h2, h3, h4, h5, h6, h7, h8⟩ := h
  refine ⟨?_, ?_, ?_, ?_, ?_, fun i hi => ?_, h7, by omega⟩
  · rw [sg_up_s, sgu_s]; omega
  · rw [sg_up_s, sgu_n (show (14 : Nat) ≠ 13 by decide)]; exact h2
  · rw [sg_up_s, sgu_n (show (15 : Nat) ≠ 13 by decide)]; exact h3
  · rw [sg_up_s, sgu_n (show (16 : Nat) ≠ 13 by decide)]; exact h4
  · rw [sg_up_s, sgu_n (show (12 : Nat) ≠ 13 by decide), sg_up_n (show (6 : Nat) ≠ 0 by decide), sg_up_n (show (7 : Nat) ≠ 0 by decide)]; exact h5
  · rw [sg_up_n (show (8 : Nat) ≠ 0 by decide)]; exact h6 i hi
theorem mS.i1 {T N : Nat → Int32} {n a : Nat} {k : Int} {g : sg_F} (h : mS T N n a k g) : (g 0 13 + 1).toInt = (a : Int) + 1 := by
  have k1 : (1 : Int32).toInt = 1 := by decide
  have h1 := h.1
  have h8 := h.2.2.2.2.2.2
  exact (bn_addI (by omega) (by omega)).trans (by omega)
theorem mby {T N : Nat → Int32} {n a : Nat} {k : Int} {g : sg_F} (h : mS T N n a k g) (L : sg_L) : (a < n ∧ sX12_byteAt g L = T a ∧ pnx T n a = (T a).toInt) ∨ (¬ a < n ∧ sX12_byteAt g L = 0 ∧ pnx T n a = -1) := by
  obtain ⟨h1, h2, h3, h4, h5, h6, h7, h8⟩ := h
  unfold sX12_byteAt pnx; (repeat first | rw [spl_d] | rw [spl2_d])
  by_cases c : a < n
  · refine Or.inl ⟨c, ?_, by rw [if_pos c]⟩
    have e := bn_clI (x := g 0 13) (by omega)
    rw [if_pos (show (g 0 13).toInt < (g 0 14).toInt from by omega)]
    rcases h5 with ⟨b, t⟩ | ⟨b, t⟩
    · rw [if_pos b, show (g 0 13).toNatClampNeg = a from by omega, t a c]
    · have e1 : (g 0 12 + g 0 13).toInt = (g 0 12).toInt + (g 0 13).toInt := bn_addI (by omega) (by omega)
      have e2 := bn_clI (x := g 0 12 + g 0 13) (by omega)
      rw [if_neg (show ¬ (g 0 12).toInt < 0 from by omega), show (g 0 12 + g 0 13).toNatClampNeg = a from by omega, t a c]
  · exact Or.inr ⟨c, by rw [if_neg (show ¬ (g 0 13).toInt < (g 0 14).toInt from by omega)], by rw [if_neg c]⟩
theorem mbS {T N : Nat → Int32} {n a : Nat} {k : Int} {g : sg_F} (h : mS T N n a k g) (L : sg_L) (z : Int) (hz : 0 < z) : ((sX12_byteAt g L).toInt = z ↔ pnx T n a = z) := by
  have k0 : (0 : Int32).toInt = 0 := by decide
  rcases mby h L with ⟨c, e1, e2⟩ | ⟨c, e1, e2⟩
  · rw [e1, e2]
  · rw [e1, e2]; omega
theorem mpS {T N : Nat → Int32} {n a : Nat} {k : Int} {g : sg_F} (h : mS T N n a k g) (L : sg_L) (s : Nat) : pS s (sX12_byteAt g L).toInt = pS s (pnx T n a) := by
  have k0 : (0 : Int32).toInt = 0 := by decide
  rcases mby h L with ⟨c, e1, e2⟩ | ⟨c, e1, e2⟩
  · rw [e1, e2]
  · have b1 : ¬ pS s (0 : Int32).toInt = true := by
      intro w
      have b := pS_bin w
      unfold pbin at b
      omega
    have b2 : ¬ pS s (-1) = true := pS_m1 rfl
    rw [e1, e2, Bool.eq_false_iff.mpr b1, Bool.eq_false_iff.mpr b2]
theorem mwr {T N : Nat → Int32} {n a : Nat} {k : Int} {g : sg_F} (h : mS T N n a k g) (L : sg_L) : mF n a (sX12_wrong g L).2 := by
  obtain ⟨h1, h2, h3, h4, h5, h6, h7, h8⟩ := h
  unfold sX12_wrong; (repeat first | rw [spl_d] | rw [spl2_d])
  rw [if_pos (show (g 0 15).toInt < 0 from by omega)]
  show mF n a (sg_up g 0 (sgu (g 0) 15 (g 0 13)))
  refine ⟨?_, ?_, ?_⟩
  · rw [sg_up_s, sgu_n (show (13 : Nat) ≠ 15 by decide)]; exact h1
  · rw [sg_up_s, sgu_n (show (14 : Nat) ≠ 15 by decide)]; exact h2
  · rw [sg_up_s, sgu_s]; exact h1
theorem mwrF {n p : Nat} {g : sg_F} (h : mF n p g) (L : sg_L) : mF n p (sX12_wrong g L).2 := by
  obtain ⟨h1, h2, h3⟩ := h
  unfold sX12_wrong; (repeat first | rw [spl_d] | rw [spl2_d])
  rw [if_neg (show ¬ (g 0 15).toInt < 0 from by omega)]
  show mF n p (sg_up g 0 (sgu (g 0) 15 (g 0 15)))
  refine ⟨?_, ?_, ?_⟩
  · rw [sg_up_s, sgu_n (show (13 : Nat) ≠ 15 by decide)]; exact h1
  · rw [sg_up_s, sgu_n (show (14 : Nat) ≠ 15 by decide)]; exact h2
  · rw [sg_up_s, sgu_s]; exact h3
theorem mwrK (g : sg_F) (L : sg_L) : mK g (sX12_wrong g L).2 := by
  unfold sX12_wrong; (repeat first | rw [spl_d] | rw [spl2_d])
  by_cases c : (g 0 15).toInt < 0
  · rw [if_pos c]; exact mK.put (Or.inr (Or.inl rfl))
  · rw [if_neg c]; exact mK.put (Or.inr (Or.inl rfl))
theorem mF.put {n p : Nat} {g : sg_F} {x : Int32} (h : mF n p g) : mF n p (sg_up g 0 (sgu (g 0) 16 x)) := by
  refine ⟨?_, ?_, ?_⟩
  · rw [sg_up_s, sgu_n (show (13 : Nat) ≠ 16 by decide)]; exact h.1
  · rw [sg_up_s, sgu_n (show (14 : Nat) ≠ 16 by decide)]; exact h.2.1
  · rw [sg_up_s, sgu_n (show (15 : Nat) ≠ 16 by decide)]; exact h.2.2
theorem mS.lt {T N : Nat → Int32} {n a : Nat} {k : Int} {g : sg_F} (h : mS T N n a k g) : (g 0 15).toInt < 0 := by have := h.2.2.1; omega
theorem mF.nlt {n p : Nat} {g : sg_F} (h : mF n p g) : ¬ (g 0 15).toInt < 0 := by have := h.2.2; omega
/-- how reading ends and what it gives: as r says -/
def mG (T N : Nat → Int32) (n : Nat) (k : Int) (r : pR) (o : Int32 × sg_F) : Prop := (r.2.1 = true → o.1 = r.2.2.2 N ∧ mS T N n r.1 k o.2) ∧ (r.2.1 = false → mF n r.1 o.2)
def mO (T N : Nat → Int32) (n : Nat) (k : Int) (op : sg_F → sg_L → Int32 × sg_F) (P : Nat → pR) : Prop := (∀ (g : sg_F) (L : sg_L) (a : Nat), mS T N n a k g → mG T N n k (P a) (op g L)) ∧ (∀ (g : sg_F) (L : sg_L) (p : Nat), mF n p g → mF n p (op g L).2) ∧ ∀ (g : sg_F) (L : sg_L), mK g (op g L).2
theorem mG.bad {T N : Nat → Int32} {n p : Nat} {k : Int} {c : List Int32} {v : pV} {x : Int32} {g : sg_F} (h : mF n p g) : mG T N n k (p, false, c, v) (x, g) := ⟨fun z => (by cases z), fun _ => h⟩
theorem mG.ok {T N : Nat → Int32} {n p : Nat} {k : Int} {c : List Int32} {v : pV} {x : Int32} {g : sg_F} (e : x = v N) (h : mS T N n p k g) : mG T N n k (p, true, c, v) (x, g) := ⟨fun _ => ⟨e, h⟩, fun z => (by cases z)⟩
noncomputable def gMh (s : Nat) (op : sg_F → sg_L → Int32 × sg_F) (rec : Int32 → sg_F → sg_L → Int32 × sg_F) (v : Int32) (g : sg_F) (L : sg_L) : Int32 × sg_F :=
  if (g 0 15).toInt < 0 then (if pS s (sX12_byteAt g L).toInt = true then rec (pwk (sX12_byteAt g L).toInt v (op (mad g) L).1) (op (mad g) L).2 L else (v, g)) else (v, g)
noncomputable def gMl (s : Nat) (op : sg_F → sg_L → Int32 × sg_F) : Nat → Int32 → sg_F → sg_L → Int32 × sg_F
  | 0, _, g, _ => (0, g)
  | m + 1, v, g, L => gMh s op (gMl s op m) v g L
noncomputable def gMc (s : Nat) (op : sg_F → sg_L → Int32 × sg_F) (g : sg_F) (L : sg_L) : Int32 × sg_F := gMl s op 121 (op g L).1 (op g L).2 L
noncomputable def gMo (s : Nat) (op : sg_F → sg_L → Int32 × sg_F) (g : sg_F) (L : sg_L) : Int32 × sg_F :=
  if ((op g L).2 0 15).toInt < 0 then (if pS s (sX12_byteAt (op g L).2 L).toInt = true then (pwk (sX12_byteAt (op g L).2 L).toInt (op g L).1 (op (mad (op g L).2) L).1, (op (mad (op g L).2) L).2) else op g L) else op g L
theorem madK (g : sg_F) : mK g (mad g) := mK.put (Or.inl rfl)
theorem gMl_K {s : Nat} {op : sg_F → sg_L → Int32 × sg_F} (h : ∀ (g : sg_F) (L : sg_L), mK g (op g L).2) (L : sg_L) : ∀ (m : Nat) (v : Int32) (g : sg_F), mK g (gMl s op m v g L).2 := by
  intro m
  induction m with
  | zero => intro v g; exact mK.rf
  | succ m ih =>
    intro v g
    show mK g (gMh s op (gMl s op m) v g L).2
    unfold gMh
    by_cases c1 : (g 0 15).toInt < 0
    · rw [if_pos c1]
      by_cases c2 : pS s (sX12_byteAt g L).toInt = true
      · rw [if_pos c2]; exact ((madK g).tr (h _ _)).tr (ih _ _)
      · rw [if_neg c2]; exact mK.rf
    · rw [if_neg c1]; exact mK.rf
theorem gMl_F {s n p : Nat} {op : sg_F → sg_L → Int32 × sg_F} {L : sg_L} : ∀ (m : Nat) (v : Int32) (g : sg_F), mF n p g → mF n p (gMl s op m v g L).2 := by
  intro m v g h
  cases m with
  | zero => exact h
  | succ m =>
    show mF n p (gMh s op (gMl s op m) v g L).2
    unfold gMh
    rw [if_neg h.nlt]; exact h
theorem gMl_S {T N : Nat → Int32} {n s : Nat} {k : Int} {op : sg_F → sg_L → Int32 × sg_F} {P : Nat → pR} (hop : mO T N n k op P) (hP : ∀ a : Nat, pG n (P a) a) (L : sg_L) : ∀ (m q : Nat) (x : Int32) (g : sg_F) (p : Nat) (c : List Int32) (v : pV), mS T N n p k g → x = v N → n - p < m → n - p < q → mG T N n k (pLoop (pS s) P T n q (p, true, c, v)) (gMl s op m x g L) := by
  intro m
  induction m with
  | zero => intro q x g p c v h e h1 h2; exact absurd h1 (by omega)
  | succ m ih =>
    intro q x g p c v h e h1 h2
    cases q with
    | zero => exact absurd h2 (by omega)
    | succ q =>
      show mG T N n k (pLoop (pS s) P T n (q + 1) (p, true, c, v)) (gMh s op (gMl s op m) x g L)
      unfold pLoop gMh
      rw [if_pos (show ((p, true, c, v) : pR).2.1 = true from rfl), if_pos h.lt]
      show mG T N n k (if pS s (pnx T n p) = true then _ else _) _
      rw [mpS h L s]
      by_cases w : pS s (pnx T n p) = true
      · have sb := pS_bin w
        rw [if_pos w, if_pos w]
        rcases mby h L with ⟨g1, g2, g3⟩ | ⟨-, -, g3⟩
        case inr => exact absurd sb (by unfold pbin; omega)
        have u := madv h g1 h.i1
        have W := hop.1 (mad g) L (p + 1) u
        have G := hP (p + 1)
        rw [g2, ← g3]
        obtain ⟨o, eo⟩ : ∃ z : Int32 × sg_F, z = op (mad g) L := ⟨_, rfl⟩
        rw [← eo] at W ⊢
        obtain ⟨r, er⟩ : ∃ z : pR, z = P (p + 1) := ⟨_, rfl⟩
        rw [← er] at W G ⊢
        obtain ⟨p', r2, c', v'⟩ := r
        cases r2 with
        | true =>
          obtain ⟨w1, w2⟩ := W.1 rfl
          obtain ⟨G1, -⟩ := G rfl
          have G1 : p + 1 < p' := G1
          have w1 : o.1 = v' N := w1
          have w2 : mS T N n p' k o.2 := w2
          exact ih q _ o.2 p' (c ++ c' ++ [T p]) (fun N => pwk (pnx T n p) (v N) (v' N)) w2 (by rw [w1, e]) (by omega) (by omega)
        | false =>
          have w1 := W.2 rfl
          show mG T N n k (pLoop (pS s) P T n q (p', false, c ++ c' ++ [T p], fun N => pwk (pnx T n p) (v N) (v' N))) _
          rw [pLoop_bad rfl]
          exact ⟨fun z => (by cases z), fun _ => gMl_F _ _ _ w1⟩
      · rw [if_neg w, if_neg w]
        exact mG.ok e h
theorem gMc_O {T N : Nat → Int32} {n s : Nat} {k : Int} {op : sg_F → sg_L → Int32 × sg_F} {P : Nat → pR} (hop : mO T N n k op P) (hP : ∀ a : Nat, pG n (P a) a) : mO T N n k (gMc s op) (pChain s 121 P T n) := by
  refine ⟨fun g L a h => ?_, fun g L p h => gMl_F _ _ _ (hop.2.1 g L p h), fun g L => (hop.2.2 g L).tr (gMl_K hop.2.2 L _ _ _)⟩
  have w := hop.1 g L a h
  have hn := h.2.2.2.2.2.2
  unfold gMc pChain
  obtain ⟨r, er⟩ : ∃ z : pR, z = P a := ⟨_, rfl⟩
  rw [← er] at w ⊢
  obtain ⟨r1, r2, r3, r4⟩ := r
  cases r2 with
  | true =>
    obtain ⟨w1, w2⟩ := w.1 rfl
    exact gMl_S hop hP L 121 121 _ _ r1 r3 r4 w2 w1 (by omega) (by omega)
  | false =>
    rw [pLoop_bad rfl]
    exact ⟨fun z => (by cases z), fun _ => gMl_F _ _ _ (w.2 rfl)⟩
theorem gMo_O {T N : Nat → Int32} {n s : Nat} {k : Int} {op : sg_F → sg_L → Int32 × sg_F} {P : Nat → pR} (hop : mO T N n k op P) : mO T N n k (gMo s op) (pChain s 1 P T n) := by
  refine ⟨fun g L a h => ?_, fun g L p h => ?_, fun g L => ?_⟩
  · have w := hop.1 g L a h
    unfold gMo pChain
    obtain ⟨r, er⟩ : ∃ z : pR, z = P a := ⟨_, rfl⟩
    rw [← er] at w ⊢
    obtain ⟨o, eo⟩ : ∃ z : Int32 × sg_F, z = op g L := ⟨_, rfl⟩
    rw [← eo] at w ⊢
    obtain ⟨p, r2, c, v⟩ := r
    cases r2 with
    | true =>
      obtain ⟨w1, w2⟩ := w.1 rfl
      have w1 : o.1 = v N := w1
      have w2 : mS T N n p k o.2 := w2
      rw [if_pos w2.lt, mpS w2 L s]
      show mG T N n k (if true = true then (if pS s (pnx T n p) = true then _ else _) else _) _
      rw [if_pos rfl]
      by_cases q : pS s (pnx T n p) = true
      · have sb := pS_bin q
        rw [if_pos q, if_pos q]
        rcases mby w2 L with ⟨g1, g2, g3⟩ | ⟨-, -, g3⟩
        case inr => exact absurd sb (by unfold pbin; omega)
        have x := hop.1 (mad o.2) L (p + 1) (madv w2 g1 w2.i1)
        rw [g2, ← g3]
        obtain ⟨o', eo'⟩ : ∃ z : Int32 × sg_F, z = op (mad o.2) L := ⟨_, rfl⟩
        rw [← eo'] at x ⊢
        obtain ⟨r', er'⟩ : ∃ z : pR, z = P (p + 1) := ⟨_, rfl⟩
        rw [← er'] at x ⊢
        obtain ⟨p', r2', c', v'⟩ := r'
        cases r2' with
        | true =>
          obtain ⟨x1, x2⟩ := x.1 rfl
          have x1 : o'.1 = v' N := x1
          exact ⟨fun _ => ⟨by show pwk (pnx T n p) o.1 o'.1 = pwk (pnx T n p) (v N) (v' N); rw [w1, x1], x2⟩, fun z => (by cases z)⟩
        | false => exact ⟨fun z => (by cases z), fun _ => x.2 rfl⟩
      · rw [if_neg q, if_neg q]
        exact ⟨fun _ => ⟨w1, w2⟩, fun z => (by cases z)⟩
    | false =>
      have w1 := w.2 rfl
      show mG T N n k (if false = true then _ else _) _
      rw [if_neg Bool.false_ne_true, if_neg (mF.nlt w1)]
      exact ⟨fun z => (by cases z), fun _ => w1⟩
  · have w1 := hop.2.1 g L p h
    unfold gMo
    rw [if_neg w1.nlt]
    exact w1
  · unfold gMo
    by_cases c1 : ((op g L).2 0 15).toInt < 0
    · rw [if_pos c1]
      by_cases c2 : pS s (sX12_byteAt (op g L).2 L).toInt = true
      · rw [if_pos c2]; exact ((hop.2.2 g L).tr (madK _)).tr (hop.2.2 _ _)
      · rw [if_neg c2]; exact hop.2.2 g L
    · rw [if_neg c1]; exact hop.2.2 g L
/-! an operand -/
theorem mtk {T N : Nat → Int32} {n a : Nat} {k : Int} {g : sg_F} (h : mS T N n a k g) (L : sg_L) : (pnx T n a = 41 ∧ sX12_takes_41 g L = (1, mad g)) ∨ (pnx T n a ≠ 41 ∧ sX12_takes_41 g L = (0, g)) := by
  unfold sX12_takes_41; (repeat first | rw [spl_d] | rw [spl2_d])
  rw [if_pos h.lt]
  have e := mbS h L 41 (by decide)
  by_cases c : (sX12_byteAt g L).toInt = 41
  · rw [if_pos c]; exact Or.inl ⟨e.mp c, rfl⟩
  · rw [if_neg c]; exact Or.inr ⟨fun z => c (e.mpr z), rfl⟩
theorem mtkF {n p : Nat} {g : sg_F} (h : mF n p g) (L : sg_L) : sX12_takes_41 g L = (0, g) := by
  unfold sX12_takes_41; (repeat first | rw [spl_d] | rw [spl2_d])
  rw [if_neg h.nlt]
theorem mtkK (g : sg_F) (L : sg_L) : mK g (sX12_takes_41 g L).2 := by
  unfold sX12_takes_41; (repeat first | rw [spl_d] | rw [spl2_d])
  by_cases c : (g 0 15).toInt < 0
  · rw [if_pos c]
    by_cases d : (sX12_byteAt g L).toInt = 41
    · rw [if_pos d]; exact madK g
    · rw [if_neg d]; exact mK.rf
  · rw [if_neg c]; exact mK.rf
theorem mnam (x : Int32) (f : sg_F) (L : sg_L) : ((x.toInt = 100 ∨ x.toInt = 117 ∨ x.toInt = 115 ∨ x.toInt = 119 ∨ x.toInt = 104 ∨ x.toInt = 107) ∧ (sX12_nameOf x f L).toNatClampNeg = pni x.toInt ∧ ¬ (sX12_nameOf x f L).toInt < 0 ∧ pni x.toInt < 6) ∨ (¬ (x.toInt = 100 ∨ x.toInt = 117 ∨ x.toInt = 115 ∨ x.toInt = 119 ∨ x.toInt = 104 ∨ x.toInt = 107) ∧ (sX12_nameOf x f L).toInt < 0) := by
  by_cases h : x.toInt = 100 ∨ x.toInt = 117 ∨ x.toInt = 115 ∨ x.toInt = 119 ∨ x.toInt = 104 ∨ x.toInt = 107
  · refine Or.inl ⟨h, ?_⟩
    rcases h with h | h | h | h | h | h
    · obtain rfl : x = 100 := Int32.toInt_inj.mp (h.trans (by decide)); exact ⟨rfl, by show ¬ (0 : Int32).toInt < 0; decide, by decide⟩
    · obtain rfl : x = 117 := Int32.toInt_inj.mp (h.trans (by decide)); exact ⟨rfl, by show ¬ (1 : Int32).toInt < 0; decide, by decide⟩
    · obtain rfl : x = 115 := Int32.toInt_inj.mp (h.trans (by decide)); exact ⟨rfl, by show ¬ (2 : Int32).toInt < 0; decide, by decide⟩
    · obtain rfl : x = 119 := Int32.toInt_inj.mp (h.trans (by decide)); exact ⟨rfl, by show ¬ (3 : Int32).toInt < 0; decide, by decide⟩
    · obtain rfl : x = 104 := Int32.toInt_inj.mp (h.trans (by decide)); exact ⟨rfl, by show ¬ (4 : Int32).toInt < 0; decide, by decide⟩
    · obtain rfl : x = 107 := Int32.toInt_inj.mp (h.trans (by decide)); exact ⟨rfl, by show ¬ (5 : Int32).toInt < 0; decide, by decide⟩
  · refine Or.inr ⟨h, ?_⟩
    unfold sX12_nameOf
    rw [if_neg (show ¬ x.toInt = 100 from by omega), if_neg (show ¬ x.toInt = 104 from by omega), if_neg (show ¬ x.toInt = 107 from by omega), if_neg (show ¬ x.toInt = 115 from by omega), if_neg (show ¬ x.toInt = 117 from by omega), if_neg (show ¬ x.toInt = 119 from by omega)]
    by_cases c101 : x.toInt = 101
    · rw [if_pos c101]; decide
    rw [if_neg c101]
    by_cases c102 : x.toInt = 102
    · rw [if_pos c102]; decide
    rw [if_neg c102]
    by_cases c103 : x.toInt = 103
    · rw [if_pos c103]; decide
    rw [if_neg c103]
    by_cases c105 : x.toInt = 105
    · rw [if_pos c105]; decide
    rw [if_neg c105]
    by_cases c106 : x.toInt = 106
    · rw [if_pos c106]; decide
    rw [if_neg c106]
    by_cases c108 : x.toInt = 108
    · rw [if_pos c108]; decide
    rw [if_neg c108]
    by_cases c109 : x.toInt = 109
    · rw [if_pos c109]; decide
    rw [if_neg c109]
    by_cases c110 : x.toInt = 110
    · rw [if_pos c110]; decide
    rw [if_neg c110]
    by_cases c111 : x.toInt = 111
    · rw [if_pos c111]; decide
    rw [if_neg c111]
    by_cases c112 : x.toInt = 112
    · rw [if_pos c112]; decide
    rw [if_neg c112]
    by_cases c113 : x.toInt = 113
    · rw [if_pos c113]; decide
    rw [if_neg c113]
    by_cases c114 : x.toInt = 114
    · rw [if_pos c114]; decide
    rw [if_neg c114]
    by_cases c116 : x.toInt = 116
    · rw [if_pos c116]; decide
    rw [if_neg c116]
    by_cases c118 : x.toInt = 118
    · rw [if_pos c118]; decide
    rw [if_neg c118]
    decide
theorem mdig_K (L : sg_L) : ∀ (m : Nat) (v i : Int32) (g : sg_F), mK g (sX12_one_0_l176 m v i g L).2 := by
  intro m
  induction m with
  | zero => intro v i g; exact mK.rf
  | succ m ih =>
    intro v i g
    have b : mK g (sX12_one_0_b229 v i g L).2 := by
      unfold sX12_one_0_b229; (repeat first | rw [spl_d] | rw [spl2_d])
      by_cases c : i.toInt = 0
      · rw [if_pos c]; exact mwrK g L
      · rw [if_neg c]; exact mK.rf
    show mK g (sX12_one_0_h176 (sX12_one_0_l176 m) v i g L).2
    unfold sX12_one_0_h176; (repeat first | rw [spl_d] | rw [spl2_d])
    by_cases c1 : i.toInt < 4
    · rw [if_pos c1]
      by_cases c2 : (sX12_byteAt g L).toInt < 48
      · rw [if_pos c2]; exact b
      rw [if_neg c2]
      by_cases c3 : 57 < (sX12_byteAt g L).toInt
      · rw [if_pos c3]; exact b
      · rw [if_neg c3]; exact (madK g).tr (ih _ _ _)
    · rw [if_neg c1]; exact b
theorem mdig_S {T N : Nat → Int32} {n : Nat} {k : Int} (L : sg_L) : ∀ (m q : Nat) (v i : Int32) (g : sg_F) (a : Nat), mS T N n a k g → i.toInt = 4 - (q : Int) → q ≤ 4 → q < m → (i.toInt ≠ 0 ∨ (48 ≤ pnx T n a ∧ pnx T n a ≤ 57) → (sX12_one_0_l176 m v i g L).1 = (pDig T n q a v).2 ∧ mS T N n (pDig T n q a v).1 k (sX12_one_0_l176 m v i g L).2) ∧ (i.toInt = 0 → ¬ (48 ≤ pnx T n a ∧ pnx T n a ≤ 57) → mF n a (sX12_one_0_l176 m v i g L).2) := by
  intro m
  induction m with
  | zero => intro q v i g a h hi hq hm; exact absurd hm (by omega)
  | succ m ih =>
    intro q v i g a h hi hq hm
    have k0 : (0 : Int32).toInt = 0 := by decide
    have b1 : i.toInt ≠ 0 → (sX12_one_0_b229 v i g L) = (v, g) := by
      intro z
      unfold sX12_one_0_b229; (repeat first | rw [spl_d] | rw [spl2_d])
      rw [if_neg z]
    have b2 : i.toInt = 0 → mF n a (sX12_one_0_b229 v i g L).2 := by
      intro z
      unfold sX12_one_0_b229; (repeat first | rw [spl_d] | rw [spl2_d])
      rw [if_pos z]; exact mwr h L
    have e9 : sX12_one_0_l176 (m + 1) v i g L = sX12_one_0_h176 (sX12_one_0_l176 m) v i g L := rfl
    rw [e9]
    unfold sX12_one_0_h176; (repeat first | rw [spl_d] | rw [spl2_d])
    cases q with
    | zero =>
      rw [if_neg (show ¬ i.toInt < 4 from by omega)]
      exact ⟨fun _ => by rw [b1 (by omega)]; exact ⟨rfl, h⟩, fun z => absurd z (by omega)⟩
    | succ q =>
      rw [if_pos (show i.toInt < 4 from by omega)]
      unfold pDig
      have hb := mby h L
      by_cases c : 48 ≤ pnx T n a ∧ pnx T n a ≤ 57
      · rcases hb with ⟨g1, g2, g3⟩ | ⟨-, -, g3⟩
        case inr => exact absurd c (by omega)
        have k1 : (1 : Int32).toInt = 1 := by decide
        have ei : (i + 1).toInt = i.toInt + 1 := (bn_addI (by omega) (by omega)).trans (by omega)
        rw [g2, if_neg (show ¬ (T a).toInt < 48 from by omega), if_neg (show ¬ 57 < (T a).toInt from by omega), if_pos c, Int32.mul_comm 10 v]
        have w := ih q (v * 10 + T a - 48) (i + 1) (mad g) (a + 1) (madv h g1 h.i1) (by omega) (by omega) (by omega)
        exact ⟨fun _ => w.1 (Or.inl (by omega)), fun _ z => absurd c z⟩
      · have e : (if (sX12_byteAt g L).toInt < 48 then sX12_one_0_b229 v i g L else if 57 < (sX12_byteAt g L).toInt then sX12_one_0_b229 v i g L else sX12_one_0_l176 m (10 * v + sX12_byteAt g L - 48) (i + 1) (mad g) L) = sX12_one_0_b229 v i g L := by
          by_cases c1 : (sX12_byteAt g L).toInt < 48
          · rw [if_pos c1]
          rw [if_neg c1]
          by_cases c2 : 57 < (sX12_byteAt g L).toInt
          · rw [if_pos c2]
          · exfalso
            rcases hb with ⟨-, g2, g3⟩ | ⟨-, g2, g3⟩
            · rw [g2] at c1 c2; omega
            · rw [g2] at c1 c2; omega
        rw [e, if_neg c]
        refine ⟨fun z => ?_, fun z _ => b2 z⟩
        rcases z with z | z
        · rw [b1 z]; exact ⟨rfl, h⟩
        · exact absurd z c
abbrev mop (kk : Int32) (g : sg_F) : sg_F := sg_up (sg_up g 0 (sgu (g 0) 16 kk)) 0 (sgu (sg_up g 0 (sgu (g 0) 16 kk) 0) 13 (g 0 13 + 1))
theorem mopK (kk : Int32) (g : sg_F) : mK g (mop kk g) := (mK.put (Or.inr (Or.inr rfl))).tr (mK.put (Or.inl rfl))
theorem mopS {T N : Nat → Int32} {n a : Nat} {k k1 : Int} {g : sg_F} {kk : Int32} (h : mS T N n a k g) (c : a < n) (e : kk.toInt = k1) : mS T N n (a + 1) k1 (mop kk g) := madv (h.put e) c h.i1
noncomputable def gMcl (res : Int32 → Int32) (o : Int32 × sg_F) (t : Int32 × sg_F) (L : sg_L) : Int32 × sg_F := if t.1 = 1 then (o.1, sg_up t.2 0 (sgu (t.2 0) 16 (res (o.2 0 16)))) else (0, (sX12_wrong t.2 L).2)
noncomputable def gMun (z : Bool) (res : Int32 → Int32) (o : Int32 × sg_F) : Int32 × sg_F := (if z = true then (if o.1.toInt = 0 then 1 else 0) else -o.1, sg_up o.2 0 (sgu (o.2 0) 16 (res (o.2 0 16))))
noncomputable def gMone (kk : Int32) (res : Int32 → Int32) (E O : sg_F → sg_L → Int32 × sg_F) (g : sg_F) (L : sg_L) : Int32 × sg_F :=
  if (g 0 15).toInt < 0 then (
    if (sX12_byteAt g L).toInt = 33 then gMun true res (O (mop kk g) L) else
    if (sX12_byteAt g L).toInt = 45 then gMun false res (O (mop kk g) L) else
    if (sX12_byteAt g L).toInt = 40 then gMcl res (E (mop kk g) L) (sX12_takes_41 (E (mop kk g) L).2 L) L else
    if (sX12_nameOf (sX12_byteAt g L) g L).toInt < 0 then sX12_one_0_l176 5 0 0 g L else (mad g 8 (sX12_nameOf (sX12_byteAt g L) g L).toNatClampNeg, mad g)) else (0, g)
/-- what is read where nothing opens -/
theorem mone_N {T N : Nat → Int32} {n a : Nat} {k : Int} {g : sg_F} {o : Bool} {PE PO : Nat → pR} (h : mS T N n a k g) (L : sg_L) (hn : ¬ (o = true ∧ (pnx T n a = 40 ∨ pnx T n a = 33 ∨ pnx T n a = 45))) : mG T N n k (pOpd o PE PO T n a) (if (sX12_nameOf (sX12_byteAt g L) g L).toInt < 0 then sX12_one_0_l176 5 0 0 g L else (mad g 8 (sX12_nameOf (sX12_byteAt g L) g L).toNatClampNeg, mad g)) := by
  have k0 : (0 : Int32).toInt = 0 := by decide
  have D := mdig_S L 5 4 0 0 g a h (by decide) (Nat.le_refl _) (by omega)
  have hb := mby h L
  unfold pOpd
  by_cases c1 : 48 ≤ pnx T n a ∧ pnx T n a ≤ 57
  · rw [if_pos c1]
    rcases mnam (sX12_byteAt g L) g L with ⟨m1, -⟩ | ⟨-, m2⟩
    · exfalso
      rcases hb with ⟨-, g2, g3⟩ | ⟨-, g2, g3⟩
      · rw [g2] at m1; omega
      · omega
    · rw [if_pos m2]
      have d := D.1 (Or.inr c1)
      exact ⟨fun _ => ⟨d.1, d.2⟩, fun z => (by cases z)⟩
  rw [if_neg c1]
  by_cases c2 : pnx T n a = 100 ∨ pnx T n a = 117 ∨ pnx T n a = 115 ∨ pnx T n a = 119 ∨ pnx T n a = 104 ∨ pnx T n a = 107
  · rw [if_pos c2]
    rcases hb with ⟨g1, g2, g3⟩ | ⟨-, -, g3⟩
    case inr => exact absurd c2 (by omega)
    rcases mnam (sX12_byteAt g L) g L with ⟨m1, m2, m3, m4⟩ | ⟨m1, -⟩
    · rw [if_neg m3, m2]
      rw [g2, ← g3] at m4 ⊢
      refine mG.ok ?_ (madv h g1 h.i1)
      rw [madK g 8 _ (Or.inl (by decide))]
      exact h.2.2.2.2.2.1 _ m4
    · exact absurd (by rw [g2, ← g3]; exact c2) m1
  rw [if_neg c2, if_neg (fun z => hn ⟨z.1, Or.inl z.2⟩), if_neg (fun z => hn ⟨z.1, Or.inr (Or.inl z.2)⟩), if_neg (fun z => hn ⟨z.1, Or.inr (Or.inr z.2)⟩)]
  rcases mnam (sX12_byteAt g L) g L with ⟨m1, -⟩ | ⟨-, m2⟩
  · exfalso
    rcases hb with ⟨-, g2, g3⟩ | ⟨-, g2, g3⟩
    · rw [g2, ← g3] at m1; exact c2 m1
    · rw [g2] at m1; omega
  · rw [if_pos m2]
    exact ⟨fun z => (by cases z), fun _ => D.2 k0 c1⟩
theorem gMone_O {T N : Nat → Int32} {n : Nat} {k k1 : Int} {kk : Int32} {res : Int32 → Int32} {E O : sg_F → sg_L → Int32 × sg_F} {PE PO : Nat → pR} (hE : mO T N n k1 E PE) (hO : mO T N n k1 O PO) (hk : kk.toInt = k1) (hr : ∀ x : Int32, x.toInt = k1 → (res x).toInt = k) : mO T N n k (gMone kk res E O) (pOpd true PE PO T n) := by
  have k0 : (0 : Int32).toInt = 0 := by decide
  refine ⟨fun g L a h => ?_, fun g L p h => ?_, fun g L => ?_⟩
  · unfold gMone
    rw [if_pos h.lt]
    have b33 := mbS h L 33 (by decide)
    have b45 := mbS h L 45 (by decide)
    have b40 := mbS h L 40 (by decide)
    have un : ∀ (z : Bool) (c : List Int32), (pnx T n a ≠ -1) → mG T N n k ((PO (a + 1)).1, (PO (a + 1)).2.1, c, fun N => if z = true then (if ((PO (a + 1)).2.2.2 N).toInt = 0 then 1 else 0) else -((PO (a + 1)).2.2.2 N)) (gMun z res (O (mop kk g) L)) := by
      intro z c hc
      have g1 := (pnx_lt hc).1
      have w := hO.1 (mop kk g) L (a + 1) (mopS h g1 hk)
      obtain ⟨o, eo⟩ : ∃ z : Int32 × sg_F, z = O (mop kk g) L := ⟨_, rfl⟩
      rw [← eo] at w ⊢
      obtain ⟨r, er⟩ : ∃ z : pR, z = PO (a + 1) := ⟨_, rfl⟩
      rw [← er] at w ⊢
      obtain ⟨p, r2, s, v⟩ := r
      unfold gMun
      cases r2 with
      | true =>
        obtain ⟨w1, w2⟩ := w.1 rfl
        have w1 : o.1 = v N := w1
        have w2 : mS T N n p k1 o.2 := w2
        exact mG.ok (by rw [w1]) (w2.put (hr _ w2.2.2.2.1))
      | false => exact mG.bad (mF.put (w.2 rfl))
    by_cases c1 : (sX12_byteAt g L).toInt = 33
    · rw [if_pos c1]
      have e := b33.mp c1
      have u := un true ((PO (a + 1)).2.2.1 ++ [33]) (by omega)
      unfold pOpd
      rw [if_neg (by omega), if_neg (by omega), if_neg (fun z => by have := z.2; omega), if_pos ⟨rfl, e⟩]
      exact u
    rw [if_neg c1]
    by_cases c2 : (sX12_byteAt g L).toInt = 45
    · rw [if_pos c2]
      have e := b45.mp c2
      have u := un false ((PO (a + 1)).2.2.1 ++ [126]) (by omega)
      unfold pOpd
      rw [if_neg (by omega), if_neg (by omega), if_neg (fun z => by have := z.2; omega), if_neg (fun z => by have := z.2; omega), if_pos ⟨rfl, e⟩]
      exact u
    rw [if_neg c2]
    by_cases c3 : (sX12_byteAt g L).toInt = 40
    · rw [if_pos c3]
      have e := b40.mp c3
      have g1 := (pnx_lt (T := T) (n := n) (a := a) (by omega)).1
      unfold pOpd gMcl
      rw [if_neg (by omega), if_neg (by omega), if_pos ⟨rfl, e⟩]
      have w := hE.1 (mop kk g) L (a + 1) (mopS h g1 hk)
      obtain ⟨o, eo⟩ : ∃ z : Int32 × sg_F, z = E (mop kk g) L := ⟨_, rfl⟩
      rw [← eo] at w ⊢
      obtain ⟨r, er⟩ : ∃ z : pR, z = PE (a + 1) := ⟨_, rfl⟩
      rw [← er] at w ⊢
      obtain ⟨p, r2, s, v⟩ := r
      cases r2 with
      | true =>
        obtain ⟨w1, w2⟩ := w.1 rfl
        have w1 : o.1 = v N := w1
        have w2 : mS T N n p k1 o.2 := w2
        show mG T N n k (if true = true then (if pnx T n p = 41 then (p + 1, true, s, v) else pbad p) else pbad p) _
        rw [if_pos rfl]
        rcases mtk w2 L with ⟨t1, t2⟩ | ⟨t1, t2⟩
        · have g2 := (pnx_lt (T := T) (n := n) (a := p) (by omega)).1
          rw [if_pos t1, t2, if_pos rfl]
          exact mG.ok w1 ((madv w2 g2 w2.i1).put (hr _ w2.2.2.2.1))
        · rw [if_neg t1, t2, if_neg zk0]
          exact mG.bad (mwr w2 L)
      | false =>
        have w1 := w.2 rfl
        show mG T N n k (if false = true then _ else pbad p) _
        rw [if_neg Bool.false_ne_true, mtkF w1 L, if_neg zk0]
        exact mG.bad (mwrF w1 L)
    rw [if_neg c3]
    exact mone_N h L (fun z => by
      rcases z.2 with q | q | q
      · exact c3 (b40.mpr q)
      · exact c1 (b33.mpr q)
      · exact c2 (b45.mpr q))
  · unfold gMone
    rw [if_neg h.nlt]; exact h
  · unfold gMone
    by_cases c : (g 0 15).toInt < 0
    case neg => rw [if_neg c]; exact mK.rf
    rw [if_pos c]
    have un : ∀ z : Bool, mK g (gMun z res (O (mop kk g) L)).2 := fun z => ((mopK kk g).tr (hO.2.2 _ L)).tr (mK.put (Or.inr (Or.inr rfl)))
    by_cases c1 : (sX12_byteAt g L).toInt = 33
    · rw [if_pos c1]; exact un true
    rw [if_neg c1]
    by_cases c2 : (sX12_byteAt g L).toInt = 45
    · rw [if_pos c2]; exact un false
    rw [if_neg c2]
    by_cases c3 : (sX12_byteAt g L).toInt = 40
    · rw [if_pos c3]
      have w := ((mopK kk g).tr (hE.2.2 _ L)).tr (mtkK (E (mop kk g) L).2 L)
      unfold gMcl
      by_cases c4 : (sX12_takes_41 (E (mop kk g) L).2 L).1 = 1
      · rw [if_pos c4]; exact w.tr (mK.put (Or.inr (Or.inr rfl)))
      · rw [if_neg c4]; exact w.tr (mwrK _ L)
    rw [if_neg c3]
    by_cases c4 : (sX12_nameOf (sX12_byteAt g L) g L).toInt < 0
    · rw [if_pos c4]; exact mdig_K L _ _ _ _
    · rw [if_neg c4]; exact madK g
/-- nothing opens at the sixth level -/
noncomputable def gMone6 (g : sg_F) (L : sg_L) : Int32 × sg_F :=
  if (g 0 15).toInt < 0 then (if (sX12_byteAt g L).toInt = 33 ∨ (sX12_byteAt g L).toInt = 45 ∨ (sX12_byteAt g L).toInt = 40 then (0, (sX12_wrong g L).2) else
    if (sX12_nameOf (sX12_byteAt g L) g L).toInt < 0 then sX12_one_0_l176 5 0 0 g L else (mad g 8 (sX12_nameOf (sX12_byteAt g L) g L).toNatClampNeg, mad g)) else (0, g)
theorem gMone6_O {T N : Nat → Int32} {n : Nat} {k : Int} : mO T N n k gMone6 (pOpd false pbad pbad T n) := by
  refine ⟨fun g L a h => ?_, fun g L p h => ?_, fun g L => ?_⟩
  · unfold gMone6
    rw [if_pos h.lt]
    have b33 := mbS h L 33 (by decide)
    have b45 := mbS h L 45 (by decide)
    have b40 := mbS h L 40 (by decide)
    by_cases c : (sX12_byteAt g L).toInt = 33 ∨ (sX12_byteAt g L).toInt = 45 ∨ (sX12_byteAt g L).toInt = 40
    · rw [if_pos c]
      have q : pnx T n a = 33 ∨ pnx T n a = 45 ∨ pnx T n a = 40 := by
        rcases c with c | c | c
        · exact Or.inl (b33.mp c)
        · exact Or.inr (Or.inl (b45.mp c))
        · exact Or.inr (Or.inr (b40.mp c))
      unfold pOpd
      rw [if_neg (by omega), if_neg (by omega), if_neg (fun z => absurd z.1 Bool.false_ne_true), if_neg (fun z => absurd z.1 Bool.false_ne_true), if_neg (fun z => absurd z.1 Bool.false_ne_true)]
      exact mG.bad (mwr h L)
    · rw [if_neg c]
      exact mone_N h L (fun z => absurd z.1 Bool.false_ne_true)
  · unfold gMone6
    rw [if_neg h.nlt]; exact h
  · unfold gMone6
    by_cases c : (g 0 15).toInt < 0
    case neg => rw [if_neg c]; exact mK.rf
    rw [if_pos c]
    by_cases c1 : (sX12_byteAt g L).toInt = 33 ∨ (sX12_byteAt g L).toInt = 45 ∨ (sX12_byteAt g L).toInt = 40
    · rw [if_pos c1]; exact mwrK g L
    rw [if_neg c1]
    by_cases c4 : (sX12_nameOf (sX12_byteAt g L) g L).toInt < 0
    · rw [if_pos c4]; exact mdig_K L _ _ _ _
    · rw [if_neg c4]; exact madK g
/-! each level of the reference's reading is so -/
theorem gm_sX12_product_0_l : ∀ (m : Nat) (v : Int32) (g : sg_F) (L : sg_L), sX12_product_0_l10 m v (sX12_byteAt g L) g L = gMl 0 sX12_one_0 m v g L := by
  intro m
  induction m with
  | zero => intro v g L; rfl
  | succ m ih =>
    intro v g L
    show sX12_product_0_h10 (sX12_product_0_l10 m) v (sX12_byteAt g L) g L = gMh 0 sX12_one_0 (gMl 0 sX12_one_0 m) v g L
    unfold sX12_product_0_h10 gMh; (repeat first | rw [spl_d] | rw [spl2_d])
    by_cases c : (g 0 15).toInt < 0
    case neg => rw [if_neg c, if_neg c]
    rw [if_pos c, if_pos c]
    by_cases c42 : (sX12_byteAt g L).toInt = 42
    · rw [if_pos c42, if_pos (pS_0 (by omega)), ih]
      unfold pwk
      rw [if_pos c42]
    rw [if_neg c42]
    by_cases c47 : (sX12_byteAt g L).toInt = 47
    · rw [if_pos c47, if_pos (pS_0 (by omega)), ih, ih]
      unfold pwk
      rw [if_neg c42, if_pos c47]
      by_cases d : (sX12_one_0 (mad g) L).1.toInt = 0
      · rw [if_pos d, if_pos d]
      · rw [if_neg d, if_neg d]
    rw [if_neg c47]
    by_cases c37 : (sX12_byteAt g L).toInt = 37
    · rw [if_pos c37, if_pos (pS_0 (by omega)), ih, ih]
      unfold pwk
      rw [if_neg c42, if_neg c47, if_pos c37]
      by_cases d : (sX12_one_0 (mad g) L).1.toInt = 0
      · rw [if_pos d, if_pos d]
      · rw [if_neg d, if_neg d]
    rw [if_neg c37, if_neg (pS_0n (by omega))]
theorem gm_sX12_product_0 : sX12_product_0 = gMc 0 sX12_one_0 := by
  funext g L
  unfold sX12_product_0 gMc; (repeat first | rw [spl_d] | rw [spl2_d])
  exact gm_sX12_product_0_l _ _ _ _
theorem gm_sX12_sums_0_l : ∀ (m : Nat) (v : Int32) (g : sg_F) (L : sg_L), sX12_sums_0_l5 m v g L = gMl 1 sX12_product_0 m v g L := by
  intro m
  induction m with
  | zero => intro v g L; rfl
  | succ m ih =>
    intro v g L
    show sX12_sums_0_h5 (sX12_sums_0_l5 m) v g L = gMh 1 sX12_product_0 (gMl 1 sX12_product_0 m) v g L
    unfold sX12_sums_0_h5 gMh; (repeat first | rw [spl_d] | rw [spl2_d])
    by_cases c : (g 0 15).toInt < 0
    case neg => rw [if_neg c, if_neg c]
    rw [if_pos c, if_pos c]
    by_cases c43 : (sX12_byteAt g L).toInt = 43
    · rw [if_pos c43, if_pos (pS_1 (by omega)), ih]
      unfold pwk
      rw [if_neg (by omega), if_neg (by omega), if_neg (by omega), if_pos c43]
    rw [if_neg c43]
    by_cases c45 : (sX12_byteAt g L).toInt = 45
    · rw [if_pos c45, if_pos (pS_1 (by omega)), ih]
      unfold pwk
      rw [if_neg (by omega), if_neg (by omega), if_neg (by omega), if_neg c43, if_pos c45]
    rw [if_neg c45, if_neg (pS_1n (by omega))]
theorem gm_sX12_sums_0 : sX12_sums_0 = gMc 1 sX12_product_0 := by
  funext g L
  unfold sX12_sums_0 gMc; (repeat first | rw [spl_d] | rw [spl2_d])
  exact gm_sX12_sums_0_l _ _ _ _
theorem gm_sX12_compared_0 : sX12_compared_0 = gMo 2 sX12_sums_0 := by
  funext g L
  unfold sX12_compared_0 gMo; (repeat first | rw [spl_d] | rw [spl2_d])
  by_cases c : ((sX12_sums_0 g L).2 0 15).toInt < 0
  case neg => rw [if_neg c, if_neg c]
  rw [if_pos c, if_pos c]
  by_cases c60 : (sX12_byteAt (sX12_sums_0 g L).2 L).toInt = 60
  · rw [if_pos c60, if_pos (pS_2 (by omega))]
    rw [pwk_60 c60]
    by_cases d : (sX12_sums_0 g L).1.toInt < (sX12_sums_0 (mad (sX12_sums_0 g L).2) L).1.toInt
    · rw [if_pos d, if_pos d]
    · rw [if_neg d, if_neg d]
  rw [if_neg c60]
  by_cases c61 : (sX12_byteAt (sX12_sums_0 g L).2 L).toInt = 61
  · rw [if_pos c61, if_pos (pS_2 (by omega))]
    rw [pwk_61 c61]
    by_cases d : (sX12_sums_0 g L).1.toInt = (sX12_sums_0 (mad (sX12_sums_0 g L).2) L).1.toInt
    · rw [if_pos d, if_pos d]
    · rw [if_neg d, if_neg d]
  rw [if_neg c61]
  by_cases c62 : (sX12_byteAt (sX12_sums_0 g L).2 L).toInt = 62
  · rw [if_pos c62, if_pos (pS_2 (by omega))]
    rw [pwk_62 c62]
    by_cases d : (sX12_sums_0 (mad (sX12_sums_0 g L).2) L).1.toInt < (sX12_sums_0 g L).1.toInt
    · rw [if_pos d, if_pos d]
    · rw [if_neg d, if_neg d]
  rw [if_neg c62]
  rw [if_neg (pS_2n (by omega))]
theorem gm_sX12_both_0_l : ∀ (m : Nat) (v : Int32) (g : sg_F) (L : sg_L), sX12_both_0_l5 m v g L = gMl 3 sX12_compared_0 m v g L := by
  intro m
  induction m with
  | zero => intro v g L; rfl
  | succ m ih =>
    intro v g L
    show sX12_both_0_h5 (sX12_both_0_l5 m) v g L = gMh 3 sX12_compared_0 (gMl 3 sX12_compared_0 m) v g L
    unfold sX12_both_0_h5 sX12_takes_38 gMh; (repeat first | rw [spl_d] | rw [spl2_d])
    by_cases c : (g 0 15).toInt < 0
    case neg => rw [if_neg c, if_neg c, if_neg zk0]
    rw [if_pos c, if_pos c]
    by_cases s : (sX12_byteAt g L).toInt = 38
    case neg => rw [if_neg s, if_neg (pS_3n s), if_neg zk0]
    rw [if_pos s, if_pos (pS_3 s), if_pos rfl, ih, ih, pwk_38 s]
    by_cases d : v.toInt = 0
    · rw [if_pos d, if_pos d]
    · rw [if_neg d, if_neg d]
      by_cases d2 : (sX12_compared_0 (mad g) L).1.toInt = 0
      · rw [if_pos d2, if_pos d2]
      · rw [if_neg d2, if_neg d2]
theorem gm_sX12_both_0 : sX12_both_0 = gMc 3 sX12_compared_0 := by
  funext g L
  unfold sX12_both_0 gMc; (repeat first | rw [spl_d] | rw [spl2_d])
  exact gm_sX12_both_0_l _ _ _ _
theorem gm_sX12_either_0_l : ∀ (m : Nat) (v : Int32) (g : sg_F) (L : sg_L), sX12_either_0_l5 m v g L = gMl 4 sX12_both_0 m v g L := by
  intro m
  induction m with
  | zero => intro v g L; rfl
  | succ m ih =>
    intro v g L
    show sX12_either_0_h5 (sX12_either_0_l5 m) v g L = gMh 4 sX12_both_0 (gMl 4 sX12_both_0 m) v g L
    unfold sX12_either_0_h5 sX12_takes_124 gMh; (repeat first | rw [spl_d] | rw [spl2_d])
    by_cases c : (g 0 15).toInt < 0
    case neg => rw [if_neg c, if_neg c, if_neg zk0]
    rw [if_pos c, if_pos c]
    by_cases s : (sX12_byteAt g L).toInt = 124
    case neg => rw [if_neg s, if_neg (pS_4n s), if_neg zk0]
    rw [if_pos s, if_pos (pS_4 s), if_pos rfl, ih, ih, pwk_124 s]
    by_cases d : v.toInt = 0
    · rw [if_pos d, if_pos d]
      by_cases d2 : (sX12_both_0 (mad g) L).1.toInt = 0
      · rw [if_pos d2, if_pos d2]
      · rw [if_neg d2, if_neg d2]
    · rw [if_neg d, if_neg d]
theorem gm_sX12_either_0 : sX12_either_0 = gMc 4 sX12_both_0 := by
  funext g L
  unfold sX12_either_0 gMc; (repeat first | rw [spl_d] | rw [spl2_d])
  exact gm_sX12_either_0_l _ _ _ _
theorem gm_sX12_one_0 : sX12_one_0 = gMone 1 (fun x => x - 1) sX12_either_1 sX12_one_1 := by
  funext g L
  unfold sX12_one_0 gMone gMcl gMun; (repeat first | rw [spl_d] | rw [spl2_d])
  by_cases c : (g 0 15).toInt < 0
  case neg => rw [if_neg c, if_neg c]
  rw [if_pos c, if_pos c]
  by_cases c33 : (sX12_byteAt g L).toInt = 33
  · rw [if_pos c33, if_pos c33, if_pos rfl]
    by_cases d : (sX12_one_1 (mop 1 g) L).1.toInt = 0
    · rw [if_pos d, if_pos d]
    · rw [if_neg d, if_neg d]
  rw [if_neg c33, if_neg c33]
  by_cases c45 : (sX12_byteAt g L).toInt = 45
  · rw [if_pos c45, if_pos c45, if_neg Bool.false_ne_true]
  rw [if_neg c45, if_neg c45]
theorem gm_sX12_product_1_l : ∀ (m : Nat) (v : Int32) (g : sg_F) (L : sg_L), sX12_product_1_l10 m v (sX12_byteAt g L) g L = gMl 0 sX12_one_1 m v g L := by
  intro m
  induction m with
  | zero => intro v g L; rfl
  | succ m ih =>
    intro v g L
    show sX12_product_1_h10 (sX12_product_1_l10 m) v (sX12_byteAt g L) g L = gMh 0 sX12_one_1 (gMl 0 sX12_one_1 m) v g L
    unfold sX12_product_1_h10 gMh; (repeat first | rw [spl_d] | rw [spl2_d])
    by_cases c : (g 0 15).toInt < 0
    case neg => rw [if_neg c, if_neg c]
    rw [if_pos c, if_pos c]
    by_cases c42 : (sX12_byteAt g L).toInt = 42
    · rw [if_pos c42, if_pos (pS_0 (by omega)), ih]
      unfold pwk
      rw [if_pos c42]
    rw [if_neg c42]
    by_cases c47 : (sX12_byteAt g L).toInt = 47
    · rw [if_pos c47, if_pos (pS_0 (by omega)), ih, ih]
      unfold pwk
      rw [if_neg c42, if_pos c47]
      by_cases d : (sX12_one_1 (mad g) L).1.toInt = 0
      · rw [if_pos d, if_pos d]
      · rw [if_neg d, if_neg d]
    rw [if_neg c47]
    by_cases c37 : (sX12_byteAt g L).toInt = 37
    · rw [if_pos c37, if_pos (pS_0 (by omega)), ih, ih]
      unfold pwk
      rw [if_neg c42, if_neg c47, if_pos c37]
      by_cases d : (sX12_one_1 (mad g) L).1.toInt = 0
      · rw [if_pos d, if_pos d]
      · rw [if_neg d, if_neg d]
    rw [if_neg c37, if_neg (pS_0n (by omega))]
theorem gm_sX12_product_1 : sX12_product_1 = gMc 0 sX12_one_1 := by
  funext g L
  unfold sX12_product_1 gMc; (repeat first | rw [spl_d] | rw [spl2_d])
  exact gm_sX12_product_1_l _ _ _ _
theorem gm_sX12_sums_1_l : ∀ (m : Nat) (v : Int32) (g : sg_F) (L : sg_L), sX12_sums_1_l5 m v g L = gMl 1 sX12_product_1 m v g L := by
  intro m
  induction m with
  | zero => intro v g L; rfl
  | succ m ih =>
    intro v g L
    show sX12_sums_1_h5 (sX12_sums_1_l5 m) v g L = gMh 1 sX12_product_1 (gMl 1 sX12_product_1 m) v g L
    unfold sX12_sums_1_h5 gMh; (repeat first | rw [spl_d] | rw [spl2_d])
    by_cases c : (g 0 15).toInt < 0
    case neg => rw [if_neg c, if_neg c]
    rw [if_pos c, if_pos c]
    by_cases c43 : (sX12_byteAt g L).toInt = 43
    · rw [if_pos c43, if_pos (pS_1 (by omega)), ih]
      unfold pwk
      rw [if_neg (by omega), if_neg (by omega), if_neg (by omega), if_pos c43]
    rw [if_neg c43]
    by_cases c45 : (sX12_byteAt g L).toInt = 45
    · rw [if_pos c45, if_pos (pS_1 (by omega)), ih]
      unfold pwk
      rw [if_neg (by omega), if_neg (by omega), if_neg (by omega), if_neg c43, if_pos c45]
    rw [if_neg c45, if_neg (pS_1n (by omega))]
theorem gm_sX12_sums_1 : sX12_sums_1 = gMc 1 sX12_product_1 := by
  funext g L
  unfold sX12_sums_1 gMc; (repeat first | rw [spl_d] | rw [spl2_d])
  exact gm_sX12_sums_1_l _ _ _ _
theorem gm_sX12_compared_1 : sX12_compared_1 = gMo 2 sX12_sums_1 := by
  funext g L
  unfold sX12_compared_1 gMo; (repeat first | rw [spl_d] | rw [spl2_d])
  by_cases c : ((sX12_sums_1 g L).2 0 15).toInt < 0
  case neg => rw [if_neg c, if_neg c]
  rw [if_pos c, if_pos c]
  by_cases c60 : (sX12_byteAt (sX12_sums_1 g L).2 L).toInt = 60
  · rw [if_pos c60, if_pos (pS_2 (by omega))]
    rw [pwk_60 c60]
    by_cases d : (sX12_sums_1 g L).1.toInt < (sX12_sums_1 (mad (sX12_sums_1 g L).2) L).1.toInt
    · rw [if_pos d, if_pos d]
    · rw [if_neg d, if_neg d]
  rw [if_neg c60]
  by_cases c61 : (sX12_byteAt (sX12_sums_1 g L).2 L).toInt = 61
  · rw [if_pos c61, if_pos (pS_2 (by omega))]
    rw [pwk_61 c61]
    by_cases d : (sX12_sums_1 g L).1.toInt = (sX12_sums_1 (mad (sX12_sums_1 g L).2) L).1.toInt
    · rw [if_pos d, if_pos d]
    · rw [if_neg d, if_neg d]
  rw [if_neg c61]
  by_cases c62 : (sX12_byteAt (sX12_sums_1 g L).2 L).toInt = 62
  · rw [if_pos c62, if_pos (pS_2 (by omega))]
    rw [pwk_62 c62]
    by_cases d : (sX12_sums_1 (mad (sX12_sums_1 g L).2) L).1.toInt < (sX12_sums_1 g L).1.toInt
    · rw [if_pos d, if_pos d]
    · rw [if_neg d, if_neg d]
  rw [if_neg c62]
  rw [if_neg (pS_2n (by omega))]
theorem gm_sX12_both_1_l : ∀ (m : Nat) (v : Int32) (g : sg_F) (L : sg_L), sX12_both_1_l5 m v g L = gMl 3 sX12_compared_1 m v g L := by
  intro m
  induction m with
  | zero => intro v g L; rfl
  | succ m ih =>
    intro v g L
    show sX12_both_1_h5 (sX12_both_1_l5 m) v g L = gMh 3 sX12_compared_1 (gMl 3 sX12_compared_1 m) v g L
    unfold sX12_both_1_h5 sX12_takes_38 gMh; (repeat first | rw [spl_d] | rw [spl2_d])
    by_cases c : (g 0 15).toInt < 0
    case neg => rw [if_neg c, if_neg c, if_neg zk0]
    rw [if_pos c, if_pos c]
    by_cases s : (sX12_byteAt g L).toInt = 38
    case neg => rw [if_neg s, if_neg (pS_3n s), if_neg zk0]
    rw [if_pos s, if_pos (pS_3 s), if_pos rfl, ih, ih, pwk_38 s]
    by_cases d : v.toInt = 0
    · rw [if_pos d, if_pos d]
    · rw [if_neg d, if_neg d]
      by_cases d2 : (sX12_compared_1 (mad g) L).1.toInt = 0
      · rw [if_pos d2, if_pos d2]
      · rw [if_neg d2, if_neg d2]
theorem gm_sX12_both_1 : sX12_both_1 = gMc 3 sX12_compared_1 := by
  funext g L
  unfold sX12_both_1 gMc; (repeat first | rw [spl_d] | rw [spl2_d])
  exact gm_sX12_both_1_l _ _ _ _
theorem gm_sX12_either_1_l : ∀ (m : Nat) (v : Int32) (g : sg_F) (L : sg_L), sX12_either_1_l5 m v g L = gMl 4 sX12_both_1 m v g L := by
  intro m
  induction m with
  | zero => intro v g L; rfl
  | succ m ih =>
    intro v g L
    show sX12_either_1_h5 (sX12_either_1_l5 m) v g L = gMh 4 sX12_both_1 (gMl 4 sX12_both_1 m) v g L
    unfold sX12_either_1_h5 sX12_takes_124 gMh; (repeat first | rw [spl_d] | rw [spl2_d])
    by_cases c : (g 0 15).toInt < 0
    case neg => rw [if_neg c, if_neg c, if_neg zk0]
    rw [if_pos c, if_pos c]
    by_cases s : (sX12_byteAt g L).toInt = 124
    case neg => rw [if_neg s, if_neg (pS_4n s), if_neg zk0]
    rw [if_pos s, if_pos (pS_4 s), if_pos rfl, ih, ih, pwk_124 s]
    by_cases d : v.toInt = 0
    · rw [if_pos d, if_pos d]
      by_cases d2 : (sX12_both_1 (mad g) L).1.toInt = 0
      · rw [if_pos d2, if_pos d2]
      · rw [if_neg d2, if_neg d2]
    · rw [if_neg d, if_neg d]
theorem gm_sX12_either_1 : sX12_either_1 = gMc 4 sX12_both_1 := by
  funext g L
  unfold sX12_either_1 gMc; (repeat first | rw [spl_d] | rw [spl2_d])
  exact gm_sX12_either_1_l _ _ _ _
theorem gm_d1 : sX12_one_1_l176 = sX12_one_0_l176 := rfl
theorem gm_sX12_one_1 : sX12_one_1 = gMone 2 (fun x => x - 1) sX12_either_2 sX12_one_2 := by
  funext g L
  unfold sX12_one_1 gMone gMcl gMun; (repeat first | rw [spl_d] | rw [spl2_d])
  by_cases c : (g 0 15).toInt < 0
  case neg => rw [if_neg c, if_neg c]
  rw [if_pos c, if_pos c]
  by_cases c33 : (sX12_byteAt g L).toInt = 33
  · rw [if_pos c33, if_pos c33, if_pos rfl]
    by_cases d : (sX12_one_2 (mop 2 g) L).1.toInt = 0
    · rw [if_pos d, if_pos d]
    · rw [if_neg d, if_neg d]
  rw [if_neg c33, if_neg c33]
  by_cases c45 : (sX12_byteAt g L).toInt = 45
  · rw [if_pos c45, if_pos c45, if_neg Bool.false_ne_true]
  rw [if_neg c45, if_neg c45]
  rw [gm_d1]
theorem gm_sX12_product_2_l : ∀ (m : Nat) (v : Int32) (g : sg_F) (L : sg_L), sX12_product_2_l10 m v (sX12_byteAt g L) g L = gMl 0 sX12_one_2 m v g L := by
  intro m
  induction m with
  | zero => intro v g L; rfl
  | succ m ih =>
    intro v g L
    show sX12_product_2_h10 (sX12_product_2_l10 m) v (sX12_byteAt g L) g L = gMh 0 sX12_one_2 (gMl 0 sX12_one_2 m) v g L
    unfold sX12_product_2_h10 gMh; (repeat first | rw [spl_d] | rw [spl2_d])
    by_cases c : (g 0 15).toInt < 0
    case neg => rw [if_neg c, if_neg c]
    rw [if_pos c, if_pos c]
    by_cases c42 : (sX12_byteAt g L).toInt = 42
    · rw [if_pos c42, if_pos (pS_0 (by omega)), ih]
      unfold pwk
      rw [if_pos c42]
    rw [if_neg c42]
    by_cases c47 : (sX12_byteAt g L).toInt = 47
    · rw [if_pos c47, if_pos (pS_0 (by omega)), ih, ih]
      unfold pwk
      rw [if_neg c42, if_pos c47]
      by_cases d : (sX12_one_2 (mad g) L).1.toInt = 0
      · rw [if_pos d, if_pos d]
      · rw [if_neg d, if_neg d]
    rw [if_neg c47]
    by_cases c37 : (sX12_byteAt g L).toInt = 37
    · rw [if_pos c37, if_pos (pS_0 (by omega)), ih, ih]
      unfold pwk
      rw [if_neg c42, if_neg c47, if_pos c37]
      by_cases d : (sX12_one_2 (mad g) L).1.toInt = 0
      · rw [if_pos d, if_pos d]
      · rw [if_neg d, if_neg d]
    rw [if_neg c37, if_neg (pS_0n (by omega))]
theorem gm_sX12_product_2 : sX12_product_2 = gMc 0 sX12_one_2 := by
  funext g L
  unfold sX12_product_2 gMc; (repeat first | rw [spl_d] | rw [spl2_d])
  exact gm_sX12_product_2_l _ _ _ _
theorem gm_sX12_sums_2_l : ∀ (m : Nat) (v : Int32) (g : sg_F) (L : sg_L), sX12_sums_2_l5 m v g L = gMl 1 sX12_product_2 m v g L := by
  intro m
  induction m with
  | zero => intro v g L; rfl
  | succ m ih =>
    intro v g L
    show sX12_sums_2_h5 (sX12_sums_2_l5 m) v g L = gMh 1 sX12_product_2 (gMl 1 sX12_product_2 m) v g L
    unfold sX12_sums_2_h5 gMh; (repeat first | rw [spl_d] | rw [spl2_d])
    by_cases c : (g 0 15).toInt < 0
    case neg => rw [if_neg c, if_neg c]
    rw [if_pos c, if_pos c]
    by_cases c43 : (sX12_byteAt g L).toInt = 43
    · rw [if_pos c43, if_pos (pS_1 (by omega)), ih]
      unfold pwk
      rw [if_neg (by omega), if_neg (by omega), if_neg (by omega), if_pos c43]
    rw [if_neg c43]
    by_cases c45 : (sX12_byteAt g L).toInt = 45
    · rw [if_pos c45, if_pos (pS_1 (by omega)), ih]
      unfold pwk
      rw [if_neg (by omega), if_neg (by omega), if_neg (by omega), if_neg c43, if_pos c45]
    rw [if_neg c45, if_neg (pS_1n (by omega))]
theorem gm_sX12_sums_2 : sX12_sums_2 = gMc 1 sX12_product_2 := by
  funext g L
  unfold sX12_sums_2 gMc; (repeat first | rw [spl_d] | rw [spl2_d])
  exact gm_sX12_sums_2_l _ _ _ _
theorem gm_sX12_compared_2 : sX12_compared_2 = gMo 2 sX12_sums_2 := by
  funext g L
  unfold sX12_compared_2 gMo; (repeat first | rw [spl_d] | rw [spl2_d])
  by_cases c : ((sX12_sums_2 g L).2 0 15).toInt < 0
  case neg => rw [if_neg c, if_neg c]
  rw [if_pos c, if_pos c]
  by_cases c60 : (sX12_byteAt (sX12_sums_2 g L).2 L).toInt = 60
  · rw [if_pos c60, if_pos (pS_2 (by omega))]
    rw [pwk_60 c60]
    by_cases d : (sX12_sums_2 g L).1.toInt < (sX12_sums_2 (mad (sX12_sums_2 g L).2) L).1.toInt
    · rw [if_pos d, if_pos d]
    · rw [if_neg d, if_neg d]
  rw [if_neg c60]
  by_cases c61 : (sX12_byteAt (sX12_sums_2 g L).2 L).toInt = 61
  · rw [if_pos c61, if_pos (pS_2 (by omega))]
    rw [pwk_61 c61]
    by_cases d : (sX12_sums_2 g L).1.toInt = (sX12_sums_2 (mad (sX12_sums_2 g L).2) L).1.toInt
    · rw [if_pos d, if_pos d]
    · rw [if_neg d, if_neg d]
  rw [if_neg c61]
  by_cases c62 : (sX12_byteAt (sX12_sums_2 g L).2 L).toInt = 62
  · rw [if_pos c62, if_pos (pS_2 (by omega))]
    rw [pwk_62 c62]
    by_cases d : (sX12_sums_2 (mad (sX12_sums_2 g L).2) L).1.toInt < (sX12_sums_2 g L).1.toInt
    · rw [if_pos d, if_pos d]
    · rw [if_neg d, if_neg d]
  rw [if_neg c62]
  rw [if_neg (pS_2n (by omega))]
theorem gm_sX12_both_2_l : ∀ (m : Nat) (v : Int32) (g : sg_F) (L : sg_L), sX12_both_2_l5 m v g L = gMl 3 sX12_compared_2 m v g L := by
  intro m
  induction m with
  | zero => intro v g L; rfl
  | succ m ih =>
    intro v g L
    show sX12_both_2_h5 (sX12_both_2_l5 m) v g L = gMh 3 sX12_compared_2 (gMl 3 sX12_compared_2 m) v g L
    unfold sX12_both_2_h5 sX12_takes_38 gMh; (repeat first | rw [spl_d] | rw [spl2_d])
    by_cases c : (g 0 15).toInt < 0
    case neg => rw [if_neg c, if_neg c, if_neg zk0]
    rw [if_pos c, if_pos c]
    by_cases s : (sX12_byteAt g L).toInt = 38
    case neg => rw [if_neg s, if_neg (pS_3n s), if_neg zk0]
    rw [if_pos s, if_pos (pS_3 s), if_pos rfl, ih, ih, pwk_38 s]
    by_cases d : v.toInt = 0
    · rw [if_pos d, if_pos d]
    · rw [if_neg d, if_neg d]
      by_cases d2 : (sX12_compared_2 (mad g) L).1.toInt = 0
      · rw [if_pos d2, if_pos d2]
      · rw [if_neg d2, if_neg d2]
theorem gm_sX12_both_2 : sX12_both_2 = gMc 3 sX12_compared_2 := by
  funext g L
  unfold sX12_both_2 gMc; (repeat first | rw [spl_d] | rw [spl2_d])
  exact gm_sX12_both_2_l _ _ _ _
theorem gm_sX12_either_2_l : ∀ (m : Nat) (v : Int32) (g : sg_F) (L : sg_L), sX12_either_2_l5 m v g L = gMl 4 sX12_both_2 m v g L := by
  intro m
  induction m with
  | zero => intro v g L; rfl
  | succ m ih =>
    intro v g L
    show sX12_either_2_h5 (sX12_either_2_l5 m) v g L = gMh 4 sX12_both_2 (gMl 4 sX12_both_2 m) v g L
    unfold sX12_either_2_h5 sX12_takes_124 gMh; (repeat first | rw [spl_d] | rw [spl2_d])
    by_cases c : (g 0 15).toInt < 0
    case neg => rw [if_neg c, if_neg c, if_neg zk0]
    rw [if_pos c, if_pos c]
    by_cases s : (sX12_byteAt g L).toInt = 124
    case neg => rw [if_neg s, if_neg (pS_4n s), if_neg zk0]
    rw [if_pos s, if_pos (pS_4 s), if_pos rfl, ih, ih, pwk_124 s]
    by_cases d : v.toInt = 0
    · rw [if_pos d, if_pos d]
      by_cases d2 : (sX12_both_2 (mad g) L).1.toInt = 0
      · rw [if_pos d2, if_pos d2]
      · rw [if_neg d2, if_neg d2]
    · rw [if_neg d, if_neg d]
theorem gm_sX12_either_2 : sX12_either_2 = gMc 4 sX12_both_2 := by
  funext g L
  unfold sX12_either_2 gMc; (repeat first | rw [spl_d] | rw [spl2_d])
  exact gm_sX12_either_2_l _ _ _ _
theorem gm_d2 : sX12_one_2_l176 = sX12_one_0_l176 := rfl
theorem gm_sX12_one_2 : sX12_one_2 = gMone 3 (fun x => x - 1) sX12_either_3 sX12_one_3 := by
  funext g L
  unfold sX12_one_2 gMone gMcl gMun; (repeat first | rw [spl_d] | rw [spl2_d])
  by_cases c : (g 0 15).toInt < 0
  case neg => rw [if_neg c, if_neg c]
  rw [if_pos c, if_pos c]
  by_cases c33 : (sX12_byteAt g L).toInt = 33
  · rw [if_pos c33, if_pos c33, if_pos rfl]
    by_cases d : (sX12_one_3 (mop 3 g) L).1.toInt = 0
    · rw [if_pos d, if_pos d]
    · rw [if_neg d, if_neg d]
  rw [if_neg c33, if_neg c33]
  by_cases c45 : (sX12_byteAt g L).toInt = 45
  · rw [if_pos c45, if_pos c45, if_neg Bool.false_ne_true]
  rw [if_neg c45, if_neg c45]
  rw [gm_d2]
theorem gm_sX12_product_3_l : ∀ (m : Nat) (v : Int32) (g : sg_F) (L : sg_L), sX12_product_3_l10 m v (sX12_byteAt g L) g L = gMl 0 sX12_one_3 m v g L := by
  intro m
  induction m with
  | zero => intro v g L; rfl
  | succ m ih =>
    intro v g L
    show sX12_product_3_h10 (sX12_product_3_l10 m) v (sX12_byteAt g L) g L = gMh 0 sX12_one_3 (gMl 0 sX12_one_3 m) v g L
    unfold sX12_product_3_h10 gMh; (repeat first | rw [spl_d] | rw [spl2_d])
    by_cases c : (g 0 15).toInt < 0
    case neg => rw [if_neg c, if_neg c]
    rw [if_pos c, if_pos c]
    by_cases c42 : (sX12_byteAt g L).toInt = 42
    · rw [if_pos c42, if_pos (pS_0 (by omega)), ih]
      unfold pwk
      rw [if_pos c42]
    rw [if_neg c42]
    by_cases c47 : (sX12_byteAt g L).toInt = 47
    · rw [if_pos c47, if_pos (pS_0 (by omega)), ih, ih]
      unfold pwk
      rw [if_neg c42, if_pos c47]
      by_cases d : (sX12_one_3 (mad g) L).1.toInt = 0
      · rw [if_pos d, if_pos d]
      · rw [if_neg d, if_neg d]
    rw [if_neg c47]
    by_cases c37 : (sX12_byteAt g L).toInt = 37
    · rw [if_pos c37, if_pos (pS_0 (by omega)), ih, ih]
      unfold pwk
      rw [if_neg c42, if_neg c47, if_pos c37]
      by_cases d : (sX12_one_3 (mad g) L).1.toInt = 0
      · rw [if_pos d, if_pos d]
      · rw [if_neg d, if_neg d]
    rw [if_neg c37, if_neg (pS_0n (by omega))]
theorem gm_sX12_product_3 : sX12_product_3 = gMc 0 sX12_one_3 := by
  funext g L
  unfold sX12_product_3 gMc; (repeat first | rw [spl_d] | rw [spl2_d])
  exact gm_sX12_product_3_l _ _ _ _
theorem gm_sX12_sums_3_l : ∀ (m : Nat) (v : Int32) (g : sg_F) (L : sg_L), sX12_sums_3_l5 m v g L = gMl 1 sX12_product_3 m v g L := by
  intro m
  induction m with
  | zero => intro v g L; rfl
  | succ m ih =>
    intro v g L
    show sX12_sums_3_h5 (sX12_sums_3_l5 m) v g L = gMh 1 sX12_product_3 (gMl 1 sX12_product_3 m) v g L
    unfold sX12_sums_3_h5 gMh; (repeat first | rw [spl_d] | rw [spl2_d])
    by_cases c : (g 0 15).toInt < 0
    case neg => rw [if_neg c, if_neg c]
    rw [if_pos c, if_pos c]
    by_cases c43 : (sX12_byteAt g L).toInt = 43
    · rw [if_pos c43, if_pos (pS_1 (by omega)), ih]
      unfold pwk
      rw [if_neg (by omega), if_neg (by omega), if_neg (by omega), if_pos c43]
    rw [if_neg c43]
    by_cases c45 : (sX12_byteAt g L).toInt = 45
    · rw [if_pos c45, if_pos (pS_1 (by omega)), ih]
      unfold pwk
      rw [if_neg (by omega), if_neg (by omega), if_neg (by omega), if_neg c43, if_pos c45]
    rw [if_neg c45, if_neg (pS_1n (by omega))]
theorem gm_sX12_sums_3 : sX12_sums_3 = gMc 1 sX12_product_3 := by
  funext g L
  unfold sX12_sums_3 gMc; (repeat first | rw [spl_d] | rw [spl2_d])
  exact gm_sX12_sums_3_l _ _ _ _
theorem gm_sX12_compared_3 : sX12_compared_3 = gMo 2 sX12_sums_3 := by
  funext g L
  unfold sX12_compared_3 gMo; (repeat first | rw [spl_d] | rw [spl2_d])
  by_cases c : ((sX12_sums_3 g L).2 0 15).toInt < 0
  case neg => rw [if_neg c, if_neg c]
  rw [if_pos c, if_pos c]
  by_cases c60 : (sX12_byteAt (sX12_sums_3 g L).2 L).toInt = 60
  · rw [if_pos c60, if_pos (pS_2 (by omega))]
    rw [pwk_60 c60]
    by_cases d : (sX12_sums_3 g L).1.toInt < (sX12_sums_3 (mad (sX12_sums_3 g L).2) L).1.toInt
    · rw [if_pos d, if_pos d]
    · rw [if_neg d, if_neg d]
  rw [if_neg c60]
  by_cases c61 : (sX12_byteAt (sX12_sums_3 g L).2 L).toInt = 61
  · rw [if_pos c61, if_pos (pS_2 (by omega))]
    rw [pwk_61 c61]
    by_cases d : (sX12_sums_3 g L).1.toInt = (sX12_sums_3 (mad (sX12_sums_3 g L).2) L).1.toInt
    · rw [if_pos d, if_pos d]
    · rw [if_neg d, if_neg d]
  rw [if_neg c61]
  by_cases c62 : (sX12_byteAt (sX12_sums_3 g L).2 L).toInt = 62
  · rw [if_pos c62, if_pos (pS_2 (by omega))]
    rw [pwk_62 c62]
    by_cases d : (sX12_sums_3 (mad (sX12_sums_3 g L).2) L).1.toInt < (sX12_sums_3 g L).1.toInt
    · rw [if_pos d, if_pos d]
    · rw [if_neg d, if_neg d]
  rw [if_neg c62]
  rw [if_neg (pS_2n (by omega))]
theorem gm_sX12_both_3_l : ∀ (m : Nat) (v : Int32) (g : sg_F) (L : sg_L), sX12_both_3_l5 m v g L = gMl 3 sX12_compared_3 m v g L := by
  intro m
  induction m with
  | zero => intro v g L; rfl
  | succ m ih =>
    intro v g L
    show sX12_both_3_h5 (sX12_both_3_l5 m) v g L = gMh 3 sX12_compared_3 (gMl 3 sX12_compared_3 m) v g L
    unfold sX12_both_3_h5 sX12_takes_38 gMh; (repeat first | rw [spl_d] | rw [spl2_d])
    by_cases c : (g 0 15).toInt < 0
    case neg => rw [if_neg c, if_neg c, if_neg zk0]
    rw [if_pos c, if_pos c]
    by_cases s : (sX12_byteAt g L).toInt = 38
    case neg => rw [if_neg s, if_neg (pS_3n s), if_neg zk0]
    rw [if_pos s, if_pos (pS_3 s), if_pos rfl, ih, ih, pwk_38 s]
    by_cases d : v.toInt = 0
    · rw [if_pos d, if_pos d]
    · rw [if_neg d, if_neg d]
      by_cases d2 : (sX12_compared_3 (mad g) L).1.toInt = 0
      · rw [if_pos d2, if_pos d2]
      · rw [if_neg d2, if_neg d2]
theorem gm_sX12_both_3 : sX12_both_3 = gMc 3 sX12_compared_3 := by
  funext g L
  unfold sX12_both_3 gMc; (repeat first | rw [spl_d] | rw [spl2_d])
  exact gm_sX12_both_3_l _ _ _ _
theorem gm_sX12_either_3_l : ∀ (m : Nat) (v : Int32) (g : sg_F) (L : sg_L), sX12_either_3_l5 m v g L = gMl 4 sX12_both_3 m v g L := by
  intro m
  induction m with
  | zero => intro v g L; rfl
  | succ m ih =>
    intro v g L
    show sX12_either_3_h5 (sX12_either_3_l5 m) v g L = gMh 4 sX12_both_3 (gMl 4 sX12_both_3 m) v g L
    unfold sX12_either_3_h5 sX12_takes_124 gMh; (repeat first | rw [spl_d] | rw [spl2_d])
    by_cases c : (g 0 15).toInt < 0
    case neg => rw [if_neg c, if_neg c, if_neg zk0]
    rw [if_pos c, if_pos c]
    by_cases s : (sX12_byteAt g L).toInt = 124
    case neg => rw [if_neg s, if_neg (pS_4n s), if_neg zk0]
    rw [if_pos s, if_pos (pS_4 s), if_pos rfl, ih, ih, pwk_124 s]
    by_cases d : v.toInt = 0
    · rw [if_pos d, if_pos d]
      by_cases d2 : (sX12_both_3 (mad g) L).1.toInt = 0
      · rw [if_pos d2, if_pos d2]
      · rw [if_neg d2, if_neg d2]
    · rw [if_neg d, if_neg d]
theorem gm_sX12_either_3 : sX12_either_3 = gMc 4 sX12_both_3 := by
  funext g L
  unfold sX12_either_3 gMc; (repeat first | rw [spl_d] | rw [spl2_d])
  exact gm_sX12_either_3_l _ _ _ _
theorem gm_d3 : sX12_one_3_l176 = sX12_one_0_l176 := rfl
theorem gm_sX12_one_3 : sX12_one_3 = gMone 4 (fun x => x - 1) sX12_either_4 sX12_one_4 := by
  funext g L
  unfold sX12_one_3 gMone gMcl gMun; (repeat first | rw [spl_d] | rw [spl2_d])
  by_cases c : (g 0 15).toInt < 0
  case neg => rw [if_neg c, if_neg c]
  rw [if_pos c, if_pos c]
  by_cases c33 : (sX12_byteAt g L).toInt = 33
  · rw [if_pos c33, if_pos c33, if_pos rfl]
    by_cases d : (sX12_one_4 (mop 4 g) L).1.toInt = 0
    · rw [if_pos d, if_pos d]
    · rw [if_neg d, if_neg d]
  rw [if_neg c33, if_neg c33]
  by_cases c45 : (sX12_byteAt g L).toInt = 45
  · rw [if_pos c45, if_pos c45, if_neg Bool.false_ne_true]
  rw [if_neg c45, if_neg c45]
  rw [gm_d3]
theorem gm_sX12_product_4_l : ∀ (m : Nat) (v : Int32) (g : sg_F) (L : sg_L), sX12_product_4_l10 m v (sX12_byteAt g L) g L = gMl 0 sX12_one_4 m v g L := by
  intro m
  induction m with
  | zero => intro v g L; rfl
  | succ m ih =>
    intro v g L
    show sX12_product_4_h10 (sX12_product_4_l10 m) v (sX12_byteAt g L) g L = gMh 0 sX12_one_4 (gMl 0 sX12_one_4 m) v g L
    unfold sX12_product_4_h10 gMh; (repeat first | rw [spl_d] | rw [spl2_d])
    by_cases c : (g 0 15).toInt < 0
    case neg => rw [if_neg c, if_neg c]
    rw [if_pos c, if_pos c]
    by_cases c42 : (sX12_byteAt g L).toInt = 42
    · rw [if_pos c42, if_pos (pS_0 (by omega)), ih]
      unfold pwk
      rw [if_pos c42]
    rw [if_neg c42]
    by_cases c47 : (sX12_byteAt g L).toInt = 47
    · rw [if_pos c47, if_pos (pS_0 (by omega)), ih, ih]
      unfold pwk
      rw [if_neg c42, if_pos c47]
      by_cases d : (sX12_one_4 (mad g) L).1.toInt = 0
      · rw [if_pos d, if_pos d]
      · rw [if_neg d, if_neg d]
    rw [if_neg c47]
    by_cases c37 : (sX12_byteAt g L).toInt = 37
    · rw [if_pos c37, if_pos (pS_0 (by omega)), ih, ih]
      unfold pwk
      rw [if_neg c42, if_neg c47, if_pos c37]
      by_cases d : (sX12_one_4 (mad g) L).1.toInt = 0
      · rw [if_pos d, if_pos d]
      · rw [if_neg d, if_neg d]
    rw [if_neg c37, if_neg (pS_0n (by omega))]
theorem gm_sX12_product_4 : sX12_product_4 = gMc 0 sX12_one_4 := by
  funext g L
  unfold sX12_product_4 gMc; (repeat first | rw [spl_d] | rw [spl2_d])
  exact gm_sX12_product_4_l _ _ _ _
theorem gm_sX12_sums_4_l : ∀ (m : Nat) (v : Int32) (g : sg_F) (L : sg_L), sX12_sums_4_l5 m v g L = gMl 1 sX12_product_4 m v g L := by
  intro m
  induction m with
  | zero => intro v g L; rfl
  | succ m ih =>
    intro v g L
    show sX12_sums_4_h5 (sX12_sums_4_l5 m) v g L = gMh 1 sX12_product_4 (gMl 1 sX12_product_4 m) v g L
    unfold sX12_sums_4_h5 gMh; (repeat first | rw [spl_d] | rw [spl2_d])
    by_cases c : (g 0 15).toInt < 0
    case neg => rw [if_neg c, if_neg c]
    rw [if_pos c, if_pos c]
    by_cases c43 : (sX12_byteAt g L).toInt = 43
    · rw [if_pos c43, if_pos (pS_1 (by omega)), ih]
      unfold pwk
      rw [if_neg (by omega), if_neg (by omega), if_neg (by omega), if_pos c43]
    rw [if_neg c43]
    by_cases c45 : (sX12_byteAt g L).toInt = 45
    · rw [if_pos c45, if_pos (pS_1 (by omega)), ih]
      unfold pwk
      rw [if_neg (by omega), if_neg (by omega), if_neg (by omega), if_neg c43, if_pos c45]
    rw [if_neg c45, if_neg (pS_1n (by omega))]
theorem gm_sX12_sums_4 : sX12_sums_4 = gMc 1 sX12_product_4 := by
  funext g L
  unfold sX12_sums_4 gMc; (repeat first | rw [spl_d] | rw [spl2_d])
  exact gm_sX12_sums_4_l _ _ _ _
theorem gm_sX12_compared_4 : sX12_compared_4 = gMo 2 sX12_sums_4 := by
  funext g L
  unfold sX12_compared_4 gMo; (repeat first | rw [spl_d] | rw [spl2_d])
  by_cases c : ((sX12_sums_4 g L).2 0 15).toInt < 0
  case neg => rw [if_neg c, if_neg c]
  rw [if_pos c, if_pos c]
  by_cases c60 : (sX12_byteAt (sX12_sums_4 g L).2 L).toInt = 60
  · rw [if_pos c60, if_pos (pS_2 (by omega))]
    rw [pwk_60 c60]
    by_cases d : (sX12_sums_4 g L).1.toInt < (sX12_sums_4 (mad (sX12_sums_4 g L).2) L).1.toInt
    · rw [if_pos d, if_pos d]
    · rw [if_neg d, if_neg d]
  rw [if_neg c60]
  by_cases c61 : (sX12_byteAt (sX12_sums_4 g L).2 L).toInt = 61
  · rw [if_pos c61, if_pos (pS_2 (by omega))]
    rw [pwk_61 c61]
    by_cases d : (sX12_sums_4 g L).1.toInt = (sX12_sums_4 (mad (sX12_sums_4 g L).2) L).1.toInt
    · rw [if_pos d, if_pos d]
    · rw [if_neg d, if_neg d]
  rw [if_neg c61]
  by_cases c62 : (sX12_byteAt (sX12_sums_4 g L).2 L).toInt = 62
  · rw [if_pos c62, if_pos (pS_2 (by omega))]
    rw [pwk_62 c62]
    by_cases d : (sX12_sums_4 (mad (sX12_sums_4 g L).2) L).1.toInt < (sX12_sums_4 g L).1.toInt
    · rw [if_pos d, if_pos d]
    · rw [if_neg d, if_neg d]
  rw [if_neg c62]
  rw [if_neg (pS_2n (by omega))]
theorem gm_sX12_both_4_l : ∀ (m : Nat) (v : Int32) (g : sg_F) (L : sg_L), sX12_both_4_l5 m v g L = gMl 3 sX12_compared_4 m v g L := by
  intro m
  induction m with
  | zero => intro v g L; rfl
  | succ m ih =>
    intro v g L
    show sX12_both_4_h5 (sX12_both_4_l5 m) v g L = gMh 3 sX12_compared_4 (gMl 3 sX12_compared_4 m) v g L
    unfold sX12_both_4_h5 sX12_takes_38 gMh; (repeat first | rw [spl_d] | rw [spl2_d])
    by_cases c : (g 0 15).toInt < 0
    case neg => rw [if_neg c, if_neg c, if_neg zk0]
    rw [if_pos c, if_pos c]
    by_cases s : (sX12_byteAt g L).toInt = 38
    case neg => rw [if_neg s, if_neg (pS_3n s), if_neg zk0]
    rw [if_pos s, if_pos (pS_3 s), if_pos rfl, ih, ih, pwk_38 s]
    by_cases d : v.toInt = 0
    · rw [if_pos d, if_pos d]
    · rw [if_neg d, if_neg d]
      by_cases d2 : (sX12_compared_4 (mad g) L).1.toInt = 0
      · rw [if_pos d2, if_pos d2]
      · rw [if_neg d2, if_neg d2]
theorem gm_sX12_both_4 : sX12_both_4 = gMc 3 sX12_compared_4 := by
  funext g L
  unfold sX12_both_4 gMc; (repeat first | rw [spl_d] | rw [spl2_d])
  exact gm_sX12_both_4_l _ _ _ _
theorem gm_sX12_either_4_l : ∀ (m : Nat) (v : Int32) (g : sg_F) (L : sg_L), sX12_either_4_l5 m v g L = gMl 4 sX12_both_4 m v g L := by
  intro m
  induction m with
  | zero => intro v g L; rfl
  | succ m ih =>
    intro v g L
    show sX12_either_4_h5 (sX12_either_4_l5 m) v g L = gMh 4 sX12_both_4 (gMl 4 sX12_both_4 m) v g L
    unfold sX12_either_4_h5 sX12_takes_124 gMh; (repeat first | rw [spl_d] | rw [spl2_d])
    by_cases c : (g 0 15).toInt < 0
    case neg => rw [if_neg c, if_neg c, if_neg zk0]
    rw [if_pos c, if_pos c]
    by_cases s : (sX12_byteAt g L).toInt = 124
    case neg => rw [if_neg s, if_neg (pS_4n s), if_neg zk0]
    rw [if_pos s, if_pos (pS_4 s), if_pos rfl, ih, ih, pwk_124 s]
    by_cases d : v.toInt = 0
    · rw [if_pos d, if_pos d]
      by_cases d2 : (sX12_both_4 (mad g) L).1.toInt = 0
      · rw [if_pos d2, if_pos d2]
      · rw [if_neg d2, if_neg d2]
    · rw [if_neg d, if_neg d]
theorem gm_sX12_either_4 : sX12_either_4 = gMc 4 sX12_both_4 := by
  funext g L
  unfold sX12_either_4 gMc; (repeat first | rw [spl_d] | rw [spl2_d])
  exact gm_sX12_either_4_l _ _ _ _
theorem gm_d4 : sX12_one_4_l176 = sX12_one_0_l176 := rfl
theorem gm_sX12_one_4 : sX12_one_4 = gMone 5 (fun x => x - 1) sX12_either_5 sX12_one_5 := by
  funext g L
  unfold sX12_one_4 gMone gMcl gMun; (repeat first | rw [spl_d] | rw [spl2_d])
  by_cases c : (g 0 15).toInt < 0
  case neg => rw [if_neg c, if_neg c]
  rw [if_pos c, if_pos c]
  by_cases c33 : (sX12_byteAt g L).toInt = 33
  · rw [if_pos c33, if_pos c33, if_pos rfl]
    by_cases d : (sX12_one_5 (mop 5 g) L).1.toInt = 0
    · rw [if_pos d, if_pos d]
    · rw [if_neg d, if_neg d]
  rw [if_neg c33, if_neg c33]
  by_cases c45 : (sX12_byteAt g L).toInt = 45
  · rw [if_pos c45, if_pos c45, if_neg Bool.false_ne_true]
  rw [if_neg c45, if_neg c45]
  rw [gm_d4]
theorem gm_sX12_product_5_l : ∀ (m : Nat) (v : Int32) (g : sg_F) (L : sg_L), sX12_product_5_l10 m v (sX12_byteAt g L) g L = gMl 0 sX12_one_5 m v g L := by
  intro m
  induction m with
  | zero => intro v g L; rfl
  | succ m ih =>
    intro v g L
    show sX12_product_5_h10 (sX12_product_5_l10 m) v (sX12_byteAt g L) g L = gMh 0 sX12_one_5 (gMl 0 sX12_one_5 m) v g L
    unfold sX12_product_5_h10 gMh; (repeat first | rw [spl_d] | rw [spl2_d])
    by_cases c : (g 0 15).toInt < 0
    case neg => rw [if_neg c, if_neg c]
    rw [if_pos c, if_pos c]
    by_cases c42 : (sX12_byteAt g L).toInt = 42
    · rw [if_pos c42, if_pos (pS_0 (by omega)), ih]
      unfold pwk
      rw [if_pos c42]
    rw [if_neg c42]
    by_cases c47 : (sX12_byteAt g L).toInt = 47
    · rw [if_pos c47, if_pos (pS_0 (by omega)), ih, ih]
      unfold pwk
      rw [if_neg c42, if_pos c47]
      by_cases d : (sX12_one_5 (mad g) L).1.toInt = 0
      · rw [if_pos d, if_pos d]
      · rw [if_neg d, if_neg d]
    rw [if_neg c47]
    by_cases c37 : (sX12_byteAt g L).toInt = 37
    · rw [if_pos c37, if_pos (pS_0 (by omega)), ih, ih]
      unfold pwk
      rw [if_neg c42, if_neg c47, if_pos c37]
      by_cases d : (sX12_one_5 (mad g) L).1.toInt = 0
      · rw [if_pos d, if_pos d]
      · rw [if_neg d, if_neg d]
    rw [if_neg c37, if_neg (pS_0n (by omega))]
theorem gm_sX12_product_5 : sX12_product_5 = gMc 0 sX12_one_5 := by
  funext g L
  unfold sX12_product_5 gMc; (repeat first | rw [spl_d] | rw [spl2_d])
  exact gm_sX12_product_5_l _ _ _ _
theorem gm_sX12_sums_5_l : ∀ (m : Nat) (v : Int32) (g : sg_F) (L : sg_L), sX12_sums_5_l5 m v g L = gMl 1 sX12_product_5 m v g L := by
  intro m
  induction m with
  | zero => intro v g L; rfl
  | succ m ih =>
    intro v g L
    show sX12_sums_5_h5 (sX12_sums_5_l5 m) v g L = gMh 1 sX12_product_5 (gMl 1 sX12_product_5 m) v g L
    unfold sX12_sums_5_h5 gMh; (repeat first | rw [spl_d] | rw [spl2_d])
    by_cases c : (g 0 15).toInt < 0
    case neg => rw [if_neg c, if_neg c]
    rw [if_pos c, if_pos c]
    by_cases c43 : (sX12_byteAt g L).toInt = 43
    · rw [if_pos c43, if_pos (pS_1 (by omega)), ih]
      unfold pwk
      rw [if_neg (by omega), if_neg (by omega), if_neg (by omega), if_pos c43]
    rw [if_neg c43]
    by_cases c45 : (sX12_byteAt g L).toInt = 45
    · rw [if_pos c45, if_pos (pS_1 (by omega)), ih]
      unfold pwk
      rw [if_neg (by omega), if_neg (by omega), if_neg (by omega), if_neg c43, if_pos c45]
    rw [if_neg c45, if_neg (pS_1n (by omega))]
theorem gm_sX12_sums_5 : sX12_sums_5 = gMc 1 sX12_product_5 := by
  funext g L
  unfold sX12_sums_5 gMc; (repeat first | rw [spl_d] | rw [spl2_d])
  exact gm_sX12_sums_5_l _ _ _ _
theorem gm_sX12_compared_5 : sX12_compared_5 = gMo 2 sX12_sums_5 := by
  funext g L
  unfold sX12_compared_5 gMo; (repeat first | rw [spl_d] | rw [spl2_d])
  by_cases c : ((sX12_sums_5 g L).2 0 15).toInt < 0
  case neg => rw [if_neg c, if_neg c]
  rw [if_pos c, if_pos c]
  by_cases c60 : (sX12_byteAt (sX12_sums_5 g L).2 L).toInt = 60
  · rw [if_pos c60, if_pos (pS_2 (by omega))]
    rw [pwk_60 c60]
    by_cases d : (sX12_sums_5 g L).1.toInt < (sX12_sums_5 (mad (sX12_sums_5 g L).2) L).1.toInt
    · rw [if_pos d, if_pos d]
    · rw [if_neg d, if_neg d]
  rw [if_neg c60]
  by_cases c61 : (sX12_byteAt (sX12_sums_5 g L).2 L).toInt = 61
  · rw [if_pos c61, if_pos (pS_2 (by omega))]
    rw [pwk_61 c61]
    by_cases d : (sX12_sums_5 g L).1.toInt = (sX12_sums_5 (mad (sX12_sums_5 g L).2) L).1.toInt
    · rw [if_pos d, if_pos d]
    · rw [if_neg d, if_neg d]
  rw [if_neg c61]
  by_cases c62 : (sX12_byteAt (sX12_sums_5 g L).2 L).toInt = 62
  · rw [if_pos c62, if_pos (pS_2 (by omega))]
    rw [pwk_62 c62]
    by_cases d : (sX12_sums_5 (mad (sX12_sums_5 g L).2) L).1.toInt < (sX12_sums_5 g L).1.toInt
    · rw [if_pos d, if_pos d]
    · rw [if_neg d, if_neg d]
  rw [if_neg c62]
  rw [if_neg (pS_2n (by omega))]
theorem gm_sX12_both_5_l : ∀ (m : Nat) (v : Int32) (g : sg_F) (L : sg_L), sX12_both_5_l5 m v g L = gMl 3 sX12_compared_5 m v g L := by
  intro m
  induction m with
  | zero => intro v g L; rfl
  | succ m ih =>
    intro v g L
    show sX12_both_5_h5 (sX12_both_5_l5 m) v g L = gMh 3 sX12_compared_5 (gMl 3 sX12_compared_5 m) v g L
    unfold sX12_both_5_h5 sX12_takes_38 gMh; (repeat first | rw [spl_d] | rw [spl2_d])
    by_cases c : (g 0 15).toInt < 0
    case neg => rw [if_neg c, if_neg c, if_neg zk0]
    rw [if_pos c, if_pos c]
    by_cases s : (sX12_byteAt g L).toInt = 38
    case neg => rw [if_neg s, if_neg (pS_3n s), if_neg zk0]
    rw [if_pos s, if_pos (pS_3 s), if_pos rfl, ih, ih, pwk_38 s]
    by_cases d : v.toInt = 0
    · rw [if_pos d, if_pos d]
    · rw [if_neg d, if_neg d]
      by_cases d2 : (sX12_compared_5 (mad g) L).1.toInt = 0
      · rw [if_pos d2, if_pos d2]
      · rw [if_neg d2, if_neg d2]
theorem gm_sX12_both_5 : sX12_both_5 = gMc 3 sX12_compared_5 := by
  funext g L
  unfold sX12_both_5 gMc; (repeat first | rw [spl_d] | rw [spl2_d])
  exact gm_sX12_both_5_l _ _ _ _
theorem gm_sX12_either_5_l : ∀ (m : Nat) (v : Int32) (g : sg_F) (L : sg_L), sX12_either_5_l5 m v g L = gMl 4 sX12_both_5 m v g L := by
  intro m
  induction m with
  | zero => intro v g L; rfl
  | succ m ih =>
    intro v g L
    show sX12_either_5_h5 (sX12_either_5_l5 m) v g L = gMh 4 sX12_both_5 (gMl 4 sX12_both_5 m) v g L
    unfold sX12_either_5_h5 sX12_takes_124 gMh; (repeat first | rw [spl_d] | rw [spl2_d])
    by_cases c : (g 0 15).toInt < 0
    case neg => rw [if_neg c, if_neg c, if_neg zk0]
    rw [if_pos c, if_pos c]
    by_cases s : (sX12_byteAt g L).toInt = 124
    case neg => rw [if_neg s, if_neg (pS_4n s), if_neg zk0]
    rw [if_pos s, if_pos (pS_4 s), if_pos rfl, ih, ih, pwk_124 s]
    by_cases d : v.toInt = 0
    · rw [if_pos d, if_pos d]
      by_cases d2 : (sX12_both_5 (mad g) L).1.toInt = 0
      · rw [if_pos d2, if_pos d2]
      · rw [if_neg d2, if_neg d2]
    · rw [if_neg d, if_neg d]
theorem gm_sX12_either_5 : sX12_either_5 = gMc 4 sX12_both_5 := by
  funext g L
  unfold sX12_either_5 gMc; (repeat first | rw [spl_d] | rw [spl2_d])
  exact gm_sX12_either_5_l _ _ _ _
theorem gm_d5 : sX12_one_5_l176 = sX12_one_0_l176 := rfl
theorem gm_sX12_one_5 : sX12_one_5 = gMone 6 (fun _ => 5) sX12_either_6 sX12_one_6 := by
  funext g L
  unfold sX12_one_5 gMone gMcl gMun; (repeat first | rw [spl_d] | rw [spl2_d])
  by_cases c : (g 0 15).toInt < 0
  case neg => rw [if_neg c, if_neg c]
  rw [if_pos c, if_pos c]
  by_cases c33 : (sX12_byteAt g L).toInt = 33
  · rw [if_pos c33, if_pos c33, if_pos rfl]
    by_cases d : (sX12_one_6 (mop 6 g) L).1.toInt = 0
    · rw [if_pos d, if_pos d]
    · rw [if_neg d, if_neg d]
  rw [if_neg c33, if_neg c33]
  by_cases c45 : (sX12_byteAt g L).toInt = 45
  · rw [if_pos c45, if_pos c45, if_neg Bool.false_ne_true]
  rw [if_neg c45, if_neg c45]
  rw [gm_d5]
theorem gm_sX12_product_6_l : ∀ (m : Nat) (v : Int32) (g : sg_F) (L : sg_L), sX12_product_6_l10 m v (sX12_byteAt g L) g L = gMl 0 sX12_one_6 m v g L := by
  intro m
  induction m with
  | zero => intro v g L; rfl
  | succ m ih =>
    intro v g L
    show sX12_product_6_h10 (sX12_product_6_l10 m) v (sX12_byteAt g L) g L = gMh 0 sX12_one_6 (gMl 0 sX12_one_6 m) v g L
    unfold sX12_product_6_h10 gMh; (repeat first | rw [spl_d] | rw [spl2_d])
    by_cases c : (g 0 15).toInt < 0
    case neg => rw [if_neg c, if_neg c]
    rw [if_pos c, if_pos c]
    by_cases c42 : (sX12_byteAt g L).toInt = 42
    · rw [if_pos c42, if_pos (pS_0 (by omega)), ih]
      unfold pwk
      rw [if_pos c42]
    rw [if_neg c42]
    by_cases c47 : (sX12_byteAt g L).toInt = 47
    · rw [if_pos c47, if_pos (pS_0 (by omega)), ih, ih]
      unfold pwk
      rw [if_neg c42, if_pos c47]
      by_cases d : (sX12_one_6 (mad g) L).1.toInt = 0
      · rw [if_pos d, if_pos d]
      · rw [if_neg d, if_neg d]
    rw [if_neg c47]
    by_cases c37 : (sX12_byteAt g L).toInt = 37
    · rw [if_pos c37, if_pos (pS_0 (by omega)), ih, ih]
      unfold pwk
      rw [if_neg c42, if_neg c47, if_pos c37]
      by_cases d : (sX12_one_6 (mad g) L).1.toInt = 0
      · rw [if_pos d, if_pos d]
      · rw [if_neg d, if_neg d]
    rw [if_neg c37, if_neg (pS_0n (by omega))]
theorem gm_sX12_product_6 : sX12_product_6 = gMc 0 sX12_one_6 := by
  funext g L
  unfold sX12_product_6 gMc; (repeat first | rw [spl_d] | rw [spl2_d])
  exact gm_sX12_product_6_l _ _ _ _
theorem gm_sX12_sums_6_l : ∀ (m : Nat) (v : Int32) (g : sg_F) (L : sg_L), sX12_sums_6_l5 m v g L = gMl 1 sX12_product_6 m v g L := by
  intro m
  induction m with
  | zero => intro v g L; rfl
  | succ m ih =>
    intro v g L
    show sX12_sums_6_h5 (sX12_sums_6_l5 m) v g L = gMh 1 sX12_product_6 (gMl 1 sX12_product_6 m) v g L
    unfold sX12_sums_6_h5 gMh; (repeat first | rw [spl_d] | rw [spl2_d])
    by_cases c : (g 0 15).toInt < 0
    case neg => rw [if_neg c, if_neg c]
    rw [if_pos c, if_pos c]
    by_cases c43 : (sX12_byteAt g L).toInt = 43
    · rw [if_pos c43, if_pos (pS_1 (by omega)), ih]
      unfold pwk
      rw [if_neg (by omega), if_neg (by omega), if_neg (by omega), if_pos c43]
    rw [if_neg c43]
    by_cases c45 : (sX12_byteAt g L).toInt = 45
    · rw [if_pos c45, if_pos (pS_1 (by omega)), ih]
      unfold pwk
      rw [if_neg (by omega), if_neg (by omega), if_neg (by omega), if_neg c43, if_pos c45]
    rw [if_neg c45, if_neg (pS_1n (by omega))]
theorem gm_sX12_sums_6 : sX12_sums_6 = gMc 1 sX12_product_6 := by
  funext g L
  unfold sX12_sums_6 gMc; (repeat first | rw [spl_d] | rw [spl2_d])
  exact gm_sX12_sums_6_l _ _ _ _
theorem gm_sX12_compared_6 : sX12_compared_6 = gMo 2 sX12_sums_6 := by
  funext g L
  unfold sX12_compared_6 gMo; (repeat first | rw [spl_d] | rw [spl2_d])
  by_cases c : ((sX12_sums_6 g L).2 0 15).toInt < 0
  case neg => rw [if_neg c, if_neg c]
  rw [if_pos c, if_pos c]
  by_cases c60 : (sX12_byteAt (sX12_sums_6 g L).2 L).toInt = 60
  · rw [if_pos c60, if_pos (pS_2 (by omega))]
    rw [pwk_60 c60]
    by_cases d : (sX12_sums_6 g L).1.toInt < (sX12_sums_6 (mad (sX12_sums_6 g L).2) L).1.toInt
    · rw [if_pos d, if_pos d]
    · rw [if_neg d, if_neg d]
  rw [if_neg c60]
  by_cases c61 : (sX12_byteAt (sX12_sums_6 g L).2 L).toInt = 61
  · rw [if_pos c61, if_pos (pS_2 (by omega))]
    rw [pwk_61 c61]
    by_cases d : (sX12_sums_6 g L).1.toInt = (sX12_sums_6 (mad (sX12_sums_6 g L).2) L).1.toInt
    · rw [if_pos d, if_pos d]
    · rw [if_neg d, if_neg d]
  rw [if_neg c61]
  by_cases c62 : (sX12_byteAt (sX12_sums_6 g L).2 L).toInt = 62
  · rw [if_pos c62, if_pos (pS_2 (by omega))]
    rw [pwk_62 c62]
    by_cases d : (sX12_sums_6 (mad (sX12_sums_6 g L).2) L).1.toInt < (sX12_sums_6 g L).1.toInt
    · rw [if_pos d, if_pos d]
    · rw [if_neg d, if_neg d]
  rw [if_neg c62]
  rw [if_neg (pS_2n (by omega))]
theorem gm_sX12_both_6_l : ∀ (m : Nat) (v : Int32) (g : sg_F) (L : sg_L), sX12_both_6_l5 m v g L = gMl 3 sX12_compared_6 m v g L := by
  intro m
  induction m with
  | zero => intro v g L; rfl
  | succ m ih =>
    intro v g L
    show sX12_both_6_h5 (sX12_both_6_l5 m) v g L = gMh 3 sX12_compared_6 (gMl 3 sX12_compared_6 m) v g L
    unfold sX12_both_6_h5 sX12_takes_38 gMh; (repeat first | rw [spl_d] | rw [spl2_d])
    by_cases c : (g 0 15).toInt < 0
    case neg => rw [if_neg c, if_neg c, if_neg zk0]
    rw [if_pos c, if_pos c]
    by_cases s : (sX12_byteAt g L).toInt = 38
    case neg => rw [if_neg s, if_neg (pS_3n s), if_neg zk0]
    rw [if_pos s, if_pos (pS_3 s), if_pos rfl, ih, ih, pwk_38 s]
    by_cases d : v.toInt = 0
    · rw [if_pos d, if_pos d]
    · rw [if_neg d, if_neg d]
      by_cases d2 : (sX12_compared_6 (mad g) L).1.toInt = 0
      · rw [if_pos d2, if_pos d2]
      · rw [if_neg d2, if_neg d2]
theorem gm_sX12_both_6 : sX12_both_6 = gMc 3 sX12_compared_6 := by
  funext g L
  unfold sX12_both_6 gMc; (repeat first | rw [spl_d] | rw [spl2_d])
  exact gm_sX12_both_6_l _ _ _ _
theorem gm_sX12_either_6_l : ∀ (m : Nat) (v : Int32) (g : sg_F) (L : sg_L), sX12_either_6_l5 m v g L = gMl 4 sX12_both_6 m v g L := by
  intro m
  induction m with
  | zero => intro v g L; rfl
  | succ m ih =>
    intro v g L
    show sX12_either_6_h5 (sX12_either_6_l5 m) v g L = gMh 4 sX12_both_6 (gMl 4 sX12_both_6 m) v g L
    unfold sX12_either_6_h5 sX12_takes_124 gMh; (repeat first | rw [spl_d] | rw [spl2_d])
    by_cases c : (g 0 15).toInt < 0
    case neg => rw [if_neg c, if_neg c, if_neg zk0]
    rw [if_pos c, if_pos c]
    by_cases s : (sX12_byteAt g L).toInt = 124
    case neg => rw [if_neg s, if_neg (pS_4n s), if_neg zk0]
    rw [if_pos s, if_pos (pS_4 s), if_pos rfl, ih, ih, pwk_124 s]
    by_cases d : v.toInt = 0
    · rw [if_pos d, if_pos d]
      by_cases d2 : (sX12_both_6 (mad g) L).1.toInt = 0
      · rw [if_pos d2, if_pos d2]
      · rw [if_neg d2, if_neg d2]
    · rw [if_neg d, if_neg d]
theorem gm_sX12_either_6 : sX12_either_6 = gMc 4 sX12_both_6 := by
  funext g L
  unfold sX12_either_6 gMc; (repeat first | rw [spl_d] | rw [spl2_d])
  exact gm_sX12_either_6_l _ _ _ _
theorem gm_d6 : sX12_one_6_l176 = sX12_one_0_l176 := rfl
theorem gm_sX12_one_6 : sX12_one_6 = gMone6 := by
  funext g L
  unfold sX12_one_6 gMone6; (repeat first | rw [spl_d] | rw [spl2_d])
  by_cases c : (g 0 15).toInt < 0
  case neg => rw [if_neg c, if_neg c]
  rw [if_pos c, if_pos c]
  by_cases c33 : (sX12_byteAt g L).toInt = 33
  · rw [if_pos c33, if_pos (Or.inl c33)]
  rw [if_neg c33]
  by_cases c45 : (sX12_byteAt g L).toInt = 45
  · rw [if_pos c45, if_pos (Or.inr (Or.inl c45))]
  rw [if_neg c45]
  by_cases c40 : (sX12_byteAt g L).toInt = 40
  · rw [if_pos c40, if_pos (Or.inr (Or.inr c40))]
  rw [if_neg c40]
  rw [if_neg (show ¬ ((sX12_byteAt g L).toInt = 33 ∨ (sX12_byteAt g L).toInt = 45 ∨ (sX12_byteAt g L).toInt = 40) from by omega), gm_d6]
theorem mO_exp {T N : Nat → Int32} {n : Nat} {k : Int} {op : sg_F → sg_L → Int32 × sg_F} {P : Nat → pR} (h : mO T N n k op P) (g : ∀ a : Nat, pG n (P a) a) : mO T N n k (gMc 4 (gMc 3 (gMo 2 (gMc 1 (gMc 0 op))))) (pExp P T n) := gMc_O (gMc_O (gMo_O (gMc_O (gMc_O h g) (pChain_G g))) (pChain_G (pChain_G (pChain_G g)))) (pChain_G (pChain_G (pChain_G (pChain_G g))))
theorem mO_o6 {T N : Nat → Int32} {n : Nat} : mO T N n 6 sX12_one_6 (pO T n 0) := by
  rw [gm_sX12_one_6]
  exact gMone6_O
theorem mO_e6 {T N : Nat → Int32} {n : Nat} : mO T N n 6 sX12_either_6 (pExp (pO T n 0) T n) := by
  rw [gm_sX12_either_6, gm_sX12_both_6, gm_sX12_compared_6, gm_sX12_sums_6, gm_sX12_product_6]
  exact mO_exp mO_o6 (pO_G 0)
theorem mO_o5 {T N : Nat → Int32} {n : Nat} : mO T N n 5 sX12_one_5 (pO T n 1) := by
  rw [gm_sX12_one_5]
  exact gMone_O mO_e6 mO_o6 (by decide) (fun _ _ => by decide)
theorem mO_e5 {T N : Nat → Int32} {n : Nat} : mO T N n 5 sX12_either_5 (pExp (pO T n 1) T n) := by
  rw [gm_sX12_either_5, gm_sX12_both_5, gm_sX12_compared_5, gm_sX12_sums_5, gm_sX12_product_5]
  exact mO_exp mO_o5 (pO_G 1)
theorem mO_o4 {T N : Nat → Int32} {n : Nat} : mO T N n 4 sX12_one_4 (pO T n 2) := by
  rw [gm_sX12_one_4]
  exact gMone_O mO_e5 mO_o5 (by decide) (fun x hx => (bn_subI (by have k1 : (1 : Int32).toInt = 1 := (by decide); omega) (by have k1 : (1 : Int32).toInt = 1 := (by decide); omega)).trans (by have k1 : (1 : Int32).toInt = 1 := (by decide); omega))
theorem mO_e4 {T N : Nat → Int32} {n : Nat} : mO T N n 4 sX12_either_4 (pExp (pO T n 2) T n) := by
  rw [gm_sX12_either_4, gm_sX12_both_4, gm_sX12_compared_4, gm_sX12_sums_4, gm_sX12_product_4]
  exact mO_exp mO_o4 (pO_G 2)
theorem mO_o3 {T N : Nat → Int32} {n : Nat} : mO T N n 3 sX12_one_3 (pO T n 3) := by
  rw [gm_sX12_one_3]
  exact gMone_O mO_e4 mO_o4 (by decide) (fun x hx => (bn_subI (by have k1 : (1 : Int32).toInt = 1 := (by decide); omega) (by have k1 : (1 : Int32).toInt = 1 := (by decide); omega)).trans (by have k1 : (1 : Int32).toInt = 1 := (by decide); omega))
theorem mO_e3 {T N : Nat → Int32} {n : Nat} : mO T N n 3 sX12_either_3 (pExp (pO T n 3) T n) := by
  rw [gm_sX12_either_3, gm_sX12_both_3, gm_sX12_compared_3, gm_sX12_sums_3, gm_sX12_product_3]
  exact mO_exp mO_o3 (pO_G 3)
theorem mO_o2 {T N : Nat → Int32} {n : Nat} : mO T N n 2 sX12_one_2 (pO T n 4) := by
  rw [gm_sX12_one_2]
  exact gMone_O mO_e3 mO_o3 (by decide) (fun x hx => (bn_subI (by have k1 : (1 : Int32).toInt = 1 := (by decide); omega) (by have k1 : (1 : Int32).toInt = 1 := (by decide); omega)).trans (by have k1 : (1 : Int32).toInt = 1 := (by decide); omega))
theorem mO_e2 {T N : Nat → Int32} {n : Nat} : mO T N n 2 sX12_either_2 (pExp (pO T n 4) T n) := by
  rw [gm_sX12_either_2, gm_sX12_both_2, gm_sX12_compared_2, gm_sX12_sums_2, gm_sX12_product_2]
  exact mO_exp mO_o2 (pO_G 4)
theorem mO_o1 {T N : Nat → Int32} {n : Nat} : mO T N n 1 sX12_one_1 (pO T n 5) := by
  rw [gm_sX12_one_1]
  exact gMone_O mO_e2 mO_o2 (by decide) (fun x hx => (bn_subI (by have k1 : (1 : Int32).toInt = 1 := (by decide); omega) (by have k1 : (1 : Int32).toInt = 1 := (by decide); omega)).trans (by have k1 : (1 : Int32).toInt = 1 := (by decide); omega))
theorem mO_e1 {T N : Nat → Int32} {n : Nat} : mO T N n 1 sX12_either_1 (pExp (pO T n 5) T n) := by
  rw [gm_sX12_either_1, gm_sX12_both_1, gm_sX12_compared_1, gm_sX12_sums_1, gm_sX12_product_1]
  exact mO_exp mO_o1 (pO_G 5)
theorem mO_o0 {T N : Nat → Int32} {n : Nat} : mO T N n 0 sX12_one_0 (pO T n 6) := by
  rw [gm_sX12_one_0]
  exact gMone_O mO_e1 mO_o1 (by decide) (fun x hx => (bn_subI (by have k1 : (1 : Int32).toInt = 1 := (by decide); omega) (by have k1 : (1 : Int32).toInt = 1 := (by decide); omega)).trans (by have k1 : (1 : Int32).toInt = 1 := (by decide); omega))
theorem mO_e0 {T N : Nat → Int32} {n : Nat} : mO T N n 0 sX12_either_0 (pExp (pO T n 6) T n) := by
  rw [gm_sX12_either_0, gm_sX12_both_0, gm_sX12_compared_0, gm_sX12_sums_0, gm_sX12_product_0]
  exact mO_exp mO_o0 (pO_G 6)
/-! THE LAW: lines, the whole text -/
abbrev pL : Type := Nat × Bool × List Int32 × ((Nat → Int32) → Bool) × pV
noncomputable def pE (T : Nat → Int32) (n : Nat) : Nat → pR := pExp (pO T n 6) T n
theorem pE_G {T : Nat → Int32} {n : Nat} (a : Nat) : pG n (pE T n a) a := pExp_G (pO_G 6) a
theorem xO_E {T : Nat → Int32} {n : Nat} : xO T n sX5_either_0 (pE T n) := xO_e0
theorem mO_E {T N : Nat → Int32} {n : Nat} : mO T N n 0 sX12_either_0 (pE T n) := mO_e0
def pLn1 (r : pR) : pL := (r.1, r.2.1, r.2.2.1 ++ [59], fun _ => true, r.2.2.2)
def pLn2 (r w : pR) : pL := (w.1, w.2.1, r.2.2.1 ++ [63] ++ w.2.2.1 ++ [59], fun N => decide ((r.2.2.2 N).toInt ≠ 0), w.2.2.2)
noncomputable def pLine (T : Nat → Int32) (n a : Nat) : pL := if (pE T n a).2.1 = true ∧ pnx T n (pE T n a).1 = 63 then pLn2 (pE T n a) (pE T n ((pE T n a).1 + 1)) else pLn1 (pE T n a)
def pH (h : (Nat → Int32) → Bool) (l : pL) : (Nat → Int32) → Bool := fun N => h N || l.2.2.2.1 N
def pV1 (h : (Nat → Int32) → Bool) (g : pV) (l : pL) : pV := fun N => if h N = true then g N else if l.2.2.2.1 N = true then l.2.2.2.2 N else g N
noncomputable def pLs (T : Nat → Int32) (n : Nat) : Nat → Nat → ((Nat → Int32) → Bool) → pV → List Int32 → pR
  | 0, a, _, g, c => (a, true, c, g)
  | q + 1, a, h, g, c => if (pLine T n a).2.1 = true then (if pnx T n (pLine T n a).1 = 59 then pLs T n q ((pLine T n a).1 + 1) (pH h (pLine T n a)) (pV1 h g (pLine T n a)) (c ++ (pLine T n a).2.2.1) else if (pLine T n a).1 < n then pbad (pLine T n a).1 else ((pLine T n a).1, true, c ++ (pLine T n a).2.2.1, pV1 h g (pLine T n a))) else pbad (pLine T n a).1
/-- behind a line that ended at p -/
noncomputable def pT (T : Nat → Int32) (n q p : Nat) (h : (Nat → Int32) → Bool) (g : pV) (c : List Int32) : pR := if pnx T n p = 59 then pLs T n q (p + 1) h g c else if p < n then pbad p else (p, true, c, g)
theorem pLs_s {T : Nat → Int32} {n q a : Nat} {h : (Nat → Int32) → Bool} {g : pV} {c : List Int32} : pLs T n (q + 1) a h g c = if (pLine T n a).2.1 = true then pT T n q (pLine T n a).1 (pH h (pLine T n a)) (pV1 h g (pLine T n a)) (c ++ (pLine T n a).2.2.1) else pbad (pLine T n a).1 := rfl
theorem pLine_G {T : Nat → Int32} {n a : Nat} (h : (pLine T n a).2.1 = true) : a < (pLine T n a).1 ∧ (pLine T n a).1 ≤ n ∧ (pLine T n a).2.2.1.length + a ≤ (pLine T n a).1 + 1 := by
  unfold pLine at h ⊢
  have G := pE_G (T := T) (n := n) a
  have k : [(59 : Int32)].length = 1 := rfl
  have k2 : [(63 : Int32)].length = 1 := rfl
  by_cases c : (pE T n a).2.1 = true ∧ pnx T n (pE T n a).1 = 63
  · rw [if_pos c] at h ⊢
    obtain ⟨g1, g2, g3, -, -⟩ := G c.1
    obtain ⟨w1, w2, w3, -, -⟩ := pE_G (T := T) (n := n) ((pE T n a).1 + 1) h
    refine ⟨by show a < (pE T n ((pE T n a).1 + 1)).1; omega, w2, ?_⟩
    show ((pE T n a).2.2.1 ++ [63] ++ (pE T n ((pE T n a).1 + 1)).2.2.1 ++ [59]).length + a ≤ (pE T n ((pE T n a).1 + 1)).1 + 1
    rw [List.length_append, List.length_append, List.length_append]
    omega
  · rw [if_neg c] at h ⊢
    obtain ⟨g1, g2, g3, -, -⟩ := G h
    refine ⟨g1, g2, ?_⟩
    show ((pE T n a).2.2.1 ++ [59]).length + a ≤ (pE T n a).1 + 1
    rw [List.length_append]
    omega
/-! the class -/
/-- as xS, behind a line's last sign -/
def xE (T : Nat → Int32) (n a d : Nat) (f : sg_F) : Prop := (f 4 6).toInt = a ∧ (f 4 1).toInt = n ∧ (f 4 7).toInt = -1 ∧ (f 4 8).toInt = d ∧ (∀ i : Nat, i < n → f 5 i = T i) ∧ n ≤ 120 ∧ a ≤ n ∧ d ≤ a + 1
theorem xwrE {T : Nat → Int32} {n a d : Nat} {f : sg_F} (h : xS T n a d f) (s : Int32) (L : sg_L) : xE T n a (d + 1) (sX5_write s f L) ∧ xC (f 6) d [s] (sX5_write s f L) := by
  obtain ⟨h1, h2, h3, h4, h5, h6, h7, h8⟩ := h
  have k1 : (1 : Int32).toInt = 1 := by decide
  have e := bn_clI (x := f 4 8) (by omega)
  have e1 : (f 4 8 + 1).toInt = (f 4 8).toInt + 1 := (bn_addI (by omega) (by omega)).trans (by omega)
  unfold sX5_write; (repeat first | rw [spl_d] | rw [spl2_d])
  rw [if_pos (show (f 4 8).toInt < 121 from by omega), show (f 4 8).toNatClampNeg = d from by omega]
  refine ⟨⟨?_, ?_, ?_, ?_, fun i hi => ?_, h6, h7, by omega⟩, fun i hi => ?_, ?_, trivial⟩
  · rw [sg_up_s, sgu_n (show (6 : Nat) ≠ 8 by decide), sg_up_n (show (4 : Nat) ≠ 6 by decide)]; exact h1
  · rw [sg_up_s, sgu_n (show (1 : Nat) ≠ 8 by decide), sg_up_n (show (4 : Nat) ≠ 6 by decide)]; exact h2
  · rw [sg_up_s, sgu_n (show (7 : Nat) ≠ 8 by decide), sg_up_n (show (4 : Nat) ≠ 6 by decide)]; exact h3
  · rw [sg_up_s, sgu_s]; omega
  · rw [sg_up_n (show (5 : Nat) ≠ 4 by decide), sg_up_n (show (5 : Nat) ≠ 6 by decide)]; exact h5 i hi
  · rw [sg_up_n (show (6 : Nat) ≠ 4 by decide), sg_up_s, sgu_n (by omega)]
  · rw [sg_up_n (show (6 : Nat) ≠ 4 by decide), sg_up_s, sgu_s]
theorem xnextE {T : Nat → Int32} {n a d : Nat} {f : sg_F} (h : xE T n a d f) (L : sg_L) : (sX5_next f L).toInt = pnx T n a := by
  obtain ⟨h1, h2, h3, h4, h5, h6, h7, h8⟩ := h
  unfold sX5_next pnx; (repeat first | rw [spl_d] | rw [spl2_d])
  rw [if_pos (show (f 4 7).toInt < 0 from by omega)]
  by_cases c : a < n
  · have e := bn_clI (x := f 4 6) (by omega)
    rw [if_pos c, if_pos (show (f 4 6).toInt < (f 4 1).toInt from by omega), show (f 4 6).toNatClampNeg = a from by omega, h5 a c]
  · rw [if_neg c, if_neg (show ¬ (f 4 6).toInt < (f 4 1).toInt from by omega)]; decide
theorem xadvE {T : Nat → Int32} {n a d : Nat} {f : sg_F} (h : xE T n a d f) (c : a < n) : xS T n (a + 1) d (xad f) ∧ xad f 6 = f 6 := by
  obtain ⟨h1, h2, h3, h4, h5, h6, h7, h8⟩ := h
  have k1 : (1 : Int32).toInt = 1 := by decide
  have e1 : (f 4 6 + 1).toInt = (f 4 6).toInt + 1 := (bn_addI (by omega) (by omega)).trans (by omega)
  unfold xad
  refine ⟨⟨?_, ?_, ?_, ?_, fun i hi => ?_, h6, by omega, h8⟩, ?_⟩
  · rw [sg_up_s, sgu_s]; omega
  · rw [sg_up_s, sgu_n (show (1 : Nat) ≠ 6 by decide)]; exact h2
  · rw [sg_up_s, sgu_n (show (7 : Nat) ≠ 6 by decide)]; exact h3
  · rw [sg_up_s, sgu_n (show (8 : Nat) ≠ 6 by decide)]; exact h4
  · rw [sg_up_n (show (5 : Nat) ≠ 4 by decide)]; exact h5 i hi
  · exact sg_up_n (by decide)
theorem xfailE {T : Nat → Int32} {n a d : Nat} {f : sg_F} (h : xE T n a d f) (L : sg_L) : xF n a (sX5_fail f L) := by
  obtain ⟨h1, h2, h3, h4, h5, h6, h7, h8⟩ := h
  unfold sX5_fail; (repeat first | rw [spl_d] | rw [spl2_d])
  rw [if_pos (show (f 4 7).toInt < 0 from by omega)]
  refine ⟨?_, ?_, ?_⟩
  · rw [sg_up_s, sgu_n (show (6 : Nat) ≠ 7 by decide)]; exact h1
  · rw [sg_up_s, sgu_n (show (1 : Nat) ≠ 7 by decide)]; exact h2
  · rw [sg_up_s, sgu_s]; exact ⟨h1, by omega⟩
theorem xline_K (f : sg_F) (L : sg_L) : xK f (sX5_line f L) := by
  have E : ∀ (f : sg_F) (L : sg_L), xK f (sX5_either_0 f L) := (xO_E (T := fun _ => 0) (n := 0)).2.2
  unfold sX5_line sX5_line_b35; (repeat first | rw [spl_d] | rw [spl2_d])
  by_cases c : (sX5_next (sX5_either_0 f L) L).toInt = 63
  · rw [if_pos c]
    exact ((((E f L).tr (xadK _)).tr (xwrK _ _ L)).tr (E _ L)).tr (xwrK _ _ L)
  · rw [if_neg c]
    exact (E f L).tr (xwrK _ _ L)
theorem xline {T : Nat → Int32} {n a d : Nat} {f : sg_F} (h : xS T n a d f) (L : sg_L) : ((pLine T n a).2.1 = true → xE T n (pLine T n a).1 (d + (pLine T n a).2.2.1.length) (sX5_line f L) ∧ xC (f 6) d (pLine T n a).2.2.1 (sX5_line f L)) ∧ ((pLine T n a).2.1 = false → xF n (pLine T n a).1 (sX5_line f L)) := by
  have w := xO_E.1 f L a d h
  have G := pE_G (T := T) (n := n) a
  have hb := h.2.2.2.2.2
  unfold sX5_line sX5_line_b35 pLine; (repeat first | rw [spl_d] | rw [spl2_d])
  obtain ⟨f1, e1⟩ : ∃ z : sg_F, z = sX5_either_0 f L := ⟨_, rfl⟩
  rw [← e1] at w ⊢
  obtain ⟨r, er⟩ : ∃ z : pR, z = pE T n a := ⟨_, rfl⟩
  rw [← er] at w G ⊢
  obtain ⟨p, r2, s, v⟩ := r
  cases r2 with
  | true =>
    obtain ⟨w1, w2⟩ := w.1 rfl
    obtain ⟨g1, g2, g3, -, -⟩ := G rfl
    have w1 : xS T n p (d + s.length) f1 := w1
    have w2 : xC (f 6) d s f1 := w2
    have g3 : s.length + a ≤ p := g3
    rw [xnext w1 L]
    by_cases c : pnx T n p = 63
    · obtain ⟨k1, k2⟩ := pnx_lt (T := T) (n := n) (a := p) (by omega)
      rw [if_pos c, if_pos (show ((p, true, s, v) : pR).2.1 = true ∧ pnx T n ((p, true, s, v) : pR).1 = 63 from ⟨rfl, c⟩)]
      obtain ⟨u1, u2⟩ := xadv w1 k1
      obtain ⟨x1, x2⟩ := xwr u1 (by omega) 63 L
      rw [u2] at x2
      have y := xO_E.1 _ L (p + 1) _ x1
      have G2 := pE_G (T := T) (n := n) (p + 1)
      obtain ⟨f2, e2⟩ : ∃ z : sg_F, z = sX5_either_0 (sX5_write 63 (xad f1) L) L := ⟨_, rfl⟩
      rw [← e2] at y ⊢
      show ((pLn2 (p, true, s, v) (pE T n (p + 1))).2.1 = true → _) ∧ _
      obtain ⟨t, et⟩ : ∃ z : pR, z = pE T n (p + 1) := ⟨_, rfl⟩
      show ((pLn2 (p, true, s, v) (pE T n (p + 1))).2.1 = true → xE T n (pLn2 (p, true, s, v) (pE T n (p + 1))).1 (d + (pLn2 (p, true, s, v) (pE T n (p + 1))).2.2.1.length) (sX5_write 59 f2 L) ∧ xC (f 6) d (pLn2 (p, true, s, v) (pE T n (p + 1))).2.2.1 (sX5_write 59 f2 L)) ∧ ((pLn2 (p, true, s, v) (pE T n (p + 1))).2.1 = false → xF n (pLn2 (p, true, s, v) (pE T n (p + 1))).1 (sX5_write 59 f2 L))
      rw [← et] at y G2 ⊢
      obtain ⟨p2, t2, s2, v2⟩ := t
      cases t2 with
      | true =>
        obtain ⟨y1, y2⟩ := y.1 rfl
        have y1 : xS T n p2 (d + s.length + 1 + s2.length) f2 := y1
        obtain ⟨z1, z2⟩ := xwrE y1 59 L
        have q1 := w2.app rfl x2
        have q2 := q1.app (by rw [List.length_append]; show d + s.length + 1 = d + (s.length + 1); omega) y2
        have q3 := q2.app (by rw [List.length_append, List.length_append]; show d + s.length + 1 + s2.length = d + (s.length + 1 + s2.length); omega) z2
        refine ⟨fun _ => ⟨?_, q3⟩, fun z => (by cases z)⟩
        have e : d + s.length + 1 + s2.length + 1 = d + (s ++ [63] ++ s2 ++ [59]).length := by
          rw [List.length_append, List.length_append, List.length_append]
          show d + s.length + 1 + s2.length + 1 = d + (s.length + 1 + s2.length + 1)
          omega
        show xE T n p2 (d + (s ++ [63] ++ s2 ++ [59]).length) _
        rw [← e]; exact z1
      | false => exact ⟨fun z => (by cases z), fun _ => xwrF (y.2 rfl) 59 L⟩
    · rw [if_neg c, if_neg (fun z => c z.2)]
      obtain ⟨z1, z2⟩ := xwrE w1 59 L
      refine ⟨fun _ => ⟨?_, w2.app rfl z2⟩, fun z => (by cases z)⟩
      have e : d + s.length + 1 = d + (s ++ [59]).length := by
        rw [List.length_append]
        show d + s.length + 1 = d + (s.length + 1)
        omega
      show xE T n p (d + (s ++ [59]).length) _
      rw [← e]; exact z1
  | false =>
    have w1 : xF n p f1 := w.2 rfl
    rw [xnextF w1 L, if_neg (show ¬ (-1 : Int) = 63 by decide), if_neg (show ¬ (((p, false, s, v) : pR).2.1 = true ∧ pnx T n ((p, false, s, v) : pR).1 = 63) from fun z => absurd z.1 Bool.false_ne_true)]
    exact ⟨fun z => (by cases z), fun _ => xwrF w1 59 L⟩
/-- how the text's reading ends -/
def xR (T : Nat → Int32) (n : Nat) (r : pR) (f : sg_F) : Prop := (r.2.1 = true → xE T n r.1 r.2.2.1.length f ∧ trL (f 6) 0 r.2.2.1) ∧ (r.2.1 = false → xF n r.1 f)
theorem xb41F {n p : Nat} {f : sg_F} (h : xF n p f) (L : sg_L) : xF n p (sX5_lines_b41 f L) := by
  unfold sX5_lines_b41; (repeat first | rw [spl_d] | rw [spl2_d])
  by_cases c : (f 4 6).toInt < (f 4 1).toInt
  · rw [if_pos c]; exact xfailF h L
  · rw [if_neg c]; exact h
theorem xb41K (f : sg_F) (L : sg_L) : xK f (sX5_lines_b41 f L) := by
  unfold sX5_lines_b41; (repeat first | rw [spl_d] | rw [spl2_d])
  by_cases c : (f 4 6).toInt < (f 4 1).toInt
  · rw [if_pos c]; exact xfailK f L
  · rw [if_neg c]; exact xK.rf
theorem xlines_K (L : sg_L) : ∀ (m : Nat) (i : Int32) (f : sg_F), xK f (sX5_lines_l6 m i f L) := by
  intro m
  induction m with
  | zero => intro i f; exact xK.rf
  | succ m ih =>
    intro i f
    show xK f (sX5_lines_h6 (sX5_lines_l6 m) i f L)
    unfold sX5_lines_h6; (repeat first | rw [spl_d] | rw [spl2_d])
    by_cases c1 : i.toInt < 120
    · rw [if_pos c1]
      by_cases c2 : (sX5_next f L).toInt = 59
      · rw [if_pos c2]; exact ((xadK f).tr (xline_K _ L)).tr (ih _ _)
      · rw [if_neg c2]; exact xb41K f L
    · rw [if_neg c1]; exact xb41K f L
theorem xlines_F {n p : Nat} (L : sg_L) : ∀ (m : Nat) (i : Int32) (f : sg_F), xF n p f → xF n p (sX5_lines_l6 m i f L) := by
  intro m i f h
  cases m with
  | zero => exact h
  | succ m =>
    show xF n p (sX5_lines_h6 (sX5_lines_l6 m) i f L)
    unfold sX5_lines_h6; (repeat first | rw [spl_d] | rw [spl2_d])
    by_cases c1 : i.toInt < 120
    · rw [if_pos c1, xnextF h L, if_neg (by decide)]; exact xb41F h L
    · rw [if_neg c1]; exact xb41F h L
theorem xlines_S {T : Nat → Int32} {n : Nat} (L : sg_L) : ∀ (m q : Nat) (i : Int32) (f : sg_F) (p : Nat) (c : List Int32) (h : (Nat → Int32) → Bool) (g : pV), xE T n p c.length f → trL (f 6) 0 c → 0 ≤ i.toInt → i.toInt ≤ (p : Int) → 120 - i.toInt < (m : Int) → n - p < q + 1 → xR T n (pT T n q p h g c) (sX5_lines_l6 m i f L) := by
  intro m
  induction m with
  | zero => intro q i f p c h g hE hc h0 h1 h2 h3; exact absurd h2 (by have := hE.2.2.2.2.2; omega)
  | succ m ih =>
    intro q i f p c h g hE hc h0 h1 h2 h3
    have hb := hE.2.2.2.2.2
    have hy := xnextE hE L
    show xR T n (pT T n q p h g c) (sX5_lines_h6 (sX5_lines_l6 m) i f L)
    unfold sX5_lines_h6 pT; (repeat first | rw [spl_d] | rw [spl2_d])
    by_cases s : pnx T n p = 59
    · obtain ⟨g1, g2⟩ := pnx_lt (T := T) (n := n) (a := p) (by omega)
      rw [if_pos s, if_pos (show i.toInt < 120 from by omega), if_pos (by rw [hy]; exact s)]
      obtain ⟨u1, u2⟩ := xadvE hE g1
      have w := xline u1 L
      rw [u2] at w
      have G := pLine_G (T := T) (n := n) (a := p + 1)
      obtain ⟨f2, e2⟩ : ∃ z : sg_F, z = sX5_line (xad f) L := ⟨_, rfl⟩
      have k1 : (1 : Int32).toInt = 1 := by decide
      have ei : (i + 1).toInt = i.toInt + 1 := (bn_addI (by omega) (by omega)).trans (by omega)
      cases q with
      | zero => exact absurd h3 (by omega)
      | succ q =>
        rw [pLs_s]
        show xR T n _ (sX5_lines_l6 m (i + 1) (sX5_line (xad f) L) L)
        rw [← e2] at w ⊢
        cases hl : (pLine T n (p + 1)).2.1 with
        | true =>
          rw [if_pos rfl]
          obtain ⟨w1, w2⟩ := w.1 hl
          obtain ⟨G1, G2, G3⟩ := G hl
          refine ih q (i + 1) f2 _ _ _ _ ?_ ?_ (by omega) (by omega) (by omega) (by omega)
          · rw [List.length_append]; exact w1
          · have hc0 : xC (f 6) 0 c f := ⟨fun _ hi => absurd hi (by omega), hc⟩
            exact (hc0.app (Nat.zero_add _).symm w2).2
        | false =>
          rw [if_neg Bool.false_ne_true]
          exact ⟨fun z => (by cases z), fun _ => xlines_F L _ _ _ (w.2 hl)⟩
    · have e : (if i.toInt < 120 then (if (sX5_next f L).toInt = 59 then sX5_lines_l6 m (i + 1) (sX5_line (xad f) L) L else sX5_lines_b41 f L) else sX5_lines_b41 f L) = sX5_lines_b41 f L := by
        by_cases c1 : i.toInt < 120
        · rw [if_pos c1, if_neg (by rw [hy]; exact s)]
        · rw [if_neg c1]
      rw [if_neg s, e]
      unfold sX5_lines_b41; (repeat first | rw [spl_d] | rw [spl2_d])
      have b1 := hE.1
      have b2 := hE.2.1
      by_cases c1 : p < n
      · rw [if_pos c1, if_pos (show (f 4 6).toInt < (f 4 1).toInt from by omega)]
        exact ⟨fun z => (by cases z), fun _ => xfailE hE L⟩
      · rw [if_neg c1, if_neg (show ¬ (f 4 6).toInt < (f 4 1).toInt from by omega)]
        exact ⟨fun _ => ⟨hE, hc⟩, fun z => (by cases z)⟩
noncomputable abbrev pLaw (T : Nat → Int32) (n : Nat) : pR := pLs T n 122 0 (fun _ => false) (fun _ => 0) []
theorem xlines {T : Nat → Int32} {n : Nat} {f : sg_F} (h : xS T n 0 0 f) (L : sg_L) : xR T n (pLaw T n) (sX5_lines f L) := by
  have k0 : (0 : Int32).toInt = 0 := by decide
  have w := xline h L
  have hb := h.2.2.2.2.2
  have G := pLine_G (T := T) (n := n) (a := 0)
  unfold pLaw sX5_lines; (repeat first | rw [spl_d] | rw [spl2_d])
  rw [pLs_s]
  cases hl : (pLine T n 0).2.1 with
  | true =>
    rw [if_pos rfl]
    obtain ⟨w1, w2⟩ := w.1 hl
    obtain ⟨G1, G2, G3⟩ := G hl
    refine xlines_S L 121 121 0 _ _ _ _ _ ?_ ?_ (by omega) (by omega) (by omega) (by omega)
    · rw [List.nil_append]; rw [Nat.zero_add] at w1; exact w1
    · rw [List.nil_append]; exact w2.2
  | false =>
    rw [if_neg Bool.false_ne_true]
    exact ⟨fun z => (by cases z), fun _ => xlines_F L _ _ _ (w.2 hl)⟩
/-! the reference -/
theorem mtk63 {T N : Nat → Int32} {n a : Nat} {k : Int} {g : sg_F} (h : mS T N n a k g) (L : sg_L) : (pnx T n a = 63 ∧ sX12_takes_63 g L = (1, mad g)) ∨ (pnx T n a ≠ 63 ∧ sX12_takes_63 g L = (0, g)) := by
  unfold sX12_takes_63; (repeat first | rw [spl_d] | rw [spl2_d])
  rw [if_pos h.lt]
  have e := mbS h L 63 (by decide)
  by_cases c : (sX12_byteAt g L).toInt = 63
  · rw [if_pos c]; exact Or.inl ⟨e.mp c, rfl⟩
  · rw [if_neg c]; exact Or.inr ⟨fun z => c (e.mpr z), rfl⟩
theorem mtk59 {T N : Nat → Int32} {n a : Nat} {k : Int} {g : sg_F} (h : mS T N n a k g) (L : sg_L) : (pnx T n a = 59 ∧ sX12_takes_59 g L = (1, mad g)) ∨ (pnx T n a ≠ 59 ∧ sX12_takes_59 g L = (0, g)) := by
  unfold sX12_takes_59; (repeat first | rw [spl_d] | rw [spl2_d])
  rw [if_pos h.lt]
  have e := mbS h L 59 (by decide)
  by_cases c : (sX12_byteAt g L).toInt = 59
  · rw [if_pos c]; exact Or.inl ⟨e.mp c, rfl⟩
  · rw [if_neg c]; exact Or.inr ⟨fun z => c (e.mpr z), rfl⟩
theorem mtk63F {n p : Nat} {g : sg_F} (h : mF n p g) (L : sg_L) : sX12_takes_63 g L = (0, g) := by
  unfold sX12_takes_63; (repeat first | rw [spl_d] | rw [spl2_d])
  rw [if_neg h.nlt]
theorem mtk59F {n p : Nat} {g : sg_F} (h : mF n p g) (L : sg_L) : sX12_takes_59 g L = (0, g) := by
  unfold sX12_takes_59; (repeat first | rw [spl_d] | rw [spl2_d])
  rw [if_neg h.nlt]
theorem mtk63K (g : sg_F) (L : sg_L) : mK g (sX12_takes_63 g L).2 := by
  unfold sX12_takes_63; (repeat first | rw [spl_d] | rw [spl2_d])
  by_cases c : (g 0 15).toInt < 0
  · rw [if_pos c]
    by_cases d : (sX12_byteAt g L).toInt = 63
    · rw [if_pos d]; exact madK g
    · rw [if_neg d]; exact mK.rf
  · rw [if_neg c]; exact mK.rf
theorem mtk59K (g : sg_F) (L : sg_L) : mK g (sX12_takes_59 g L).2 := by
  unfold sX12_takes_59; (repeat first | rw [spl_d] | rw [spl2_d])
  by_cases c : (g 0 15).toInt < 0
  · rw [if_pos c]
    by_cases d : (sX12_byteAt g L).toInt = 59
    · rw [if_pos d]; exact madK g
    · rw [if_neg d]; exact mK.rf
  · rw [if_neg c]; exact mK.rf
/-- how the text's working out ends -/
def mR (N : Nat → Int32) (r : pR) (o : Int32 × sg_F) : Prop := (r.2.1 = true → o.1 = r.2.2.2 N ∧ (o.2 0 15).toInt = -1) ∧ (r.2.1 = false → (o.2 0 15).toInt = r.1)
theorem b10 (b : Bool) : (if b = true then (1 : Int32) else 0).toInt = 0 ↔ b = false := by cases b <;> decide
/-- behind a line: y: whether a line had given, v: what; w, z: this line's value, whether it counts -/
theorem mb74 (x0 x1 : Int32) (rec : Int32 → Int32 → Int32 → sg_F → sg_L → Int32 × sg_F) (b : Bool) (z : Bool) (v w : Int32) (g : sg_F) (L : sg_L) (hg : (g 0 15).toInt < 0) : sX12_workOut_b74 rec x0 x1 (if b = true then 1 else 0) v w (if z = true then 1 else 0) g L = sX12_workOut_b96 rec x0 x1 (if (b || z) = true then 1 else 0) (if b = true then v else if z = true then w else v) g L := by
  unfold sX12_workOut_b74; (repeat first | rw [spl_d] | rw [spl2_d])
  rw [if_pos hg]
  cases b <;> cases z <;> rfl
theorem mb96 {T N : Nat → Int32} {n p : Nat} {g : sg_F} (h : mS T N n p 0 g) (x0 x1 : Int32) (rec : Int32 → Int32 → Int32 → sg_F → sg_L → Int32 × sg_F) (y v : Int32) (L : sg_L) : (pnx T n p = 59 ∧ sX12_workOut_b96 rec x0 x1 y v g L = rec y v 1 (mad g) L) ∨ (pnx T n p ≠ 59 ∧ sX12_workOut_b96 rec x0 x1 y v g L = rec y v 0 g L) := by
  unfold sX12_workOut_b96; (repeat first | rw [spl_d] | rw [spl2_d])
  rcases mtk59 h L with ⟨a, b⟩ | ⟨a, b⟩
  · rw [b, if_pos rfl]; exact Or.inl ⟨a, rfl⟩
  · rw [b, if_neg zk0]; exact Or.inr ⟨a, rfl⟩
theorem mb74F {n p : Nat} {g : sg_F} (h : mF n p g) (x0 x1 : Int32) (rec : Int32 → Int32 → Int32 → sg_F → sg_L → Int32 × sg_F) (y v w z : Int32) (L : sg_L) : sX12_workOut_b74 rec x0 x1 y v w z g L = rec y v 0 g L := by
  unfold sX12_workOut_b74 sX12_workOut_b96; (repeat first | rw [spl_d] | rw [spl2_d])
  rw [if_neg h.nlt, mtk59F h L, if_neg zk0]
/-- no line more -/
theorem mend0 {T N : Nat → Int32} {n p : Nat} {g : sg_F} (h : mS T N n p 0 g) (x0 x1 : Int32) (m : Nat) (y : Int32) (v : pV) (c : List Int32) (L : sg_L) : mR N (if p < n then pbad p else (p, true, c, v)) (sX12_workOut_l33 x0 x1 (m + 1) y (v N) 0 g L) := by
  show mR N _ (sX12_workOut_h33 x0 x1 (sX12_workOut_l33 x0 x1 m) y (v N) 0 g L)
  unfold sX12_workOut_h33; (repeat first | rw [spl_d] | rw [spl2_d])
  have b1 := h.1
  have b2 := h.2.1
  rw [if_pos (show (0 : Int32).toInt = 0 from by decide), if_pos h.lt]
  by_cases c1 : p < n
  · rw [if_pos c1, if_pos (show (g 0 13).toInt < (g 0 14).toInt from by omega)]
    exact ⟨fun z => (by cases z), fun _ => (mwr h L).2.2⟩
  · rw [if_neg c1, if_neg (show ¬ (g 0 13).toInt < (g 0 14).toInt from by omega)]
    exact ⟨fun _ => ⟨rfl, h.2.2.1⟩, fun z => (by cases z)⟩
theorem mend0F {N : Nat → Int32} {n p : Nat} {g : sg_F} (h : mF n p g) (x0 x1 : Int32) (m : Nat) (y v : Int32) (L : sg_L) : mR N (pbad p) (sX12_workOut_l33 x0 x1 (m + 1) y v 0 g L) := by
  show mR N _ (sX12_workOut_h33 x0 x1 (sX12_workOut_l33 x0 x1 m) y v 0 g L)
  unfold sX12_workOut_h33; (repeat first | rw [spl_d] | rw [spl2_d])
  rw [if_pos (show (0 : Int32).toInt = 0 from by decide), if_neg h.nlt]
  exact ⟨fun z => (by cases z), fun _ => h.2.2⟩
theorem mwork_S {T N : Nat → Int32} {n : Nat} (x0 x1 : Int32) (L : sg_L) : ∀ (m q : Nat) (g : sg_F) (a : Nat) (h : (Nat → Int32) → Bool) (v : pV) (c : List Int32), mS T N n a 0 g → n - a + 1 < m → n - a < q → mR N (pLs T n q a h v c) (sX12_workOut_l33 x0 x1 m (if h N = true then 1 else 0) (v N) 1 g L) := by
  intro m
  induction m with
  | zero => intro q g a h v c hS h1 h2; exact absurd h1 (by omega)
  | succ m ih =>
    intro q g a h v c hS h1 h2
    have hm : ∃ m' : Nat, m = m' + 1 := ⟨m - 1, by omega⟩
    have hbn := hS.2.2.2.2.2.2
    cases q with
    | zero => exact absurd h2 (by omega)
    | succ q =>
      rw [pLs_s]
      show mR N _ (sX12_workOut_h33 x0 x1 (sX12_workOut_l33 x0 x1 m) (if h N = true then 1 else 0) (v N) 1 g L)
      unfold sX12_workOut_h33; (repeat first | rw [spl_d] | rw [spl2_d])
      rw [if_neg (show ¬ (1 : Int32).toInt = 0 from by decide)]
      have w := mO_E.1 g L a hS
      have G := pE_G (T := T) (n := n) a
      obtain ⟨o, eo⟩ : ∃ z : Int32 × sg_F, z = sX12_either_0 g L := ⟨_, rfl⟩
      rw [← eo] at w ⊢
      -- what comes behind a line that ended well
      have tail : ∀ (g2 : sg_F) (l : pL) (hl : l.2.1 = true), mS T N n l.1 0 g2 → a < l.1 → mR N (pT T n q l.1 (pH h l) (pV1 h v l) (c ++ l.2.2.1)) (sX12_workOut_b74 (sX12_workOut_l33 x0 x1 m) x0 x1 (if h N = true then 1 else 0) (v N) (l.2.2.2.2 N) (if l.2.2.2.1 N = true then 1 else 0) g2 L) := by
        intro g2 l hl h2S hlt
        rw [mb74 _ _ _ _ _ _ _ _ _ h2S.lt]
        unfold pT
        rcases mb96 h2S x0 x1 (sX12_workOut_l33 x0 x1 m) (if (h N || l.2.2.2.1 N) = true then 1 else 0) (if h N = true then v N else if l.2.2.2.1 N = true then l.2.2.2.2 N else v N) L with ⟨t1, t2⟩ | ⟨t1, t2⟩
        · have k := (pnx_lt (T := T) (n := n) (a := l.1) (by omega)).1
          rw [if_pos t1, t2]
          exact ih q (mad g2) (l.1 + 1) (pH h l) (pV1 h v l) _ (madv h2S k h2S.i1) (by omega) (by omega)
        · obtain ⟨m', em⟩ := hm
          rw [if_neg t1, t2, em]
          exact mend0 h2S x0 x1 m' _ (pV1 h v l) _ L
      have tailF : ∀ (g2 : sg_F) (p : Nat) (y z : Int32), mF n p g2 → mR N (pbad p) (sX12_workOut_b74 (sX12_workOut_l33 x0 x1 m) x0 x1 (if h N = true then 1 else 0) (v N) y z g2 L) := by
        intro g2 p y z hF
        obtain ⟨m', em⟩ := hm
        rw [mb74F hF, em]
        exact mend0F hF x0 x1 m' _ _ L
      unfold pLine
      obtain ⟨r, er⟩ : ∃ z : pR, z = pE T n a := ⟨_, rfl⟩
      rw [← er] at w G ⊢
      obtain ⟨p, r2, s, u⟩ := r
      cases r2 with
      | true =>
        obtain ⟨w1, w2⟩ := w.1 rfl
        obtain ⟨g1, g2, g3, -, -⟩ := G rfl
        have w1 : o.1 = u N := w1
        have w2 : mS T N n p 0 o.2 := w2
        have g1 : a < p := g1
        rcases mtk63 w2 L with ⟨t1, t2⟩ | ⟨t1, t2⟩
        · have k := (pnx_lt (T := T) (n := n) (a := p) (by omega)).1
          rw [t2, if_pos rfl, if_pos (show ((p, true, s, u) : pR).2.1 = true ∧ pnx T n ((p, true, s, u) : pR).1 = 63 from ⟨rfl, t1⟩)]
          have x := mO_E.1 (mad o.2) L (p + 1) (madv w2 k w2.i1)
          have G2 := pE_G (T := T) (n := n) (p + 1)
          obtain ⟨o2, eo2⟩ : ∃ z : Int32 × sg_F, z = sX12_either_0 (mad o.2) L := ⟨_, rfl⟩
          show mR N (if (pLn2 (p, true, s, u) (pE T n (p + 1))).2.1 = true then pT T n q (pLn2 (p, true, s, u) (pE T n (p + 1))).1 (pH h (pLn2 (p, true, s, u) (pE T n (p + 1)))) (pV1 h v (pLn2 (p, true, s, u) (pE T n (p + 1)))) (c ++ (pLn2 (p, true, s, u) (pE T n (p + 1))).2.2.1) else pbad (pLn2 (p, true, s, u) (pE T n (p + 1))).1) (if o.1.toInt = 0 then sX12_workOut_b74 (sX12_workOut_l33 x0 x1 m) x0 x1 (if h N = true then 1 else 0) (v N) (sX12_either_0 (mad o.2) L).1 0 (sX12_either_0 (mad o.2) L).2 L else sX12_workOut_b74 (sX12_workOut_l33 x0 x1 m) x0 x1 (if h N = true then 1 else 0) (v N) (sX12_either_0 (mad o.2) L).1 1 (sX12_either_0 (mad o.2) L).2 L)
          rw [← eo2] at x ⊢
          obtain ⟨t, et⟩ : ∃ z : pR, z = pE T n (p + 1) := ⟨_, rfl⟩
          rw [← et] at x G2 ⊢
          obtain ⟨p2, t2', s2, u2⟩ := t
          cases t2' with
          | true =>
            obtain ⟨x1, x2⟩ := x.1 rfl
            have x1 : o2.1 = u2 N := x1
            have x2 : mS T N n p2 0 o2.2 := x2
            have lt2 : p + 1 < p2 := (G2 rfl).1
            have y := tail o2.2 (pLn2 (p, true, s, u) (p2, true, s2, u2)) rfl x2 (by show a < p2; omega)
            rw [if_pos (show (pLn2 (p, true, s, u) (p2, true, s2, u2)).2.1 = true from rfl), x1, w1]
            by_cases d : (u N).toInt = 0
            · rw [if_pos d]
              have ed : (pLn2 (p, true, s, u) (p2, true, s2, u2)).2.2.2.1 N = false := decide_eq_false (fun z => z d)
              rw [ed] at y
              exact y
            · rw [if_neg d]
              have ed : (pLn2 (p, true, s, u) (p2, true, s2, u2)).2.2.2.1 N = true := decide_eq_true d
              rw [ed] at y
              exact y
          | false =>
            have x1 : mF n p2 o2.2 := x.2 rfl
            rw [if_neg (show ¬ (pLn2 (p, true, s, u) (p2, false, s2, u2)).2.1 = true from Bool.false_ne_true)]
            by_cases d : o.1.toInt = 0
            · rw [if_pos d]; exact tailF _ _ _ _ x1
            · rw [if_neg d]; exact tailF _ _ _ _ x1
        · rw [t2, if_neg zk0, if_neg (show ¬ (((p, true, s, u) : pR).2.1 = true ∧ pnx T n ((p, true, s, u) : pR).1 = 63) from fun z => t1 z.2)]
          have y := tail o.2 (pLn1 (p, true, s, u)) rfl w2 g1
          rw [if_pos (show (pLn1 (p, true, s, u)).2.1 = true from rfl), w1]
          exact y
      | false =>
        have w1 : mF n p o.2 := w.2 rfl
        rw [mtk63F w1 L, if_neg zk0, if_neg (show ¬ (((p, false, s, u) : pR).2.1 = true ∧ pnx T n ((p, false, s, u) : pR).1 = 63) from fun z => absurd z.1 Bool.false_ne_true), if_neg (show ¬ (pLn1 (p, false, s, u)).2.1 = true from Bool.false_ne_true)]
        exact tailF _ _ _ _ w1
/-- all but what reading uses is as it was -/
def mW (g g1 : sg_F) : Prop := ∀ k j : Nat, (k ≠ 0 ∨ (j ≠ 12 ∧ j ≠ 13 ∧ j ≠ 14 ∧ j ≠ 15 ∧ j ≠ 16)) → g1 k j = g k j
theorem mK.W {g g1 : sg_F} (h : mK g g1) : mW g g1 := fun k j hk => h k j (by omega)
theorem mW.tr {g g1 g2 : sg_F} (h : mW g g1) (h1 : mW g1 g2) : mW g g2 := fun k j hk => (h1 k j hk).trans (h k j hk)
theorem mW.put {g : sg_F} {j : Nat} {x : Int32} (hj : j = 12 ∨ j = 13 ∨ j = 14 ∨ j = 15 ∨ j = 16) : mW g (sg_up g 0 (sgu (g 0) j x)) := by
  intro k i hk
  by_cases c : k = 0
  · subst c
    rw [sg_up_s, sgu_n (by omega)]
  · rw [sg_up_n c]
theorem mwork_K (x0 x1 : Int32) (L : sg_L) : ∀ (m : Nat) (y v z : Int32) (g : sg_F), mK g (sX12_workOut_l33 x0 x1 m y v z g L).2 := by
  have E : ∀ (g : sg_F) (L : sg_L), mK g (sX12_either_0 g L).2 := (mO_E (T := fun _ => 0) (N := fun _ => 0) (n := 0)).2.2
  intro m
  induction m with
  | zero => intro y v z g; exact mK.rf
  | succ m ih =>
    intro y v z g
    have b96 : ∀ (y v : Int32) (g : sg_F), mK g (sX12_workOut_b96 (sX12_workOut_l33 x0 x1 m) x0 x1 y v g L).2 := by
      intro y v g
      unfold sX12_workOut_b96; (repeat first | rw [spl_d] | rw [spl2_d])
      by_cases c : (sX12_takes_59 g L).1 = 1
      · rw [if_pos c]; exact (mtk59K g L).tr (ih _ _ _ _)
      · rw [if_neg c]; exact (mtk59K g L).tr (ih _ _ _ _)
    have b74 : ∀ (y v w z : Int32) (g : sg_F), mK g (sX12_workOut_b74 (sX12_workOut_l33 x0 x1 m) x0 x1 y v w z g L).2 := by
      intro y v w z g
      unfold sX12_workOut_b74; (repeat first | rw [spl_d] | rw [spl2_d])
      (repeat' split) <;> exact b96 _ _ _
    show mK g (sX12_workOut_h33 x0 x1 (sX12_workOut_l33 x0 x1 m) y v z g L).2
    unfold sX12_workOut_h33; (repeat first | rw [spl_d] | rw [spl2_d])
    by_cases c1 : z.toInt = 0
    · rw [if_pos c1]
      by_cases c2 : (g 0 15).toInt < 0
      · rw [if_pos c2]
        by_cases c3 : (g 0 13).toInt < (g 0 14).toInt
        · rw [if_pos c3]; exact mwrK g L
        · rw [if_neg c3]; exact mK.rf
      · rw [if_neg c2]; exact mK.rf
    · rw [if_neg c1]
      have a := (E g L).tr (mtk63K (sX12_either_0 g L).2 L)
      by_cases c2 : (sX12_takes_63 (sX12_either_0 g L).2 L).1 = 1
      · rw [if_pos c2]
        by_cases c3 : (sX12_either_0 g L).1.toInt = 0
        · rw [if_pos c3]; exact (a.tr (E _ L)).tr (b74 _ _ _ _ _)
        · rw [if_neg c3]; exact (a.tr (E _ L)).tr (b74 _ _ _ _ _)
      · rw [if_neg c2]; exact a.tr (b74 _ _ _ _ _)
theorem mwork_W (x0 x1 : Int32) (g : sg_F) (L : sg_L) : mW g (sX12_workOut x0 x1 g L).2 := by
  unfold sX12_workOut; (repeat first | rw [spl_d] | rw [spl2_d])
  exact (((((mW.put (Or.inl rfl)).tr (mW.put (Or.inr (Or.inl rfl)))).tr (mW.put (Or.inr (Or.inr (Or.inl rfl))))).tr (mW.put (Or.inr (Or.inr (Or.inr (Or.inl rfl)))))).tr (mW.put (Or.inr (Or.inr (Or.inr (Or.inr rfl)))))).tr (mwork_K _ _ L _ _ _ _ _).W
theorem mwork {T N : Nat → Int32} {n : Nat} {x0 x1 : Int32} {g : sg_F} (L : sg_L) (hn : x1.toInt = n) (h120 : n ≤ 120) (ht : (x0.toInt < 0 ∧ ∀ i : Nat, i < n → g 6 i = T i) ∨ (x0.toInt = 0 ∧ ∀ i : Nat, i < n → g 7 i = T i)) (hN : ∀ i : Nat, i < 6 → g 8 i = N i) : mR N (pLaw T n) (sX12_workOut x0 x1 g L) := by
  unfold sX12_workOut; (repeat first | rw [spl_d] | rw [spl2_d])
  obtain ⟨g5, e5⟩ : ∃ z : sg_F, z = sg_up (sg_up (sg_up (sg_up (sg_up g 0 (sgu (g 0) 12 x0)) 0 (sgu (sg_up g 0 (sgu (g 0) 12 x0) 0) 13 0)) 0 (sgu (sg_up (sg_up g 0 (sgu (g 0) 12 x0)) 0 (sgu (sg_up g 0 (sgu (g 0) 12 x0) 0) 13 0) 0) 14 x1)) 0 (sgu (sg_up (sg_up (sg_up g 0 (sgu (g 0) 12 x0)) 0 (sgu (sg_up g 0 (sgu (g 0) 12 x0) 0) 13 0)) 0 (sgu (sg_up (sg_up g 0 (sgu (g 0) 12 x0)) 0 (sgu (sg_up g 0 (sgu (g 0) 12 x0) 0) 13 0) 0) 14 x1) 0) 15 (-1))) 0 (sgu (sg_up (sg_up (sg_up (sg_up g 0 (sgu (g 0) 12 x0)) 0 (sgu (sg_up g 0 (sgu (g 0) 12 x0) 0) 13 0)) 0 (sgu (sg_up (sg_up g 0 (sgu (g 0) 12 x0)) 0 (sgu (sg_up g 0 (sgu (g 0) 12 x0) 0) 13 0) 0) 14 x1)) 0 (sgu (sg_up (sg_up (sg_up g 0 (sgu (g 0) 12 x0)) 0 (sgu (sg_up g 0 (sgu (g 0) 12 x0) 0) 13 0)) 0 (sgu (sg_up (sg_up g 0 (sgu (g 0) 12 x0)) 0 (sgu (sg_up g 0 (sgu (g 0) 12 x0) 0) 13 0) 0) 14 x1) 0) 15 (-1)) 0) 16 0) := ⟨_, rfl⟩
  rw [← e5]
  have q13 : g5 0 13 = 0 := by rw [e5]; rfl
  have q14 : g5 0 14 = x1 := by rw [e5]; rfl
  have q15 : g5 0 15 = -1 := by rw [e5]; rfl
  have q16 : g5 0 16 = 0 := by rw [e5]; rfl
  have q12 : g5 0 12 = x0 := by rw [e5]; rfl
  have qk : ∀ k : Nat, k ≠ 0 → g5 k = g k := fun k hk => by rw [e5, sg_up_n hk, sg_up_n hk, sg_up_n hk, sg_up_n hk, sg_up_n hk]
  have hS : mS T N n 0 0 g5 := by
    refine ⟨by rw [q13]; decide, by rw [q14]; exact hn, by rw [q15]; decide, by rw [q16]; decide, ?_, fun i hi => by rw [qk 8 (by decide)]; exact hN i hi, h120, Nat.zero_le _⟩
    rw [q12, qk 6 (by decide), qk 7 (by decide)]; exact ht
  have w := mwork_S x0 x1 L 300 122 g5 0 (fun _ => false) (fun _ => 0) [] hS (by omega) (by omega)
  exact w
/-! THE LAW at work -/
/-- values of the stack, the latest first -/
def vS (g : Nat → Int32) : List Int32 → Prop
  | [] => True
  | v :: st => g st.length = v ∧ vS g st
theorem vS.kp {g g1 : Nat → Int32} : ∀ st : List Int32, vS g st → (∀ j : Nat, j < st.length → g1 j = g j) → vS g1 st := by
  intro st
  induction st with
  | nil => intro _ _; exact trivial
  | cons v st ih =>
    intro h k
    have e : (v :: st).length = st.length + 1 := rfl
    have h : g st.length = v ∧ vS g st := h
    exact ⟨(k _ (by omega)).trans h.1, ih h.2 (fun j hj => k j (by omega))⟩
/-- the names' values, as the class has them: s, w, h, k -/
def vN (s w h k : Int32) (i : Nat) : Int32 := match i with
  | 0 => if (0 : Int32) ≤ s - w then s - w else 0 - (s - w)
  | 1 => if w.toInt < s.toInt then 1 else 0
  | 2 => s
  | 3 => w
  | 4 => h
  | _ => k
theorem xopd (s : Int32) (f : sg_F) (L : sg_L) : sX5_operands s f L = if s.toInt = 42 ∨ s.toInt = 47 ∨ s.toInt = 37 ∨ s.toInt = 43 ∨ s.toInt = 45 ∨ s.toInt = 60 ∨ s.toInt = 61 ∨ s.toInt = 62 ∨ s.toInt = 38 ∨ s.toInt = 124 then 2 else if s.toInt = 33 ∨ s.toInt = 126 then 1 else 0 := by
  unfold sX5_operands
  (repeat' split) <;> first | rfl | (exfalso; omega)
theorem xwk (s a b : Int32) (f : sg_F) (L : sg_L) (h : s.toInt = 42 ∨ s.toInt = 47 ∨ s.toInt = 37 ∨ s.toInt = 43 ∨ s.toInt = 45 ∨ s.toInt = 60 ∨ s.toInt = 61 ∨ s.toInt = 62 ∨ s.toInt = 38 ∨ s.toInt = 124) : sX5_worked s a b f L = pwk s.toInt a b := by
  rcases h with h | h | h | h | h | h | h | h | h | h
  · refine Eq.trans ?_ (pwk_42 h).symm
    unfold sX5_worked; (repeat first | rw [spl_d] | rw [spl2_d])
    rw [if_neg (show ¬ s.toInt = 33 from by omega), if_neg (show ¬ s.toInt = 37 from by omega), if_neg (show ¬ s.toInt = 38 from by omega), if_pos h]
  · refine Eq.trans ?_ (pwk_47 h).symm
    unfold sX5_worked; (repeat first | rw [spl_d] | rw [spl2_d])
    rw [if_neg (show ¬ s.toInt = 33 from by omega), if_neg (show ¬ s.toInt = 37 from by omega), if_neg (show ¬ s.toInt = 38 from by omega), if_neg (show ¬ s.toInt = 42 from by omega), if_neg (show ¬ s.toInt = 43 from by omega), if_neg (show ¬ s.toInt = 45 from by omega), if_pos h]
  · refine Eq.trans ?_ (pwk_37 h).symm
    unfold sX5_worked; (repeat first | rw [spl_d] | rw [spl2_d])
    rw [if_neg (show ¬ s.toInt = 33 from by omega), if_pos h]
  · refine Eq.trans ?_ (pwk_43 h).symm
    unfold sX5_worked; (repeat first | rw [spl_d] | rw [spl2_d])
    rw [if_neg (show ¬ s.toInt = 33 from by omega), if_neg (show ¬ s.toInt = 37 from by omega), if_neg (show ¬ s.toInt = 38 from by omega), if_neg (show ¬ s.toInt = 42 from by omega), if_pos h]
  · refine Eq.trans ?_ (pwk_45 h).symm
    unfold sX5_worked; (repeat first | rw [spl_d] | rw [spl2_d])
    rw [if_neg (show ¬ s.toInt = 33 from by omega), if_neg (show ¬ s.toInt = 37 from by omega), if_neg (show ¬ s.toInt = 38 from by omega), if_neg (show ¬ s.toInt = 42 from by omega), if_neg (show ¬ s.toInt = 43 from by omega), if_pos h]
  · refine Eq.trans ?_ (pwk_60 h).symm
    unfold sX5_worked; (repeat first | rw [spl_d] | rw [spl2_d])
    rw [if_neg (show ¬ s.toInt = 33 from by omega), if_neg (show ¬ s.toInt = 37 from by omega), if_neg (show ¬ s.toInt = 38 from by omega), if_neg (show ¬ s.toInt = 42 from by omega), if_neg (show ¬ s.toInt = 43 from by omega), if_neg (show ¬ s.toInt = 45 from by omega), if_neg (show ¬ s.toInt = 47 from by omega), if_pos h]
  · refine Eq.trans ?_ (pwk_61 h).symm
    unfold sX5_worked; (repeat first | rw [spl_d] | rw [spl2_d])
    rw [if_neg (show ¬ s.toInt = 33 from by omega), if_neg (show ¬ s.toInt = 37 from by omega), if_neg (show ¬ s.toInt = 38 from by omega), if_neg (show ¬ s.toInt = 42 from by omega), if_neg (show ¬ s.toInt = 43 from by omega), if_neg (show ¬ s.toInt = 45 from by omega), if_neg (show ¬ s.toInt = 47 from by omega), if_neg (show ¬ s.toInt = 60 from by omega), if_pos h]
  · refine Eq.trans ?_ (pwk_62 h).symm
    unfold sX5_worked; (repeat first | rw [spl_d] | rw [spl2_d])
    rw [if_neg (show ¬ s.toInt = 33 from by omega), if_neg (show ¬ s.toInt = 37 from by omega), if_neg (show ¬ s.toInt = 38 from by omega), if_neg (show ¬ s.toInt = 42 from by omega), if_neg (show ¬ s.toInt = 43 from by omega), if_neg (show ¬ s.toInt = 45 from by omega), if_neg (show ¬ s.toInt = 47 from by omega), if_neg (show ¬ s.toInt = 60 from by omega), if_neg (show ¬ s.toInt = 61 from by omega), if_pos h]
  · refine Eq.trans ?_ (pwk_38 h).symm
    unfold sX5_worked; (repeat first | rw [spl_d] | rw [spl2_d])
    rw [if_neg (show ¬ s.toInt = 33 from by omega), if_neg (show ¬ s.toInt = 37 from by omega), if_pos h]
  · refine Eq.trans ?_ (pwk_124 h).symm
    unfold sX5_worked; (repeat first | rw [spl_d] | rw [spl2_d])
    rw [if_neg (show ¬ s.toInt = 33 from by omega), if_neg (show ¬ s.toInt = 37 from by omega), if_neg (show ¬ s.toInt = 38 from by omega), if_neg (show ¬ s.toInt = 42 from by omega), if_neg (show ¬ s.toInt = 43 from by omega), if_neg (show ¬ s.toInt = 45 from by omega), if_neg (show ¬ s.toInt = 47 from by omega), if_neg (show ¬ s.toInt = 60 from by omega), if_neg (show ¬ s.toInt = 61 from by omega), if_neg (show ¬ s.toInt = 62 from by omega), if_pos h]
theorem xwk33 (s a b : Int32) (f : sg_F) (L : sg_L) (h : s.toInt = 33) : sX5_worked s a b f L = if a.toInt = 0 then 1 else 0 := by
  unfold sX5_worked
  rw [if_pos h]
theorem xwk126 (s a b : Int32) (f : sg_F) (L : sg_L) (h : s.toInt = 126) : sX5_worked s a b f L = -a := by
  unfold sX5_worked; (repeat first | rw [spl_d] | rw [spl2_d])
  rw [if_neg (by omega), if_neg (by omega), if_neg (by omega), if_neg (by omega), if_neg (by omega), if_neg (by omega), if_neg (by omega), if_neg (by omega), if_neg (by omega), if_neg (by omega), if_neg (by omega)]
theorem xnmd (y s w h k : Int32) (f : sg_F) (L : sg_L) : sX5_named y s w h k f L = pnv (vN s w h k) y := by
  unfold sX5_named pnv; (repeat first | rw [spl_d] | rw [spl2_d])
  by_cases h0 : y.toInt = 100 ∨ y.toInt = 117 ∨ y.toInt = 115 ∨ y.toInt = 119 ∨ y.toInt = 104 ∨ y.toInt = 107
  · rw [if_pos h0]
    rcases h0 with h0 | h0 | h0 | h0 | h0 | h0
    · obtain rfl : y = 100 := Int32.toInt_inj.mp (h0.trans (by decide))
      rfl
    · obtain rfl : y = 117 := Int32.toInt_inj.mp (h0.trans (by decide))
      rfl
    · obtain rfl : y = 115 := Int32.toInt_inj.mp (h0.trans (by decide))
      rfl
    · obtain rfl : y = 119 := Int32.toInt_inj.mp (h0.trans (by decide))
      rfl
    · obtain rfl : y = 104 := Int32.toInt_inj.mp (h0.trans (by decide))
      rfl
    · obtain rfl : y = 107 := Int32.toInt_inj.mp (h0.trans (by decide))
      rfl
  · rw [if_neg h0, if_neg (show ¬ y.toInt = 100 from by omega), if_neg (show ¬ y.toInt = 104 from by omega), if_neg (show ¬ y.toInt = 107 from by omega), if_neg (show ¬ y.toInt = 115 from by omega), if_neg (show ¬ y.toInt = 117 from by omega), if_neg (show ¬ y.toInt = 119 from by omega)]
    by_cases c101 : y.toInt = 101
    · rw [if_pos c101]
    rw [if_neg c101]
    by_cases c102 : y.toInt = 102
    · rw [if_pos c102]
    rw [if_neg c102]
    by_cases c103 : y.toInt = 103
    · rw [if_pos c103]
    rw [if_neg c103]
    by_cases c105 : y.toInt = 105
    · rw [if_pos c105]
    rw [if_neg c105]
    by_cases c106 : y.toInt = 106
    · rw [if_pos c106]
    rw [if_neg c106]
    by_cases c108 : y.toInt = 108
    · rw [if_pos c108]
    rw [if_neg c108]
    by_cases c109 : y.toInt = 109
    · rw [if_pos c109]
    rw [if_neg c109]
    by_cases c110 : y.toInt = 110
    · rw [if_pos c110]
    rw [if_neg c110]
    by_cases c111 : y.toInt = 111
    · rw [if_pos c111]
    rw [if_neg c111]
    by_cases c112 : y.toInt = 112
    · rw [if_pos c112]
    rw [if_neg c112]
    by_cases c113 : y.toInt = 113
    · rw [if_pos c113]
    rw [if_neg c113]
    by_cases c114 : y.toInt = 114
    · rw [if_pos c114]
    rw [if_neg c114]
    by_cases c116 : y.toInt = 116
    · rw [if_pos c116]
    rw [if_neg c116]
    by_cases c118 : y.toInt = 118
    · rw [if_pos c118]
    rw [if_neg c118]
/-- a sign works -/
theorem vone (s w h k : Int32) (L : sg_L) {c : Int32} {st out : List Int32} (hx : pex1 (vN s w h k) c st = some out) (hp : c.toInt ≠ 59 ∧ c.toInt ≠ 63) {m i : Nat} {t y : Int32} {f : sg_F} (hv : vS (f 8) st) (ht : t.toInt = st.length) (hl : st.length ≤ 120) (hy : y.toInt = i) (hi : (i : Int) < (f 4 9).toInt) (h2 : (f 4 9).toInt ≤ 121) (hc : f 7 i = c) : ∃ (f1 : sg_F) (t1 y1 : Int32), sX5_valueOf_l9 s w h k (m + 1) 0 t y f L = sX5_valueOf_l9 s w h k m 0 t1 y1 f1 L ∧ t1.toInt = out.length ∧ y1.toInt = (i : Int) + 1 ∧ vS (f1 8) out ∧ (∀ q : Nat, q ≠ 8 → f1 q = f q) ∧ out.length ≤ st.length + 1 := by
  have k0 : (0 : Int32).toInt = 0 := by decide
  have k1 : (1 : Int32).toInt = 1 := by decide
  have k2 : (2 : Int32).toInt = 2 := by decide
  have ey := bn_clI (x := y) (by omega)
  have e1 : (y + 1).toInt = y.toInt + 1 := (bn_addI (by omega) (by omega)).trans (by omega)
  have cy : f 7 y.toNatClampNeg = c := by rw [show y.toNatClampNeg = i from by omega]; exact hc
  have e9 : sX5_valueOf_l9 s w h k (m + 1) 0 t y f L = sX5_valueOf_h9 s w h k (sX5_valueOf_l9 s w h k m) 0 t y f L := rfl
  rw [e9]
  unfold sX5_valueOf_h9 sX5_valueOf_b46 sX5_valueOf_b93 sX5_valueOf_b191; (repeat first | rw [spl_d] | rw [spl2_d])
  rw [if_pos (show y.toInt < (f 4 9).toInt from by omega), cy, if_neg hp.1, if_neg hp.1, if_neg hp.2, if_pos k0, xopd]
  unfold pex1 at hx
  by_cases c1 : c.toInt = 42 ∨ c.toInt = 47 ∨ c.toInt = 37 ∨ c.toInt = 43 ∨ c.toInt = 45 ∨ c.toInt = 60 ∨ c.toInt = 61 ∨ c.toInt = 62 ∨ c.toInt = 38 ∨ c.toInt = 124
  · rw [if_pos c1] at hx ⊢
    match st, hx, hv, ht, hl with
    | [], hx, _, _, _ => exact absurd hx (by intro z; cases z)
    | [_], hx, _, _, _ => exact absurd hx (by intro z; cases z)
    | b :: a :: r, hx, hv, ht, hl =>
      obtain rfl := Option.some.inj hx
      have el : (b :: a :: r).length = r.length + 2 := rfl
      have eo : (pwk c.toInt a b :: r).length = r.length + 1 := rfl
      have hv : f 8 (r.length + 1) = b ∧ f 8 r.length = a ∧ vS (f 8) r := hv
      have et : (t - 2).toInt = t.toInt - 2 := (bn_subI (by omega) (by omega)).trans (by omega)
      have et1 : (t - 2 + 1).toInt = (t - 2).toInt + 1 := (bn_addI (by omega) (by omega)).trans (by omega)
      have ct := bn_clI (x := t - 2) (by omega)
      have ct1 := bn_clI (x := t - 2 + 1) (by omega)
      rw [if_neg (show ¬ (t - 2).toInt < 0 from by omega), if_pos (show (t - 2 + 1).toInt < 122 from by omega), if_neg (show ¬ (2 : Int32).toInt = 0 from by decide), show (t - 2).toNatClampNeg = r.length from by omega, show (t - 2 + 1).toNatClampNeg = r.length + 1 from by omega, hv.1, hv.2.1, xwk c a b _ _ c1]
      refine ⟨_, _, _, rfl, by omega, by omega, ⟨?_, ?_⟩, fun q hq => sg_up_n hq, by omega⟩
      · rw [sg_up_s, sgu_s]
      · rw [sg_up_s]; exact vS.kp r hv.2.2 (fun j hj => sgu_n (by omega))
  rw [if_neg c1] at hx ⊢
  by_cases c2 : c.toInt = 33 ∨ c.toInt = 126
  · rw [if_pos c2]
    have hx2 : ∃ (a : Int32) (r : List Int32), st = a :: r ∧ out = (if c.toInt = 33 then (if a.toInt = 0 then 1 else 0) else -a) :: r := by
      by_cases d : c.toInt = 33
      · rw [if_pos d] at hx
        cases st with
        | nil => exact absurd hx (by intro z; cases z)
        | cons a r => exact ⟨a, r, rfl, by rw [if_pos d]; exact (Option.some.inj hx).symm⟩
      · rw [if_neg d, if_pos (show c.toInt = 126 from by omega)] at hx
        cases st with
        | nil => exact absurd hx (by intro z; cases z)
        | cons a r => exact ⟨a, r, rfl, by rw [if_neg d]; exact (Option.some.inj hx).symm⟩
    obtain ⟨a, r, rfl, rfl⟩ := hx2
    · skip
      have el : (a :: r).length = r.length + 1 := rfl
      have eo : ((if c.toInt = 33 then (if a.toInt = 0 then (1 : Int32) else 0) else -a) :: r).length = r.length + 1 := rfl
      have hv : f 8 r.length = a ∧ vS (f 8) r := hv
      have et : (t - 1).toInt = t.toInt - 1 := (bn_subI (by omega) (by omega)).trans (by omega)
      have et1 : (t - 1 + 1).toInt = (t - 1).toInt + 1 := (bn_addI (by omega) (by omega)).trans (by omega)
      have ct := bn_clI (x := t - 1) (by omega)
      rw [if_neg (show ¬ (t - 1).toInt < 0 from by omega), if_pos (show (t - 1 + 1).toInt < 122 from by omega), if_neg (show ¬ (1 : Int32).toInt = 0 from by decide), show (t - 1).toNatClampNeg = r.length from by omega, hv.1]
      have ew : sX5_worked c a (f 8 (t - 1 + 1).toNatClampNeg) f L = if c.toInt = 33 then (if a.toInt = 0 then 1 else 0) else -a := by
        by_cases d : c.toInt = 33
        · rw [if_pos d]; exact xwk33 c a _ f L d
        · rw [if_neg d]; exact xwk126 c a _ f L (by omega)
      rw [ew]
      refine ⟨_, _, _, rfl, by omega, by omega, ⟨?_, ?_⟩, fun q hq => sg_up_n hq, by omega⟩
      · rw [sg_up_s, sgu_s]
      · rw [sg_up_s]; exact vS.kp r hv.2 (fun j hj => sgu_n (by omega))
  · rw [if_neg c2]
    rw [if_neg (by omega), if_neg (by omega)] at hx
    obtain rfl := Option.some.inj hx
    have eo : (pnv (vN s w h k) c :: st).length = st.length + 1 := rfl
    have et : (t - 0).toInt = t.toInt := (bn_subI (by omega) (by omega)).trans (by omega)
    have et1 : (t - 0 + 1).toInt = (t - 0).toInt + 1 := (bn_addI (by omega) (by omega)).trans (by omega)
    have ct := bn_clI (x := t - 0) (by omega)
    rw [if_neg (show ¬ (t - 0).toInt < 0 from by omega), if_pos (show (t - 0 + 1).toInt < 122 from by omega), if_pos k0, show (t - 0).toNatClampNeg = st.length from by omega, xnmd]
    refine ⟨_, _, _, rfl, by omega, by omega, ⟨?_, ?_⟩, fun q hq => sg_up_n hq, by omega⟩
    · rw [sg_up_s, sgu_s]
    · rw [sg_up_s]; exact vS.kp st hv (fun j hj => sgu_n (by omega))
/-- signs of one expression work -/
theorem vseg (s w h k : Int32) (L : sg_L) : ∀ (c st out : List Int32) (m i : Nat) (t y : Int32) (f : sg_F), trL (f 7) i c → (∀ x : Int32, x ∈ c → x.toInt ≠ 59 ∧ x.toInt ≠ 63) → pex (vN s w h k) c st = some out → vS (f 8) st → t.toInt = st.length → st.length + c.length ≤ 121 → y.toInt = i → ((i + c.length : Nat) : Int) ≤ (f 4 9).toInt → (f 4 9).toInt ≤ 121 → c.length ≤ m → ∃ (f1 : sg_F) (t1 y1 : Int32), sX5_valueOf_l9 s w h k m 0 t y f L = sX5_valueOf_l9 s w h k (m - c.length) 0 t1 y1 f1 L ∧ t1.toInt = out.length ∧ y1.toInt = ((i + c.length : Nat) : Int) ∧ vS (f1 8) out ∧ ∀ q : Nat, q ≠ 8 → f1 q = f q := by
  intro c
  induction c with
  | nil =>
    intro st out m i t y f _ _ hx hv ht _ hy _ _ _
    have hx : some st = some out := hx
    obtain rfl := Option.some.inj hx
    exact ⟨f, t, y, rfl, ht, hy, hv, fun _ _ => rfl⟩
  | cons x c ih =>
    intro st out m i t y f hc hp hx hv ht hl hy h1 h2 hm
    have el : (x :: c).length = c.length + 1 := rfl
    have hc : f 7 i = x ∧ trL (f 7) (i + 1) c := hc
    have hx : (pex1 (vN s w h k) x st).bind (pex (vN s w h k) c) = some out := hx
    cases e : pex1 (vN s w h k) x st with
    | none => rw [e] at hx; exact absurd hx (by intro z; cases z)
    | some s1 =>
      rw [e] at hx
      have hx : pex (vN s w h k) c s1 = some out := hx
      cases m with
      | zero => exact absurd hm (by omega)
      | succ m =>
        obtain ⟨f1, t1, y1, a1, a2, a3, a4, a5, a6⟩ := vone s w h k L (m := m) e (hp x (List.mem_cons_self ..)) hv ht (by omega) hy (by omega) h2 hc.1
        obtain ⟨f2, t2, y2, b1, b2, b3, b4, b5⟩ := ih s1 out m (i + 1) t1 y1 f1 (by rw [a5 7 (by decide)]; exact hc.2) (fun z hz => hp z (List.mem_cons_of_mem _ hz)) hx a4 a2 (by omega) (by rw [a3]; rfl) (by rw [a5 4 (by decide)]; omega) (by rw [a5 4 (by decide)]; omega) (by omega)
        refine ⟨f2, t2, y2, ?_, b2, by omega, b4, fun q hq => (b5 q hq).trans (a5 q hq)⟩
        rw [a1, b1, show m + 1 - (x :: c).length = m - c.length from by omega]
/-- signs that are passed by -/
theorem vskip (s w h k : Int32) (L : sg_L) (t : Int32) : ∀ (c : List Int32) (m i : Nat) (y : Int32) (f : sg_F), trL (f 7) i c → (∀ x : Int32, x ∈ c → x.toInt ≠ 59 ∧ x.toInt ≠ 63) → y.toInt = i → ((i + c.length : Nat) : Int) ≤ (f 4 9).toInt → (f 4 9).toInt ≤ 121 → c.length ≤ m → ∃ y1 : Int32, sX5_valueOf_l9 s w h k m 1 t y f L = sX5_valueOf_l9 s w h k (m - c.length) 1 t y1 f L ∧ y1.toInt = ((i + c.length : Nat) : Int) := by
  intro c
  induction c with
  | nil => intro m i y f _ _ hy _ _ _; exact ⟨y, rfl, hy⟩
  | cons x c ih =>
    intro m i y f hc hp hy h1 h2 hm
    have el : (x :: c).length = c.length + 1 := rfl
    have hc : f 7 i = x ∧ trL (f 7) (i + 1) c := hc
    have k1 : (1 : Int32).toInt = 1 := by decide
    have ey := bn_clI (x := y) (by omega)
    have e1 : (y + 1).toInt = y.toInt + 1 := (bn_addI (by omega) (by omega)).trans (by omega)
    have cy : f 7 y.toNatClampNeg = x := by rw [show y.toNatClampNeg = i from by omega]; exact hc.1
    have hx := hp x (List.mem_cons_self ..)
    cases m with
    | zero => exact absurd hm (by omega)
    | succ m =>
      have e9 : sX5_valueOf_l9 s w h k (m + 1) 1 t y f L = sX5_valueOf_l9 s w h k m 1 t (y + 1) f L := by
        show sX5_valueOf_h9 s w h k (sX5_valueOf_l9 s w h k m) 1 t y f L = _
        unfold sX5_valueOf_h9 sX5_valueOf_b46 sX5_valueOf_b93 sX5_valueOf_b191; (repeat first | rw [spl_d] | rw [spl2_d])
        rw [if_pos (show y.toInt < (f 4 9).toInt from by omega), cy, if_neg hx.1, if_neg hx.1, if_neg hx.2, if_neg (show ¬ (1 : Int32).toInt = 0 from by decide)]
      obtain ⟨y1, b1, b2⟩ := ih m (i + 1) (y + 1) f hc.2 (fun z hz => hp z (List.mem_cons_of_mem _ hz)) (by rw [e1, hy]; rfl) (by omega) h2 (by omega)
      exact ⟨y1, by rw [e9, b1, show m + 1 - (x :: c).length = m - c.length from by omega], by omega⟩
theorem trL.sp {g : Nat → Int32} {m : List Int32} : ∀ (l : List Int32) (i : Nat), trL g i (l ++ m) → trL g i l ∧ trL g (i + l.length) m := by
  intro l
  induction l with
  | nil => intro i h; exact ⟨trivial, h⟩
  | cons b t ih =>
    intro i h
    have h : g i = b ∧ trL g (i + 1) (t ++ m) := h
    have e : (b :: t).length = t.length + 1 := rfl
    obtain ⟨a1, a2⟩ := ih (i + 1) h.2
    exact ⟨⟨h.1, a1⟩, by rw [e, show i + (t.length + 1) = i + 1 + t.length from by omega]; exact a2⟩
/-- what is given stays given; signs are put behind -/
theorem pLs_app {T : Nat → Int32} {n : Nat} {N : Nat → Int32} : ∀ (q a : Nat) (h : (Nat → Int32) → Bool) (g : pV) (c : List Int32), (pLs T n q a h g c).2.1 = true → (∃ d : List Int32, (pLs T n q a h g c).2.2.1 = c ++ d) ∧ (h N = true → (pLs T n q a h g c).2.2.2 N = g N) := by
  intro q
  induction q with
  | zero => intro a h g c _; exact ⟨⟨[], (List.append_nil c).symm⟩, fun _ => rfl⟩
  | succ q ih =>
    intro a h g c hk
    rw [pLs_s] at hk ⊢
    by_cases c1 : (pLine T n a).2.1 = true
    · rw [if_pos c1] at hk ⊢
      unfold pT at hk ⊢
      by_cases c2 : pnx T n (pLine T n a).1 = 59
      · rw [if_pos c2] at hk ⊢
        obtain ⟨⟨d, e⟩, w⟩ := ih _ _ _ _ hk
        refine ⟨⟨(pLine T n a).2.2.1 ++ d, by rw [e, List.append_assoc]⟩, fun z => ?_⟩
        rw [w (by show (h N || (pLine T n a).2.2.2.1 N) = true; rw [z]; rfl)]
        show (if h N = true then g N else _) = g N
        rw [if_pos z]
      · rw [if_neg c2] at hk ⊢
        by_cases c3 : (pLine T n a).1 < n
        · rw [if_pos c3] at hk; exact absurd hk Bool.false_ne_true
        · rw [if_neg c3]
          refine ⟨⟨(pLine T n a).2.2.1, rfl⟩, fun z => ?_⟩
          show (if h N = true then g N else _) = g N
          rw [if_pos z]
    · rw [if_neg c1] at hk; exact absurd hk Bool.false_ne_true
/-- a line's end where nothing is passed by -/
theorem vend0 (s w h k : Int32) (L : sg_L) {m i : Nat} {t y : Int32} {f : sg_F} (hy : y.toInt = i) (hi : (i : Int) < (f 4 9).toInt) (hc : f 7 i = 59) : (sX5_valueOf_l9 s w h k (m + 1) 0 t y f L).1 = f 8 0 := by
  have k59 : (59 : Int32).toInt = 59 := by decide
  have ey := bn_clI (x := y) (by omega)
  show (sX5_valueOf_h9 s w h k (sX5_valueOf_l9 s w h k m) 0 t y f L).1 = _
  unfold sX5_valueOf_h9; (repeat first | rw [spl_d] | rw [spl2_d])
  rw [if_pos (show y.toInt < (f 4 9).toInt from by omega), show y.toNatClampNeg = i from by omega, hc, if_pos k59, if_pos (show (0 : Int32).toInt = 0 from by decide)]
  rfl
/-- the end of a line that was passed by -/
theorem vend1 (s w h k : Int32) (L : sg_L) {m i : Nat} {t y : Int32} {f : sg_F} (hy : y.toInt = i) (hi : (i : Int) < (f 4 9).toInt) (hc : f 7 i = 59) : sX5_valueOf_l9 s w h k (m + 1) 1 t y f L = sX5_valueOf_l9 s w h k m 0 t (y + 1) f L := by
  have k59 : (59 : Int32).toInt = 59 := by decide
  have ey := bn_clI (x := y) (by omega)
  show sX5_valueOf_h9 s w h k (sX5_valueOf_l9 s w h k m) 1 t y f L = _
  unfold sX5_valueOf_h9 sX5_valueOf_b46 sX5_valueOf_b191; (repeat first | rw [spl_d] | rw [spl2_d])
  rw [if_pos (show y.toInt < (f 4 9).toInt from by omega), show y.toNatClampNeg = i from by omega, hc, if_pos k59, if_pos k59, if_neg (show ¬ (1 : Int32).toInt = 0 from by decide)]
/-- ? -/
theorem vquest (s w h k : Int32) (L : sg_L) {m i : Nat} {t y : Int32} {f : sg_F} (hy : y.toInt = i) (hi : (i : Int) < (f 4 9).toInt) (hc : f 7 i = 63) : sX5_valueOf_l9 s w h k (m + 1) 0 t y f L = sX5_valueOf_l9 s w h k m (if (f 8 0).toInt = 0 then 1 else 0) 0 (y + 1) f L := by
  have k63 : (63 : Int32).toInt = 63 := by decide
  have ey := bn_clI (x := y) (by omega)
  show sX5_valueOf_h9 s w h k (sX5_valueOf_l9 s w h k m) 0 t y f L = _
  unfold sX5_valueOf_h9 sX5_valueOf_b46 sX5_valueOf_b191; (repeat first | rw [spl_d] | rw [spl2_d])
  rw [if_pos (show y.toInt < (f 4 9).toInt from by omega), show y.toNatClampNeg = i from by omega, hc, if_neg (show ¬ (63 : Int32).toInt = 59 from by decide), if_neg (show ¬ (63 : Int32).toInt = 59 from by decide), if_pos k63, if_pos (show (0 : Int32).toInt = 0 from by decide), show (0 : Int32).toNatClampNeg = 0 from by decide]
  by_cases d : (f 8 0).toInt = 0
  · rw [if_pos d, if_pos d]
  · rw [if_neg d, if_neg d]
/-- behind the last sign -/
theorem vlast (s w h k : Int32) (L : sg_L) {m : Nat} {t y z : Int32} {f : sg_F} (hy : y.toInt = (f 4 9).toInt) : (sX5_valueOf_l9 s w h k (m + 1) z t y f L).1 = 0 := by
  show (sX5_valueOf_h9 s w h k (sX5_valueOf_l9 s w h k m) z t y f L).1 = _
  unfold sX5_valueOf_h9; (repeat first | rw [spl_d] | rw [spl2_d])
  rw [if_neg (show ¬ y.toInt < (f 4 9).toInt from by omega)]
theorem vlines {T : Nat → Int32} {n : Nat} (s w h0 k : Int32) (L : sg_L) : ∀ (q a : Nat) (h : (Nat → Int32) → Bool) (g : pV) (c : List Int32) (m : Nat) (y : Int32) (f : sg_F), (pLs T n q a h g c).2.1 = true → h (vN s w h0 k) = false → g (vN s w h0 k) = 0 → trL (f 7) 0 (pLs T n q a h g c).2.2.1 → (f 4 9).toInt = (pLs T n q a h g c).2.2.1.length → (pLs T n q a h g c).2.2.1.length ≤ 121 → y.toInt = c.length → (pLs T n q a h g c).2.2.1.length < m + c.length → (sX5_valueOf_l9 s w h0 k m 0 0 y f L).1 = (pLs T n q a h g c).2.2.2 (vN s w h0 k) := by
  intro q
  induction q with
  | zero =>
    intro a h g c m y f hk hh hg hc hd h1 hy hm
    have hm : c.length < m + c.length := hm
    have hd : (f 4 9).toInt = c.length := hd
    cases m with
    | zero => exact absurd hm (by omega)
    | succ m =>
      rw [vlast s w h0 k L (by omega)]
      exact hg.symm
  | succ q ih =>
    intro a h g c m y f hk hh hg hc hd h1 hy hm
    have k0 : (0 : Int32).toInt = 0 := by decide
    have APP := pLs_app (T := T) (n := n) (N := vN s w h0 k)
    -- what comes behind this line, if it doesn't count
    have go : ∀ (m1 : Nat) (y1 : Int32) (f1 : sg_F), (pLine T n a).2.1 = true → (pLine T n a).2.2.2.1 (vN s w h0 k) = false → (∀ z : Nat, z ≠ 8 → f1 z = f z) → y1.toInt = (c ++ (pLine T n a).2.2.1).length → (pLs T n (q + 1) a h g c).2.2.1.length < m1 + (c ++ (pLine T n a).2.2.1).length → (sX5_valueOf_l9 s w h0 k m1 0 0 y1 f1 L).1 = (pLs T n (q + 1) a h g c).2.2.2 (vN s w h0 k) := by
      intro m1 y1 f1 hl hf hF hy1 hm1
      have eh : pH h (pLine T n a) (vN s w h0 k) = false := by show (h _ || _) = false; rw [hh, hf]; rfl
      have eg : pV1 h g (pLine T n a) (vN s w h0 k) = 0 := by
        show (if h (vN s w h0 k) = true then g (vN s w h0 k) else if (pLine T n a).2.2.2.1 (vN s w h0 k) = true then _ else g (vN s w h0 k)) = 0
        rw [hh, hf, if_neg Bool.false_ne_true, if_neg Bool.false_ne_true, hg]
      rw [pLs_s, if_pos hl] at hk hc hd h1 hm1 ⊢
      unfold pT at hk hc hd h1 hm1 ⊢
      by_cases c2 : pnx T n (pLine T n a).1 = 59
      · rw [if_pos c2] at hk hc hd h1 hm1 ⊢
        exact ih _ _ _ _ m1 y1 f1 hk eh eg (by rw [hF 7 (by decide)]; exact hc) (by rw [hF 4 (by decide)]; exact hd) h1 hy1 hm1
      · rw [if_neg c2] at hk hc hd h1 hm1 ⊢
        by_cases c3 : (pLine T n a).1 < n
        · rw [if_pos c3] at hk; exact absurd hk Bool.false_ne_true
        · rw [if_neg c3] at hd hm1 ⊢
          have hd : (f 4 9).toInt = (c ++ (pLine T n a).2.2.1).length := hd
          have hm1 : (c ++ (pLine T n a).2.2.1).length < m1 + (c ++ (pLine T n a).2.2.1).length := hm1
          cases m1 with
          | zero => exact absurd hm1 (by omega)
          | succ m1 =>
            rw [vlast s w h0 k L (by rw [hF 4 (by decide)]; omega)]
            exact eg.symm
    -- what is given, if it counts
    have given : (pLine T n a).2.1 = true → (pLine T n a).2.2.2.1 (vN s w h0 k) = true → (pLs T n (q + 1) a h g c).2.2.2 (vN s w h0 k) = (pLine T n a).2.2.2.2 (vN s w h0 k) := by
      intro hl ht
      have eg : pV1 h g (pLine T n a) (vN s w h0 k) = (pLine T n a).2.2.2.2 (vN s w h0 k) := by
        show (if h (vN s w h0 k) = true then _ else if (pLine T n a).2.2.2.1 (vN s w h0 k) = true then _ else _) = _
        rw [hh, ht, if_neg Bool.false_ne_true, if_pos rfl]
      rw [pLs_s, if_pos hl] at hk ⊢
      unfold pT at hk ⊢
      by_cases c2 : pnx T n (pLine T n a).1 = 59
      · rw [if_pos c2] at hk ⊢
        rw [(APP _ _ _ _ _ hk).2 (by show (h _ || _) = true; rw [ht, Bool.or_true]), eg]
      · rw [if_neg c2] at hk ⊢
        by_cases c3 : (pLine T n a).1 < n
        · rw [if_pos c3] at hk; exact absurd hk Bool.false_ne_true
        · rw [if_neg c3]; exact eg
    have hl : (pLine T n a).2.1 = true := by
      cases e : (pLine T n a).2.1 with
      | true => rfl
      | false =>
        rw [pLs_s, if_neg (by rw [e]; exact Bool.false_ne_true)] at hk
        exact absurd hk Bool.false_ne_true
    -- the line's signs stand where they should
    have hx : ∃ d : List Int32, (pLs T n (q + 1) a h g c).2.2.1 = c ++ (pLine T n a).2.2.1 ++ d := by
      rw [pLs_s, if_pos hl] at hk ⊢
      unfold pT at hk ⊢
      by_cases c2 : pnx T n (pLine T n a).1 = 59
      · rw [if_pos c2] at hk ⊢
        exact (APP _ _ _ _ _ hk).1
      · rw [if_neg c2] at hk ⊢
        by_cases c3 : (pLine T n a).1 < n
        · rw [if_pos c3] at hk; exact absurd hk Bool.false_ne_true
        · rw [if_neg c3]; exact ⟨[], (List.append_nil _).symm⟩
    obtain ⟨d, hx⟩ := hx
    have hs := hc
    rw [hx, List.append_assoc] at hs
    have hs1 := (trL.sp c 0 hs).2
    rw [Nat.zero_add] at hs1
    have hs2 := (trL.sp _ _ hs1).1
    have hlen : (pLs T n (q + 1) a h g c).2.2.1.length = c.length + (pLine T n a).2.2.1.length + d.length := by rw [hx, List.length_append, List.length_append]
    have G := pE_G (T := T) (n := n) a
    clear hs hs1
    obtain ⟨l, el⟩ : ∃ z : pL, z = pLine T n a := ⟨_, rfl⟩
    have el' := el
    unfold pLine at el'
    by_cases cc : (pE T n a).2.1 = true ∧ pnx T n (pE T n a).1 = 63
    · rw [if_pos cc] at el'
      obtain ⟨-, -, -, G4, G5⟩ := G cc.1
      have G2 := pE_G (T := T) (n := n) ((pE T n a).1 + 1)
      have hl2 := hl
      rw [← el, el'] at hl2
      obtain ⟨-, -, -, W4, W5⟩ := G2 hl2
      have ec : (pLine T n a).2.2.1 = (pE T n a).2.2.1 ++ ([63] ++ ((pE T n ((pE T n a).1 + 1)).2.2.1 ++ [59])) := by
        rw [← el, el']
        show (pE T n a).2.2.1 ++ [63] ++ (pE T n ((pE T n a).1 + 1)).2.2.1 ++ [59] = _
        rw [List.append_assoc, List.append_assoc]
      have eh : (pLine T n a).2.2.2.1 (vN s w h0 k) = decide (((pE T n a).2.2.2 (vN s w h0 k)).toInt ≠ 0) := by rw [← el, el']; rfl
      have ev : (pLine T n a).2.2.2.2 (vN s w h0 k) = (pE T n ((pE T n a).1 + 1)).2.2.2 (vN s w h0 k) := by rw [← el, el']; rfl
      rw [ec] at hs2
      obtain ⟨t1, t2⟩ := trL.sp _ _ hs2
      obtain ⟨t3, t4⟩ := trL.sp _ _ t2
      obtain ⟨t5, t6⟩ := trL.sp _ _ t4
      have el1 : (pLine T n a).2.2.1.length = (pE T n a).2.2.1.length + (1 + ((pE T n ((pE T n a).1 + 1)).2.2.1.length + 1)) := by rw [ec, List.length_append, List.length_append, List.length_append]; rfl
      have e63 : [(63 : Int32)].length = 1 := rfl
      obtain ⟨f1, u1, y1, a1, a2, a3, a4, a5⟩ := vseg s w h0 k L (pE T n a).2.2.1 [] _ m c.length 0 y f t1 G4 (G5 _ []) trivial k0 (by show 0 + _ ≤ 121; omega) hy (by omega) (by omega) (by omega)
      rw [a1]
      have a4 : f1 8 0 = (pE T n a).2.2.2 (vN s w h0 k) := a4.1
      obtain ⟨m1, em1⟩ : ∃ z : Nat, m - (pE T n a).2.2.1.length = z + 1 := ⟨m - (pE T n a).2.2.1.length - 1, by omega⟩
      rw [em1, vquest s w h0 k L a3 (by rw [a5 4 (by decide)]; omega) (by rw [a5 7 (by decide)]; exact t3.1), a4]
      have k1 : (1 : Int32).toInt = 1 := by decide
      have ey1 : (y1 + 1).toInt = ((c.length + (pE T n a).2.2.1.length + 1 : Nat) : Int) := (bn_addI (by omega) (by omega)).trans (by omega)
      by_cases z : ((pE T n a).2.2.2 (vN s w h0 k)).toInt = 0
      · rw [if_pos z]
        obtain ⟨y2, b1, b2⟩ := vskip s w h0 k L 0 (pE T n ((pE T n a).1 + 1)).2.2.1 m1 (c.length + (pE T n a).2.2.1.length + 1) (y1 + 1) f1 (by rw [a5 7 (by decide)]; exact t5) W4 ey1 (by rw [a5 4 (by decide)]; omega) (by rw [a5 4 (by decide)]; omega) (by omega)
        obtain ⟨m2, em2⟩ : ∃ z : Nat, m1 - (pE T n ((pE T n a).1 + 1)).2.2.1.length = z + 1 := ⟨m1 - (pE T n ((pE T n a).1 + 1)).2.2.1.length - 1, by omega⟩
        rw [b1, em2, vend1 s w h0 k L b2 (by rw [a5 4 (by decide)]; omega) (by rw [a5 7 (by decide)]; exact t6.1)]
        have ey2 : (y2 + 1).toInt = y2.toInt + 1 := (bn_addI (by omega) (by omega)).trans (by omega)
        exact go m2 (y2 + 1) f1 hl (by rw [eh]; exact decide_eq_false (fun q => q z)) a5 (by rw [List.length_append]; omega) (by rw [List.length_append]; omega)
      · rw [if_neg z]
        obtain ⟨f2, u2, y2, b1, b2, b3, b4, b5⟩ := vseg s w h0 k L (pE T n ((pE T n a).1 + 1)).2.2.1 [] _ m1 (c.length + (pE T n a).2.2.1.length + 1) 0 (y1 + 1) f1 (by rw [a5 7 (by decide)]; exact t5) W4 (W5 _ []) trivial k0 (by show 0 + _ ≤ 121; omega) ey1 (by rw [a5 4 (by decide)]; omega) (by rw [a5 4 (by decide)]; omega) (by omega)
        obtain ⟨m2, em2⟩ : ∃ z : Nat, m1 - (pE T n ((pE T n a).1 + 1)).2.2.1.length = z + 1 := ⟨m1 - (pE T n ((pE T n a).1 + 1)).2.2.1.length - 1, by omega⟩
        rw [b1, em2, vend0 s w h0 k L b3 (by rw [b5 4 (by decide), a5 4 (by decide)]; omega) (by rw [b5 7 (by decide), a5 7 (by decide)]; exact t6.1), given hl (by rw [eh]; exact decide_eq_true z), ev]
        exact b4.1
    · rw [if_neg cc] at el'
      have hl2 := hl
      rw [← el, el'] at hl2
      obtain ⟨-, -, -, G4, G5⟩ := G hl2
      have ec : (pLine T n a).2.2.1 = (pE T n a).2.2.1 ++ [59] := by rw [← el, el']; rfl
      have eh : (pLine T n a).2.2.2.1 (vN s w h0 k) = true := by rw [← el, el']; rfl
      have ev : (pLine T n a).2.2.2.2 (vN s w h0 k) = (pE T n a).2.2.2 (vN s w h0 k) := by rw [← el, el']; rfl
      rw [ec] at hs2
      obtain ⟨t1, t2⟩ := trL.sp _ _ hs2
      have el1 : (pLine T n a).2.2.1.length = (pE T n a).2.2.1.length + 1 := by rw [ec, List.length_append]; rfl
      obtain ⟨f1, u1, y1, a1, a2, a3, a4, a5⟩ := vseg s w h0 k L (pE T n a).2.2.1 [] _ m c.length 0 y f t1 G4 (G5 _ []) trivial k0 (by show 0 + _ ≤ 121; omega) hy (by omega) (by omega) (by omega)
      obtain ⟨m1, em1⟩ : ∃ z : Nat, m - (pE T n a).2.2.1.length = z + 1 := ⟨m - (pE T n a).2.2.1.length - 1, by omega⟩
      rw [a1, em1, vend0 s w h0 k L a3 (by rw [a5 4 (by decide)]; omega) (by rw [a5 7 (by decide)]; exact t2.1), given hl eh, ev]
      exact a4.1
/-- the class's signs give what the text gives -/
theorem vvalue {T : Nat → Int32} {n : Nat} (s w h k : Int32) (f : sg_F) (L : sg_L) (hk : (pLaw T n).2.1 = true) (hc : trL (f 7) 0 (pLaw T n).2.2.1) (hd : (f 4 9).toInt = (pLaw T n).2.2.1.length) (h1 : (pLaw T n).2.2.1.length ≤ 121) : (sX5_valueOf s w h k f L).1 = (pLaw T n).2.2.2 (vN s w h k) := by
  unfold sX5_valueOf
  exact vlines s w h k L 122 0 _ _ [] 122 0 f hk rfl rfl hc hd h1 (by decide) (by show (pLaw T n).2.2.1.length < 122 + 0; omega)
theorem vvalue_K (s w h k : Int32) (L : sg_L) : ∀ (m : Nat) (z t y : Int32) (f : sg_F) (q : Nat), q ≠ 8 → (sX5_valueOf_l9 s w h k m z t y f L).2 q = f q := by
  intro m
  induction m with
  | zero => intro z t y f q _; rfl
  | succ m ih =>
    intro z t y f q hq
    have b191 : ∀ (z t y : Int32) (g : sg_F), (sX5_valueOf_b191 (sX5_valueOf_l9 s w h k m) s w h k z t y g L).2 q = g q := by
      intro z t y g
      unfold sX5_valueOf_b191; (repeat first | rw [spl_d] | rw [spl2_d])
      exact ih _ _ _ _ q hq
    have b93 : ∀ (z t y c : Int32) (g : sg_F), (sX5_valueOf_b93 (sX5_valueOf_l9 s w h k m) s w h k z t y c g L).2 q = g q := by
      intro z t y c g
      unfold sX5_valueOf_b93; (repeat first | rw [spl_d] | rw [spl2_d])
      (repeat' split) <;> first | rfl | exact b191 _ _ _ _ | (rw [b191]; exact sg_up_n hq)
    have b46 : ∀ (z t y c : Int32) (g : sg_F), (sX5_valueOf_b46 (sX5_valueOf_l9 s w h k m) s w h k z t y c g L).2 q = g q := by
      intro z t y c g
      unfold sX5_valueOf_b46; (repeat first | rw [spl_d] | rw [spl2_d])
      (repeat' split) <;> first | rfl | exact b191 _ _ _ _ | exact b93 _ _ _ _ _
    show (sX5_valueOf_h9 s w h k (sX5_valueOf_l9 s w h k m) z t y f L).2 q = f q
    unfold sX5_valueOf_h9; (repeat first | rw [spl_d] | rw [spl2_d])
    (repeat' split) <;> first | rfl | exact b46 _ _ _ _ _
/-! THE LAW is read, on both sides -/
theorem xread {f : sg_F} {L : sg_L} {n : Nat} (hn : (f 4 1).toInt = n) (hb : n ≤ 120) : ((pLaw (f 5) n).2.1 = true → (sX5_isRead f L).1 = 1 ∧ (sX5_isRead f L).2 4 2 = 1 ∧ ((sX5_isRead f L).2 4 9).toInt = (pLaw (f 5) n).2.2.1.length ∧ trL ((sX5_isRead f L).2 7) 0 (pLaw (f 5) n).2.2.1 ∧ (pLaw (f 5) n).2.2.1.length ≤ 121) ∧ ((pLaw (f 5) n).2.1 = false → (sX5_isRead f L).1.toInt = -100 - ((pLaw (f 5) n).1 : Int) ∧ (pLaw (f 5) n).1 ≤ 120 ∧ (sX5_isRead f L).2 4 2 = f 4 2 ∧ (sX5_isRead f L).2 4 9 = f 4 9 ∧ (sX5_isRead f L).2 7 = f 7) := by
  unfold sX5_isRead
  rw [spl_d, spl_d, spl_d]
  obtain ⟨f3, e3⟩ : ∃ z : sg_F, z = sg_up (sg_up (sg_up f 4 (sgu (f 4) 6 0)) 4 (sgu (sg_up f 4 (sgu (f 4) 6 0) 4) 7 (-1))) 4 (sgu (sg_up (sg_up f 4 (sgu (f 4) 6 0)) 4 (sgu (sg_up f 4 (sgu (f 4) 6 0) 4) 7 (-1)) 4) 8 0) := ⟨_, rfl⟩
  rw [← e3]
  have q1 : f3 4 1 = f 4 1 := by rw [e3]; rfl
  have q6 : f3 4 6 = 0 := by rw [e3]; rfl
  have q7 : f3 4 7 = -1 := by rw [e3]; rfl
  have q8 : f3 4 8 = 0 := by rw [e3]; rfl
  have q2 : f3 4 2 = f 4 2 := by rw [e3]; rfl
  have q9 : f3 4 9 = f 4 9 := by rw [e3]; rfl
  have qk : ∀ k : Nat, k ≠ 4 → f3 k = f k := fun k hk => by rw [e3, sg_up_n hk, sg_up_n hk, sg_up_n hk]
  have hS : xS (f 5) n 0 0 f3 := ⟨by rw [q6]; decide, by rw [q1]; exact hn, by rw [q7]; decide, by rw [q8]; decide, fun i _ => by rw [qk 5 (by decide)], hb, Nat.zero_le _, Nat.le_refl _⟩
  have w := xlines hS L
  have K : xK f3 (sX5_lines f3 L) := by
    unfold sX5_lines; (repeat first | rw [spl_d] | rw [spl2_d])
    exact (xline_K f3 L).tr (xlines_K L _ _ _)
  obtain ⟨g, eg⟩ : ∃ z : sg_F, z = sX5_lines f3 L := ⟨_, rfl⟩
  rw [← eg] at w K ⊢
  obtain ⟨r, er⟩ : ∃ z : pR, z = pLaw (f 5) n := ⟨_, rfl⟩
  rw [← er] at w ⊢
  (repeat first | rw [spl_d] | rw [spl2_d])
  have g7 : sg_up g 4 (sgu (g 4) 1 0) 4 7 = g 4 7 := by rw [sg_up_s, sgu_n (show (7 : Nat) ≠ 1 by decide)]
  have g8 : sg_up g 4 (sgu (g 4) 1 0) 4 8 = g 4 8 := by rw [sg_up_s, sgu_n (show (8 : Nat) ≠ 1 by decide)]
  rw [g7, g8]
  obtain ⟨p, r2, c, v⟩ := r
  cases r2 with
  | true =>
    obtain ⟨⟨w1, w2, w3, w4, w5, w6, w7, w8⟩, w9⟩ := w.1 rfl
    have w4 : (g 4 8).toInt = c.length := w4
    have w8 : c.length ≤ p + 1 := w8
    have w7 : p ≤ n := w7
    have w9 : trL (g 6) 0 c := w9
    have ec := bn_clI (x := g 4 8) (by omega)
    rw [if_pos (show (g 4 7).toInt < 0 from by omega)]
    refine ⟨fun _ => ⟨rfl, rfl, ?_, ?_, by show c.length ≤ 121; omega⟩, fun z => (by cases z)⟩
    · show (g 4 8).toInt = c.length
      exact w4
    · show trL (va_cpy (g 6) (g 7) (0 : Int32).toNatClampNeg (0 : Int32).toNatClampNeg (g 4 8).toNatClampNeg) 0 c
      refine trL.kp c 0 w9 (fun j hj => ?_)
      rw [show (0 : Int32).toNatClampNeg = 0 from by decide]
      unfold va_cpy
      rw [if_pos ⟨Nat.zero_le _, by omega⟩, Nat.sub_zero, Nat.zero_add]
  | false =>
    obtain ⟨w1, w2, w3⟩ := w.2 rfl
    have w4 : p ≤ 120 := w3.2
    have w3 : (g 4 7).toInt = p := w3.1
    have w1 : (g 4 6).toInt = p := w1
    have k100 : (-100 : Int32).toInt = -100 := by decide
    have bt := bn_top (g 4 7)
    have e : (-100 - g 4 7).toInt = -100 - (g 4 7).toInt := (bn_subI (by omega) (by omega)).trans (by omega)
    rw [if_neg (show ¬ (g 4 7).toInt < 0 from by omega)]
    refine ⟨fun z => (by cases z), fun _ => ⟨by show (-100 - g 4 7).toInt = -100 - (p : Int); omega, w4, ?_, ?_, ?_⟩⟩
    · show g 4 2 = f 4 2
      rw [K 4 2 (by decide) (by decide), q2]
    · show g 4 9 = f 4 9
      rw [K 4 9 (by decide) (by decide), q9]
    · show g 7 = f 7
      funext j
      rw [K 7 j (by decide) (Or.inl (by decide)), qk 7 (by decide)]
theorem mcopy (L : sg_L) : ∀ (m : Nat) (a b : Int32) (f : sg_F), 0 ≤ b.toInt → b.toInt ≤ a.toInt → a.toInt ≤ 120 → a.toInt - b.toInt < (m : Int) → (sX12_law_l37 m a b f L).1 = 1 ∧ (sX12_law_l37 m a b f L).2 0 11 = a ∧ (∀ i : Nat, (i : Int) < b.toInt → (sX12_law_l37 m a b f L).2 7 i = f 7 i) ∧ ∀ i : Nat, b.toInt ≤ (i : Int) → (i : Int) < a.toInt → (sX12_law_l37 m a b f L).2 7 i = f 6 i := by
  intro m
  induction m with
  | zero => intro a b f h0 h1 h2 h3; exact absurd h3 (by omega)
  | succ m ih =>
    intro a b f h0 h1 h2 h3
    have e9 : sX12_law_l37 (m + 1) a b f L = sX12_law_h37 (sX12_law_l37 m) a b f L := rfl
    rw [e9]
    unfold sX12_law_h37; (repeat first | rw [spl_d] | rw [spl2_d])
    by_cases c : b.toInt < a.toInt
    · rw [if_pos c]
      obtain ⟨e1, e2⟩ := cl_inc h0 (by omega)
      have ec := bn_clI h0
      obtain ⟨a1, a2, a3, a4⟩ := ih a (b + 1) (sg_up f 7 (sgu (f 7) b.toNatClampNeg (f 6 b.toNatClampNeg))) (by omega) (by omega) h2 (by omega)
      refine ⟨a1, a2, fun i hi => ?_, fun i h4 h5 => ?_⟩
      · rw [a3 i (by omega), sg_up_s, sgu_n (by omega)]
      · by_cases z : i = b.toNatClampNeg
        · rw [a3 i (by omega), sg_up_s, z, sgu_s]
        · rw [a4 i (by omega) h5, sg_up_n (by decide)]
    · rw [if_neg c]
      refine ⟨rfl, ?_, fun i hi => ?_, fun i h4 h5 => absurd h5 (by omega)⟩
      · show sg_up f 0 (sgu (f 0) 11 a) 0 11 = a
        rw [sg_up_s, sgu_s]
      · show sg_up f 0 (sgu (f 0) 11 a) 7 i = f 7 i
        rw [sg_up_n (by decide)]
/-- the laws of both are the same -/
def rLaw (fX fM : sg_F) (hl : Bool) (T : Nat → Int32) (n : Nat) : Prop := (hl = false ∧ (fX 4 2).toInt = 0 ∧ (fM 0 11).toInt < 0) ∨ (hl = true ∧ (fX 4 2).toInt ≠ 0 ∧ (fM 0 11).toInt = n ∧ n ≤ 120 ∧ (∀ i : Nat, i < n → fM 7 i = T i) ∧ (pLaw T n).2.1 = true ∧ (pLaw T n).2.2.1.length ≤ 121 ∧ (fX 4 9).toInt = (pLaw T n).2.2.1.length ∧ trL (fX 7) 0 (pLaw T n).2.2.1)
def rLw (fX fM : sg_F) : Prop := ∃ (hl : Bool) (T : Nat → Int32) (n : Nat), rLaw fX fM hl T n
theorem rLw.zero : rLw f0X f0M := ⟨false, fun _ => 0, 0, Or.inl ⟨rfl, by decide, by decide⟩⟩
theorem rLaw.fr {fX fX1 fM fM1 : sg_F} {hl : Bool} {T : Nat → Int32} {n : Nat} (h : rLaw fX fM hl T n) (a : fX1 4 2 = fX 4 2) (b : fX1 4 9 = fX 4 9) (c : ∀ j : Nat, fX1 7 j = fX 7 j) (d : fM1 0 11 = fM 0 11) (e : ∀ j : Nat, fM1 7 j = fM 7 j) : rLaw fX1 fM1 hl T n := by
  unfold rLaw
  rw [a, b, d, show fX1 7 = fX 7 from funext c, show fM1 7 = fM 7 from funext e]
  exact h
theorem rLw.fr {fX fX1 fM fM1 : sg_F} (h : rLw fX fM) (a : fX1 4 2 = fX 4 2) (b : fX1 4 9 = fX 4 9) (c : ∀ j : Nat, fX1 7 j = fX 7 j) (d : fM1 0 11 = fM 0 11) (e : ∀ j : Nat, fM1 7 j = fM 7 j) : rLw fX1 fM1 := by
  obtain ⟨hl, T, n, h⟩ := h
  exact ⟨hl, T, n, h.fr a b c d e⟩
theorem rTape.read {fX fX1 fM fM1 : sg_F} {LX LM : sg_L} {r1 r2 : Int32} (h : rTape fX fM) (hI : sgI loX hiX fX) (e1 : (r1, fX1) = sX11_law fX LX) (e2 : (r2, fM1) = sX12_law fM LM) : r1 = r2 ∧ ((r1.toInt = 1 ∧ ∃ n : Nat, rLaw fX1 fM1 true (fX 5) n) ∨ (fX1 4 2 = fX 4 2 ∧ fX1 4 9 = fX 4 9 ∧ (∀ j : Nat, fX1 7 j = fX 7 j) ∧ fM1 0 11 = fM 0 11 ∧ ∀ j : Nat, fM1 7 j = fM 7 j)) := by
  have hb : 0 ≤ (fX 4 1).toInt ∧ (fX 4 1).toInt ≤ 120 := hI 4 1
  have ec := bn_clI hb.1
  have ee : fX 4 1 = fM 0 9 := Int32.toInt_inj.mp h.1
  obtain ⟨n, en⟩ : ∃ z : Nat, z = (fX 4 1).toNatClampNeg := ⟨_, rfl⟩
  rw [← en] at ec
  have X := xread (f := fX) (L := LX) (n := n) (by omega) (by omega)
  have km1 : (-1 : Int32).toInt = -1 := by decide
  have M := mwork (T := fX 5) (N := fM 8) (n := n) (x0 := -1) (x1 := fM 0 9) (g := fM) LM (by rw [← ee]; omega) (by omega) (Or.inl ⟨by omega, fun i hi => (h.2 i (by omega)).symm⟩) (fun _ _ => rfl)
  have W := mwork_W (-1) (fM 0 9) fM LM
  unfold sX11_law at e1; (repeat first | rw [spl_d] at e1 | rw [spl2_d] at e1)
  unfold sX12_law at e2
  rw [spl_d] at e2
  obtain ⟨o, eo⟩ : ∃ z : Int32 × sg_F, z = sX12_workOut (-1) (fM 0 9) fM LM := ⟨_, rfl⟩
  rw [← eo] at M W e2
  (repeat first | rw [spl_d] at e2 | rw [spl2_d] at e2)
  rw [show sg_up o.2 0 (sgu (o.2 0) 9 0) 0 15 = o.2 0 15 from by rw [sg_up_s, sgu_n (by decide)]] at e2
  obtain ⟨u, eu⟩ : ∃ z : Int32 × sg_F, z = sX5_isRead fX LX := ⟨_, rfl⟩
  rw [← eu] at X e1
  obtain ⟨r, er⟩ : ∃ z : pR, z = pLaw (fX 5) n := ⟨_, rfl⟩
  rw [← er] at X M
  cases hr : r.2.1 with
  | true =>
    obtain ⟨x1, x2, x3, x4, x5⟩ := X.1 hr
    obtain ⟨m1, m2⟩ := M.1 hr
    rw [if_pos (show (o.2 0 15).toInt < 0 from by omega)] at e2
    rw [x1, if_pos (show (1 : Int32).toInt = 1 from by decide)] at e1
    obtain ⟨a1, b1⟩ := Prod.mk.inj e1
    have k0 : (0 : Int32).toInt = 0 := by decide
    obtain ⟨c1, c2, c3, c4⟩ := mcopy LM 121 (fM 0 9) 0 (sg_up o.2 0 (sgu (o.2 0) 9 0)) (by omega) (by rw [← ee]; omega) (by rw [← ee]; omega) (by rw [← ee]; omega)
    rw [← e2] at c1 c2 c3 c4
    have c1 : r2 = 1 := c1
    refine ⟨by rw [a1, c1], Or.inl ⟨by rw [a1]; decide, n, Or.inr ⟨rfl, ?_, ?_, by omega, fun i hi => ?_, by rw [← er]; exact hr, by rw [← er]; exact x5, ?_, ?_⟩⟩⟩
    · rw [b1, bX_forgetAll _ _ 4 (by decide), x2]; decide
    · rw [show fM1 0 11 = fM 0 9 from c2, ← ee]; omega
    · rw [show fM1 7 i = _ from c4 i (by omega) (by rw [← ee]; omega), sg_up_n (by decide), W 6 i (Or.inl (by decide))]
      exact (h.2 i (by omega)).symm
    · rw [b1, bX_forgetAll _ _ 4 (by decide), ← er]; exact x3
    · rw [b1, bX_forgetAll _ _ 7 (by decide), ← er]; exact x4
  | false =>
    obtain ⟨x1, x5, x2, x3, x4⟩ := X.2 hr
    have m1 := M.2 hr
    rw [if_neg (show ¬ (o.2 0 15).toInt < 0 from by omega)] at e2
    rw [if_neg (show ¬ u.1.toInt = 1 from by omega)] at e1
    obtain ⟨a1, b1⟩ := Prod.mk.inj e1
    obtain ⟨a2, b2⟩ := Prod.mk.inj e2
    have k100 : (-100 : Int32).toInt = -100 := by decide
    have bt := bn_top (o.2 0 15)
    have e : (-100 - o.2 0 15).toInt = -100 - (o.2 0 15).toInt := (bn_subI (by omega) (by omega)).trans (by omega)
    refine ⟨Int32.toInt_inj.mp (by rw [a1, a2]; omega), Or.inr ⟨by rw [b1, x2], by rw [b1, x3], fun j => by rw [b1, x4], ?_, fun j => ?_⟩⟩
    · rw [b2, sg_up_s, sgu_n (by decide)]; exact W 0 11 (Or.inr (by decide))
    · rw [b2, sg_up_n (by decide)]; exact W 7 j (Or.inl (by decide))
theorem rLw.law {fX fX1 fM fM1 : sg_F} {LX LM : sg_L} {r1 r2 : Int32} (k : rLw fX fM) (h : rTape fX fM) (hI : sgI loX hiX fX) (e1 : (r1, fX1) = sX11_law fX LX) (e2 : (r2, fM1) = sX12_law fM LM) : r1 = r2 ∧ rLw fX1 fM1 := by
  obtain ⟨a, b⟩ := h.read hI e1 e2
  rcases b with ⟨-, n, b⟩ | ⟨b1, b2, b3, b4, b5⟩
  · exact ⟨a, true, fX 5, n, b⟩
  · exact ⟨a, k.fr b1 b2 b3 b4 b5⟩
/-! LOSSES on both sides -/
def ab (x : Int32) : Int32 := if (0 : Int32) ≤ x then x else 0 - x
theorem ab_I {x : Int32} (h : -2147483648 < x.toInt) : (0 ≤ x.toInt ∧ (ab x).toInt = x.toInt) ∨ (x.toInt < 0 ∧ (ab x).toInt = -x.toInt) := bn_absI h
theorem siz_ab {x : Int32} (h : -2147483648 < x.toInt) (f : sg_F) (L : sg_L) : sX12_sizeOf x f L = ab x := by
  refine Int32.toInt_inj.mp ?_
  have a := ab_I h
  unfold sX12_sizeOf; (repeat first | rw [spl_d] | rw [spl2_d])
  by_cases c : x.toInt < 0
  · have e : (-x).toInt = -x.toInt := bn_negI h
    rw [if_pos c]; omega
  · rw [if_neg c]; omega
/-- held within 0 .. 9999 -/
def lcl (x : Int32) : Int32 := if x.toInt < 0 then 0 else if 9999 < x.toInt then 9999 else x
/-- what a law, or none, gives: m: the numbers as the class has them -/
noncomputable def lsr (m : Nat → Int32) (hl : Bool) (T : Nat → Int32) (n : Nat) (s p : Nat) (k v : Int32) : Int32 := if hl = true then (pLaw T n).2.2.2 (vN v (m (8 * s + p)) (m (8 * s + 5)) k) else ab (v - m (8 * s + p)) * (if (m (8 * s + p)).toInt < v.toInt then m (8 * s + 3) else m (8 * s + 4)) * m (8 * s + 5)
noncomputable def lsv (m : Nat → Int32) (hl : Bool) (T : Nat → Int32) (n : Nat) (s p v : Int32) : Int32 := lcl (lsr m hl T n s.toNatClampNeg p.toNatClampNeg p v)
/-- the numbers are within what they may be -/
def mOk (m : Nat → Int32) : Prop := ∀ s : Nat, s < 8 → (∀ p : Nat, p < 3 → 0 ≤ (m (8 * s + p)).toInt ∧ (m (8 * s + p)).toInt ≤ 60) ∧ (0 ≤ (m (8 * s + 3)).toInt ∧ (m (8 * s + 3)).toInt ≤ 9) ∧ (0 ≤ (m (8 * s + 4)).toInt ∧ (m (8 * s + 4)).toInt ≤ 9) ∧ (0 ≤ (m (8 * s + 5)).toInt ∧ (m (8 * s + 5)).toInt ≤ 12) ∧ (0 ≤ (m (8 * s + 6)).toInt ∧ (m (8 * s + 6)).toInt ≤ 60) ∧ (0 ≤ (m (8 * s + 7)).toInt ∧ (m (8 * s + 7)).toInt ≤ 12)
/-- the class's law -/
def xLw (hl : Bool) (T : Nat → Int32) (n : Nat) (f : sg_F) : Prop := (hl = false ∧ (f 4 2).toInt = 0) ∨ (hl = true ∧ (f 4 2).toInt ≠ 0 ∧ (pLaw T n).2.1 = true ∧ (pLaw T n).2.2.1.length ≤ 121 ∧ (f 4 9).toInt = (pLaw T n).2.2.1.length ∧ trL (f 7) 0 (pLaw T n).2.2.1)
/-- the losses that are kept are right -/
def xLo (m : Nat → Int32) (S : Int) (hl : Bool) (T : Nat → Int32) (n : Nat) (g : Nat → Int32) : Prop := ∀ s p v : Int32, 0 ≤ s.toInt → s.toInt < S → 0 ≤ p.toInt → p.toInt ≤ 2 → 0 ≤ v.toInt → v.toInt ≤ 60 → (g (183 * s.toNatClampNeg + 61 * p.toNatClampNeg + v.toNatClampNeg)).toInt = -1 ∨ g (183 * s.toNatClampNeg + 61 * p.toNatClampNeg + v.toNatClampNeg) = lsv m hl T n s p v
def xCx (m : Nat → Int32) (S : Int) (hl : Bool) (T : Nat → Int32) (n : Nat) (f : sg_F) : Prop := f 2 = m ∧ (f 1 3).toInt = S ∧ xLw hl T n f ∧ xLo m S hl T n (f 9)
theorem xCx.fr {m : Nat → Int32} {S : Int} {hl : Bool} {T : Nat → Int32} {n : Nat} {f f1 : sg_F} (h : xCx m S hl T n f) (a1 : f1 1 = f 1) (a2 : f1 2 = f 2) (a4 : f1 4 = f 4) (a7 : f1 7 = f 7) (a9 : f1 9 = f 9) : xCx m S hl T n f1 := by
  unfold xCx xLw
  rw [a1, a2, a4, a7, a9]
  exact h
theorem lcl_X {x : Int32} : (if (0 : Int32) < (if x < (9999 : Int32) then x else 9999) then (if x < (9999 : Int32) then x else 9999) else 0) = lcl x := by
  refine Int32.toInt_inj.mp ?_
  have k0 : (0 : Int32).toInt = 0 := by decide
  have k9 : (9999 : Int32).toInt = 9999 := by decide
  have a := bn_minI x 9999
  have b := bn_maxI 0 (if x < (9999 : Int32) then x else 9999)
  unfold lcl
  by_cases c1 : x.toInt < 0
  · rw [if_pos c1]; omega
  rw [if_neg c1]
  by_cases c2 : 9999 < x.toInt
  · rw [if_pos c2]; omega
  · rw [if_neg c2]; omega
theorem lcl_id {x : Int32} (h : 0 ≤ x.toInt) (h1 : x.toInt ≤ 9999) : lcl x = x := by
  unfold lcl
  rw [if_neg (by omega), if_neg (by omega)]
theorem cellX {s p v : Int32} (hs : 0 ≤ s.toInt ∧ s.toInt ≤ 7) (hp : 0 ≤ p.toInt ∧ p.toInt ≤ 2) (hv : 0 ≤ v.toInt ∧ v.toInt ≤ 60) : (s * 183 + p * 61 + v).toNatClampNeg = 183 * s.toNatClampNeg + 61 * p.toNatClampNeg + v.toNatClampNeg := by
  have k1 : (183 : Int32).toInt = 183 := by decide
  have k2 : (61 : Int32).toInt = 61 := by decide
  have e1 : (s * 183).toInt = s.toInt * 183 := bn_mulI k1 (by omega) (by omega)
  have e2 : (p * 61).toInt = p.toInt * 61 := bn_mulI k2 (by omega) (by omega)
  have e3 : (s * 183 + p * 61).toInt = (s * 183).toInt + (p * 61).toInt := bn_addI (by omega) (by omega)
  have e4 : (s * 183 + p * 61 + v).toInt = (s * 183 + p * 61).toInt + v.toInt := bn_addI (by omega) (by omega)
  have c1 := bn_clI hs.1
  have c2 := bn_clI hp.1
  have c3 := bn_clI hv.1
  have c4 := bn_clI (x := s * 183 + p * 61 + v) (by omega)
  omega
theorem numX {s w : Int32} (hs : 0 ≤ s.toInt ∧ s.toInt ≤ 7) (hw : 0 ≤ w.toInt ∧ w.toInt ≤ 7) (f : sg_F) (L : sg_L) : sX0_numberOf s w f L = f 2 (8 * s.toNatClampNeg + w.toNatClampNeg) := by
  have k1 : (8 : Int32).toInt = 8 := by decide
  have e1 : (s * 8).toInt = s.toInt * 8 := bn_mulI k1 (by omega) (by omega)
  have e2 : (s * 8 + w).toInt = (s * 8).toInt + w.toInt := bn_addI (by omega) (by omega)
  have c1 := bn_clI hs.1
  have c2 := bn_clI hw.1
  have c4 := bn_clI (x := s * 8 + w) (by omega)
  unfold sX0_numberOf; (repeat first | rw [spl_d] | rw [spl2_d])
  rw [show (s * 8 + w).toNatClampNeg = 8 * s.toNatClampNeg + w.toNatClampNeg from by omega]
theorem numM {s w : Int32} (hs : 0 ≤ s.toInt ∧ s.toInt ≤ 7) (hw : 0 ≤ w.toInt ∧ w.toInt ≤ 7) (f : sg_F) (L : sg_L) : sX12_numberOf s w f L = f 1 (8 * w.toNatClampNeg + s.toNatClampNeg) := by
  have k1 : (8 : Int32).toInt = 8 := by decide
  have e1 : (8 * w).toInt = 8 * w.toInt := bn_mulJ k1 (by omega) (by omega)
  have e2 : (8 * w + s).toInt = (8 * w).toInt + s.toInt := bn_addI (by omega) (by omega)
  have c1 := bn_clI hs.1
  have c2 := bn_clI hw.1
  have c4 := bn_clI (x := 8 * w + s) (by omega)
  unfold sX12_numberOf; (repeat first | rw [spl_d] | rw [spl2_d])
  rw [show (8 * w + s).toNatClampNeg = 8 * w.toNatClampNeg + s.toNatClampNeg from by omega]
/-- the class's loss of one who sits -/
theorem xloss {m : Nat → Int32} {S : Int} {hl : Bool} {T : Nat → Int32} {n : Nat} {s p v : Int32} {f : sg_F} (h : xCx m S hl T n f) (hS : S ≤ 8) (hs : 0 ≤ s.toInt ∧ s.toInt < S) (hp : 0 ≤ p.toInt ∧ p.toInt ≤ 2) (hv : 0 ≤ v.toInt ∧ v.toInt ≤ 60) (L : sg_L) : (sX0_lossAt s p v f L).1 = lsv m hl T n s p v ∧ xCx m S hl T n (sX0_lossAt s p v f L).2 ∧ ∀ q : Nat, q ≠ 8 → q ≠ 9 → (sX0_lossAt s p v f L).2 q = f q := by
  obtain ⟨h1, h2, h3, h4⟩ := h
  have hs7 : 0 ≤ s.toInt ∧ s.toInt ≤ 7 := by omega
  have ci := cellX hs7 hp hv
  have hc := h4 s p v hs.1 hs.2 hp.1 hp.2 hv.1 hv.2
  have k3 : (3 : Int32).toInt = 3 := by decide
  have k4 : (4 : Int32).toInt = 4 := by decide
  have k5 : (5 : Int32).toInt = 5 := by decide
  obtain ⟨j, ej⟩ : ∃ z : Nat, z = 183 * s.toNatClampNeg + 61 * p.toNatClampNeg + v.toNatClampNeg := ⟨_, rfl⟩
  rw [← ej] at ci hc
  -- what is put keeps the rest right
  have put : ∀ (x : Int32), x = lsv m hl T n s p v → xLo m S hl T n (sgu (f 9) j x) := by
    intro x ex s' p' v' a1 a2 a3 a4 a5 a6
    by_cases z : 183 * s'.toNatClampNeg + 61 * p'.toNatClampNeg + v'.toNatClampNeg = j
    · right
      have b1 := bn_clI a1
      have b2 := bn_clI a3
      have b3 := bn_clI a5
      have b4 := bn_clI hs.1
      have b5 := bn_clI hp.1
      have b6 := bn_clI hv.1
      have es : s' = s := Int32.toInt_inj.mp (by omega)
      have ep : p' = p := Int32.toInt_inj.mp (by omega)
      have ev : v' = v := Int32.toInt_inj.mp (by omega)
      rw [z, sgu_s, ex, es, ep, ev]
    · rw [sgu_n z]; exact h4 s' p' v' a1 a2 a3 a4 a5 a6
  have fin : ∀ (g : sg_F) (x : Int32), x = lsv m hl T n s p v → (∀ q : Nat, q ≠ 8 → g q = f q) → (x = lsv m hl T n s p v ∧ xCx m S hl T n (sg_up g 9 (sgu (g 9) j x)) ∧ ∀ q : Nat, q ≠ 8 → q ≠ 9 → sg_up g 9 (sgu (g 9) j x) q = f q) := by
    intro g x ex hg
    refine ⟨ex, ⟨?_, ?_, ?_, ?_⟩, fun q a b => by rw [sg_up_n b, hg q a]⟩
    · rw [sg_up_n (by decide), hg 2 (by decide)]; exact h1
    · rw [sg_up_n (by decide), hg 1 (by decide)]; exact h2
    · unfold xLw
      rw [sg_up_n (show (4 : Nat) ≠ 9 by decide), sg_up_n (show (7 : Nat) ≠ 9 by decide), hg 4 (by decide), hg 7 (by decide)]; exact h3
    · rw [sg_up_s, hg 9 (by decide)]; exact put x ex
  unfold sX0_lossAt; (repeat first | rw [spl_d] | rw [spl2_d])
  rw [if_neg (show ¬ s.toInt = -1 from by omega), ci]
  by_cases c : (f 9 j).toInt = -1
  case neg =>
    rw [if_neg c]
    exact ⟨hc.resolve_left c, ⟨h1, h2, h3, h4⟩, fun _ _ _ => rfl⟩
  rw [if_pos c, numX hs7 ⟨hp.1, by omega⟩, numX (w := 5) hs7 (by rw [k5]; decide), numX (w := 3) hs7 (by rw [k3]; decide), numX (w := 4) hs7 (by rw [k4]; decide), h1, show (3 : Int32).toNatClampNeg = 3 from by decide, show (4 : Int32).toNatClampNeg = 4 from by decide, show (5 : Int32).toNatClampNeg = 5 from by decide]
  rcases h3 with ⟨e, z⟩ | ⟨e, z, w1, w2, w3, w4⟩
  · have el : ∀ r : Int32, r = (if (m (8 * s.toNatClampNeg + p.toNatClampNeg)).toInt < v.toInt then m (8 * s.toNatClampNeg + 3) else m (8 * s.toNatClampNeg + 4)) → lcl (ab (v - m (8 * s.toNatClampNeg + p.toNatClampNeg)) * r * m (8 * s.toNatClampNeg + 5)) = lsv m hl T n s p v := by
      intro r er
      unfold lsv lsr
      rw [e, if_neg Bool.false_ne_true, er]
    by_cases d : (m (8 * s.toNatClampNeg + p.toNatClampNeg)).toInt < v.toInt
    · rw [if_pos d, if_pos z, lcl_X]
      exact fin f _ (el _ (by rw [if_pos d])) (fun _ _ => rfl)
    · rw [if_neg d, if_pos z, lcl_X]
      exact fin f _ (el _ (by rw [if_neg d])) (fun _ _ => rfl)
  · have ev := vvalue (T := T) (n := n) v (m (8 * s.toNatClampNeg + p.toNatClampNeg)) (m (8 * s.toNatClampNeg + 5)) p f L w1 w4 w3 w2
    have el : lcl (sX5_valueOf v (m (8 * s.toNatClampNeg + p.toNatClampNeg)) (m (8 * s.toNatClampNeg + 5)) p f L).1 = lsv m hl T n s p v := by
      unfold lsv lsr
      rw [e, if_pos rfl, ev]
    have ek : ∀ q : Nat, q ≠ 8 → (sX5_valueOf v (m (8 * s.toNatClampNeg + p.toNatClampNeg)) (m (8 * s.toNatClampNeg + 5)) p f L).2 q = f q := fun q hq => by
      unfold sX5_valueOf
      exact vvalue_K _ _ _ _ L _ _ _ _ f q hq
    by_cases d : (m (8 * s.toNatClampNeg + p.toNatClampNeg)).toInt < v.toInt
    · rw [if_pos d, if_neg z, lcl_X]
      exact fin _ _ el ek
    · rw [if_neg d, if_neg z, lcl_X]
      exact fin _ _ el ek
/-- the reference's chair: its numbers, its law -/
def mCx (m : Nat → Int32) (hl : Bool) (T : Nat → Int32) (n : Nat) (g : sg_F) : Prop := (∀ s w : Nat, s < 8 → w < 8 → g 1 (8 * w + s) = m (8 * s + w)) ∧ (∀ p : Nat, 64 ≤ p → p < 71 → g 1 p = m p) ∧ ((hl = false ∧ (g 0 11).toInt < 0) ∨ (hl = true ∧ (g 0 11).toInt = n ∧ n ≤ 120 ∧ (∀ i : Nat, i < n → g 7 i = T i) ∧ (pLaw T n).2.1 = true))
/-- all but what a loss uses is as it was -/
def mX (g g1 : sg_F) : Prop := ∀ k j : Nat, k ≠ 8 → (k ≠ 0 ∨ (j ≠ 12 ∧ j ≠ 13 ∧ j ≠ 14 ∧ j ≠ 15 ∧ j ≠ 16)) → g1 k j = g k j
theorem mX.rf {g : sg_F} : mX g g := fun _ _ _ _ => rfl
theorem mX.tr {g g1 g2 : sg_F} (h : mX g g1) (h1 : mX g1 g2) : mX g g2 := fun k j a b => (h1 k j a b).trans (h k j a b)
theorem mW.X {g g1 : sg_F} (h : mW g g1) : mX g g1 := fun k j _ b => h k j b
theorem mX.p8 {g : sg_F} {x : Nat → Int32} : mX g (sg_up g 8 x) := fun k j hk _ => by rw [sg_up_n hk]
theorem mCx.fr {m : Nat → Int32} {hl : Bool} {T : Nat → Int32} {n : Nat} {g g1 : sg_F} (h : mCx m hl T n g) (a1 : ∀ j : Nat, g1 1 j = g 1 j) (a7 : ∀ j : Nat, g1 7 j = g 7 j) (a0 : g1 0 11 = g 0 11) : mCx m hl T n g1 := by
  unfold mCx
  rw [show g1 1 = g 1 from funext a1, show g1 7 = g 7 from funext a7, a0]
  exact h
theorem mCx.X {m : Nat → Int32} {hl : Bool} {T : Nat → Int32} {n : Nat} {g g1 : sg_F} (h : mCx m hl T n g) (k : mX g g1) : mCx m hl T n g1 := h.fr (fun j => k 1 j (by decide) (Or.inl (by decide))) (fun j => k 7 j (by decide) (Or.inl (by decide))) (k 0 11 (by decide) (Or.inr (by decide)))
theorem ab_le {v w : Int32} (hv : 0 ≤ v.toInt ∧ v.toInt ≤ 60) (hw : 0 ≤ w.toInt ∧ w.toInt ≤ 60) : (v - w).toInt = v.toInt - w.toInt ∧ 0 ≤ (ab (v - w)).toInt ∧ (ab (v - w)).toInt ≤ 60 ∧ ((0 ≤ v.toInt - w.toInt ∧ (ab (v - w)).toInt = v.toInt - w.toInt) ∨ (v.toInt - w.toInt < 0 ∧ (ab (v - w)).toInt = w.toInt - v.toInt)) := by
  have e : (v - w).toInt = v.toInt - w.toInt := bn_subI (by omega) (by omega)
  have a := ab_I (x := v - w) (by omega)
  exact ⟨e, by omega, by omega, by omega⟩
theorem mul_le {a b : Int32} {x y : Int} (ha : 0 ≤ a.toInt ∧ a.toInt ≤ x) (hb : 0 ≤ b.toInt ∧ b.toInt ≤ y) (h : x * y ≤ 2147483647) : (a * b).toInt = a.toInt * b.toInt ∧ 0 ≤ (a * b).toInt ∧ (a * b).toInt ≤ x * y := by
  have p1 : 0 ≤ a.toInt * b.toInt := Int.mul_nonneg ha.1 hb.1
  have p2 : a.toInt * b.toInt ≤ x * y := Int.mul_le_mul ha.2 hb.2 hb.1 (Int.le_trans ha.1 ha.2)
  have e : (a * b).toInt = a.toInt * b.toInt := bn_mulI rfl (by omega) (by omega)
  exact ⟨e, by omega, by omega⟩
theorem mloss {m : Nat → Int32} {hl : Bool} {T : Nat → Int32} {n : Nat} {s p v : Int32} {g : sg_F} (h : mCx m hl T n g) (hm : mOk m) (hs : 0 ≤ s.toInt ∧ s.toInt ≤ 7) (hp : 0 ≤ p.toInt ∧ p.toInt ≤ 2) (hv : 0 ≤ v.toInt ∧ v.toInt ≤ 60) (L : sg_L) : (sX12_lossOf s p v g L).1 = lsv m hl T n s p v ∧ mX g (sX12_lossOf s p v g L).2 := by
  obtain ⟨h1, h2, h3⟩ := h
  have k3 : (3 : Int32).toInt = 3 := by decide
  have k4 : (4 : Int32).toInt = 4 := by decide
  have k5 : (5 : Int32).toInt = 5 := by decide
  have cs := bn_clI hs.1
  have cp := bn_clI hp.1
  obtain ⟨b1, b2, b3, b4, -, -⟩ := hm s.toNatClampNeg (by omega)
  have w1 := b1 p.toNatClampNeg (by omega)
  have g8 : ∀ (g' : sg_F), g' 1 = g 1 → ∀ w : Nat, w < 8 → g' 1 (8 * w + s.toNatClampNeg) = m (8 * s.toNatClampNeg + w) := fun g' e w hw => by rw [e]; exact h1 _ _ (by omega) hw
  obtain ⟨W, eW⟩ : ∃ z : Int32, z = m (8 * s.toNatClampNeg + p.toNatClampNeg) := ⟨_, rfl⟩
  obtain ⟨a1, a2, a3, a4⟩ := ab_le hv (w := W) (by rw [eW]; exact w1)
  unfold sX12_lossOf
  rw [spl_d, numM hs ⟨hp.1, by omega⟩, h1 _ _ (by omega) (by omega), ← eW]
  (repeat first | rw [spl_d] | rw [spl2_d])
  rw [siz_ab (x := v - W) (by omega)]
  rcases h3 with ⟨e, z⟩ | ⟨e, z1, z2, z3, z4⟩
  · rw [if_pos z, numM (w := 3) hs (by rw [k3]; decide), numM (w := 4) hs (by rw [k4]; decide), numM (w := 5) hs (by rw [k5]; decide), show (3 : Int32).toNatClampNeg = 3 from by decide, show (4 : Int32).toNatClampNeg = 4 from by decide, show (5 : Int32).toNatClampNeg = 5 from by decide, h1 _ 3 (by omega) (by decide), h1 _ 4 (by omega) (by decide), h1 _ 5 (by omega) (by decide)]
    have el : ∀ r : Int32, (0 ≤ r.toInt ∧ r.toInt ≤ 9) → r = (if W.toInt < v.toInt then m (8 * s.toNatClampNeg + 3) else m (8 * s.toNatClampNeg + 4)) → ab (v - W) * r * m (8 * s.toNatClampNeg + 5) = lsv m hl T n s p v := by
      intro r hr er
      obtain ⟨q1, q2, q3⟩ := mul_le (x := 60) (y := 9) ⟨a2, a3⟩ hr (by decide)
      obtain ⟨q4, q5, q6⟩ := mul_le (a := ab (v - W) * r) (b := m (8 * s.toNatClampNeg + 5)) (x := 540) (y := 12) ⟨q2, by omega⟩ b4 (by decide)
      unfold lsv lsr
      rw [e, if_neg Bool.false_ne_true, ← eW, ← er, lcl_id q5 (by omega)]
    by_cases d : W.toInt < v.toInt
    · rw [if_pos d]
      exact ⟨el _ b2 (by rw [if_pos d]), mX.rf⟩
    · rw [if_neg d]
      exact ⟨el _ b3 (by rw [if_neg d]), mX.rf⟩
  · rw [if_neg (show ¬ (g 0 11).toInt < 0 from by omega)]
    -- the names' values are told, then the text is worked out
    have go : ∀ (u : Int32) (g6 : sg_F), u = (if W.toInt < v.toInt then 1 else 0) → (∀ k : Nat, k ≠ 8 → g6 k = g k) → g6 8 0 = ab (v - W) → g6 8 1 = u → g6 8 2 = v → g6 8 3 = W → g6 8 4 = m (8 * s.toNatClampNeg + 5) → g6 8 5 = p → ((if (sX12_workOut 0 (g 0 11) g6 L).1.toInt < 0 then ((0 : Int32), (sX12_workOut 0 (g 0 11) g6 L).2) else if 9999 < (sX12_workOut 0 (g 0 11) g6 L).1.toInt then (9999, (sX12_workOut 0 (g 0 11) g6 L).2) else ((sX12_workOut 0 (g 0 11) g6 L).1, (sX12_workOut 0 (g 0 11) g6 L).2)).1 = lsv m hl T n s p v ∧ mX g (if (sX12_workOut 0 (g 0 11) g6 L).1.toInt < 0 then ((0 : Int32), (sX12_workOut 0 (g 0 11) g6 L).2) else if 9999 < (sX12_workOut 0 (g 0 11) g6 L).1.toInt then (9999, (sX12_workOut 0 (g 0 11) g6 L).2) else ((sX12_workOut 0 (g 0 11) g6 L).1, (sX12_workOut 0 (g 0 11) g6 L).2)).2) := by
      intro u g6 eu gk n0 n1 n2 n3 n4 n5
      have M := mwork (T := T) (N := vN v W (m (8 * s.toNatClampNeg + 5)) p) (n := n) (x0 := 0) (x1 := g 0 11) (g := g6) L z1 z2 (Or.inr ⟨by decide, fun i hi => by rw [gk 7 (by decide)]; exact z3 i hi⟩) (by
        intro i hi
        rcases (show i = 0 ∨ i = 1 ∨ i = 2 ∨ i = 3 ∨ i = 4 ∨ i = 5 from by omega) with rfl | rfl | rfl | rfl | rfl | rfl
        · exact n0
        · rw [n1, eu]; rfl
        · exact n2
        · exact n3
        · exact n4
        · exact n5)
      have K := mwork_W 0 (g 0 11) g6 L
      obtain ⟨o, eo⟩ : ∃ z : Int32 × sg_F, z = sX12_workOut 0 (g 0 11) g6 L := ⟨_, rfl⟩
      rw [← eo] at M K ⊢
      have e1 : o.1 = lsr m hl T n s.toNatClampNeg p.toNatClampNeg p v := by
        unfold lsr
        rw [e, if_pos rfl, ← eW]
        exact (M.1 z4).1
      have fx : mX g o.2 := mX.tr (fun k j hk _ => by rw [gk k hk]) K.X
      unfold lsv lcl
      rw [← e1]
      by_cases d1 : o.1.toInt < 0
      · rw [if_pos d1, if_pos d1]; exact ⟨rfl, fx⟩
      rw [if_neg d1, if_neg d1]
      by_cases d2 : 9999 < o.1.toInt
      · rw [if_pos d2, if_pos d2]; exact ⟨rfl, fx⟩
      · rw [if_neg d2, if_neg d2]; exact ⟨rfl, fx⟩
    have c0 : (0 : Int32).toNatClampNeg = 0 := by decide
    have c1 : (1 : Int32).toNatClampNeg = 1 := by decide
    have c2 : (2 : Int32).toNatClampNeg = 2 := by decide
    have c3 : (3 : Int32).toNatClampNeg = 3 := by decide
    have c4 : (4 : Int32).toNatClampNeg = 4 := by decide
    have c5 : (5 : Int32).toNatClampNeg = 5 := by decide
    have nm : ∀ g' : sg_F, g' 1 = g 1 → sX12_numberOf s 5 g' L = m (8 * s.toNatClampNeg + 5) := fun g' e => by
      rw [numM (w := 5) hs (by rw [k5]; decide), c5]
      exact g8 g' e 5 (by decide)
    rw [c0, c1, c2, c3, c4, c5]
    by_cases d : W.toInt < v.toInt
    · rw [if_pos d, nm _ (by rw [sg_up_n (by decide), sg_up_n (by decide), sg_up_n (by decide), sg_up_n (by decide)])]
      refine go 1 _ (by rw [if_pos d]) (fun k hk => by rw [sg_up_n hk, sg_up_n hk, sg_up_n hk, sg_up_n hk, sg_up_n hk, sg_up_n hk]) rfl rfl rfl rfl rfl rfl
    · rw [if_neg d, nm _ (by rw [sg_up_n (by decide), sg_up_n (by decide), sg_up_n (by decide), sg_up_n (by decide)])]
      refine go 0 _ (by rw [if_neg d]) (fun k hk => by rw [sg_up_n hk, sg_up_n hk, sg_up_n hk, sg_up_n hk, sg_up_n hk, sg_up_n hk]) rfl rfl rfl rfl rfl rfl
/-! HABITS, a sitter who comes -/
def slp (a v : Int32) : Int32 := if (0 : Int32) < v - a then v - a else 0
def tvn (nr w v : Int32) : Int32 := if nr.toInt < (ab (v - w)).toInt then w else v
def mxc (c fe : Int32) : Int32 := if (0 : Int32) < c - fe then c - fe else 0
/-- the parts' numbers are within what they may be -/
def pOk (m : Nat → Int32) : Prop := ∀ p : Nat, 64 ≤ p → p < 71 → 0 ≤ (m p).toInt ∧ (m p).toInt ≤ 99
theorem adI {a p : Int32} {k j : Nat} (hk : a.toInt = k) (hk1 : k ≤ 100) (hp : p.toInt = j) (hj : j ≤ 100) : (a + p).toNatClampNeg = k + j := by
  have e : (a + p).toInt = a.toInt + p.toInt := bn_addI (by omega) (by omega)
  have c := bn_clI (x := a + p) (by omega)
  omega
theorem slpX {p : Int32} {k : Nat} (hp : p.toInt = k) (hk : k < 3) (v : Int32) (f : sg_F) (L : sg_L) : sX0_slipped p v f L = slp (f 2 (64 + k)) v := by
  unfold sX0_slipped slp; (repeat first | rw [spl_d] | rw [spl2_d])
  rw [adI (k := 64) (by decide) (by omega) hp (by omega)]
theorem slp_b {a v : Int32} (ha : 0 ≤ a.toInt ∧ a.toInt ≤ 99) (hv : 0 ≤ v.toInt ∧ v.toInt ≤ 60) : 0 ≤ (slp a v).toInt ∧ (slp a v).toInt ≤ 60 ∧ ((v - a).toInt < 0 ∧ slp a v = 0 ∨ 0 ≤ (v - a).toInt ∧ slp a v = v - a) := by
  have k0 : (0 : Int32).toInt = 0 := by decide
  have e : (v - a).toInt = v.toInt - a.toInt := bn_subI (by omega) (by omega)
  unfold slp
  by_cases c : (0 : Int32) < v - a
  · have d := bn_lt c
    rw [if_pos c]
    exact ⟨by omega, by omega, Or.inr ⟨by omega, rfl⟩⟩
  · have d := bn_nlt c
    rw [if_neg c]
    refine ⟨by decide, by decide, ?_⟩
    by_cases z : (v - a).toInt < 0
    · exact Or.inl ⟨z, rfl⟩
    · exact Or.inr ⟨by omega, Int32.toInt_inj.mp (by omega)⟩
theorem slpM {p : Int32} {k : Nat} (hp : p.toInt = k) (hk : k < 3) {v : Int32} {g : sg_F} (ha : 0 ≤ (g 1 (64 + k)).toInt ∧ (g 1 (64 + k)).toInt ≤ 99) (hv : 0 ≤ v.toInt ∧ v.toInt ≤ 60) (L : sg_L) : sX12_slipped p v g L = slp (g 1 (64 + k)) v := by
  unfold sX12_slipped; (repeat first | rw [spl_d] | rw [spl2_d])
  rw [adI (k := 64) (by decide) (by omega) hp (by omega)]
  obtain ⟨-, -, h⟩ := slp_b ha hv
  rcases h with ⟨a, b⟩ | ⟨a, b⟩
  · rw [if_pos a, b]
  · rw [if_neg (by omega), b]
theorem tvn_b {nr w v : Int32} (hw : 0 ≤ w.toInt ∧ w.toInt ≤ 60) (hv : 0 ≤ v.toInt ∧ v.toInt ≤ 60) : 0 ≤ (tvn nr w v).toInt ∧ (tvn nr w v).toInt ≤ 60 := by
  unfold tvn
  by_cases c : nr.toInt < (ab (v - w)).toInt
  · rw [if_pos c]; exact hw
  · rw [if_neg c]; exact hv
theorem ab_sw {v w : Int32} (hv : 0 ≤ v.toInt ∧ v.toInt ≤ 60) (hw : 0 ≤ w.toInt ∧ w.toInt ≤ 60) : ab (w - v) = ab (v - w) := by
  have a := ab_le hv hw
  have b := ab_le hw hv
  exact Int32.toInt_inj.mp (by omega)
theorem ab_0 (v : Int32) : ab (v - v) = 0 := by
  have e : v - v = 0 := by rw [Int32.sub_self]
  rw [e]; decide
/-- turning a part -/
theorem xturn {y : Int32} {p : Nat} (ey : y.toInt = p) (hp : p < 3) (v1 : Int32) (f : sg_F) (L : sg_L) : ∃ g : sg_F, sX4_turnTo y v1 f L = (ab (v1 - f 14 p) * f 2 (67 + p), g) ∧ g 14 = sgu (f 14) p v1 ∧ g 15 = sgu (f 15) p (f 15 p + ab (v1 - f 14 p)) ∧ g 13 6 = f 13 6 + ab (v1 - f 14 p) * f 2 (67 + p) ∧ (∀ j : Nat, j ≠ 6 → g 13 j = f 13 j) ∧ ∀ q : Nat, q ≠ 13 → q ≠ 14 → q ≠ 15 → g q = f q := by
  have cy := bn_clI (x := y) (by omega)
  have ep : y.toNatClampNeg = p := by omega
  unfold sX4_turnTo sX0_priceOf; (repeat first | rw [spl_d] | rw [spl2_d])
  rw [adI (k := 67) (by decide) (by omega) ey (by omega), ep]
  refine ⟨_, rfl, ?_, ?_, ?_, fun j hj => ?_, fun q h1 h2 h3 => ?_⟩
  · rw [sg_up_s, sg_up_n (show (14 : Nat) ≠ 13 by decide), sg_up_n (show (14 : Nat) ≠ 15 by decide)]
  · rw [sg_up_n (show (15 : Nat) ≠ 14 by decide), sg_up_n (show (15 : Nat) ≠ 13 by decide), sg_up_s]; rfl
  · rw [sg_up_n (show (13 : Nat) ≠ 14 by decide), sg_up_s, sgu_s, sg_up_n (show (13 : Nat) ≠ 15 by decide)]; rfl
  · rw [sg_up_n (show (13 : Nat) ≠ 14 by decide), sg_up_s, sgu_n hj, sg_up_n (show (13 : Nat) ≠ 15 by decide)]
  · rw [sg_up_n h2, sg_up_n h1, sg_up_n h3]
theorem xtvn {s y : Int32} {p : Nat} (hs : 0 ≤ s.toInt ∧ s.toInt ≤ 7) (ey : y.toInt = p) (hp : p < 3) (v nr : Int32) (f : sg_F) (L : sg_L) : sX0_turned s y v nr f L = tvn nr (f 2 (8 * s.toNatClampNeg + p)) v := by
  have cy := bn_clI (x := y) (by omega)
  unfold sX0_turned; (repeat first | rw [spl_d] | rw [spl2_d])
  rw [numX hs ⟨by omega, by omega⟩, show y.toNatClampNeg = p from by omega]
  rfl
/-- one part of a sitter's coming -/
theorem xcm1 {m : Nat → Int32} {S : Int} {hl : Bool} {T : Nat → Int32} {n : Nat} {s y nr : Int32} {p : Nat} {f : sg_F} (h : xCx m S hl T n f) (hS : S ≤ 8) (hm : mOk m) (hs : 0 ≤ s.toInt ∧ s.toInt < S) (ey : y.toInt = p) (hp : p < 3) (hv : 0 ≤ (f 14 p).toInt ∧ (f 14 p).toInt ≤ 60) (k : Nat) (L : sg_L) : ∃ f1 : sg_F, sX4_comes_l28 s (k + 1) nr y f L = sX4_comes_l28 s k nr (y + 1) f1 L ∧ xCx m S hl T n f1 ∧ (∀ q : Nat, q ≠ 8 → q ≠ 9 → q ≠ 13 → q ≠ 14 → q ≠ 15 → q ≠ 16 → f1 q = f q) ∧ (∀ j : Nat, j ≠ 5 → j ≠ 6 → f1 13 j = f 13 j) ∧ f1 14 = sgu (f 14) p (tvn nr (m (8 * s.toNatClampNeg + p)) (f 14 p)) ∧ f1 15 = sgu (f 15) p (f 15 p + ab (tvn nr (m (8 * s.toNatClampNeg + p)) (f 14 p) - f 14 p)) ∧ f1 16 = sgu (f 16) s.toNatClampNeg (f 16 s.toNatClampNeg + mxc (ab (tvn nr (m (8 * s.toNatClampNeg + p)) (f 14 p) - f 14 p) * m (67 + p)) (m 70)) ∧ f1 13 5 = f 13 5 + lsv m hl T n s y (tvn nr (m (8 * s.toNatClampNeg + p)) (f 14 p)) ∧ f1 13 6 = f 13 6 + ab (tvn nr (m (8 * s.toNatClampNeg + p)) (f 14 p) - f 14 p) * m (67 + p) + lsv m hl T n s y (tvn nr (m (8 * s.toNatClampNeg + p)) (f 14 p)) := by
  have hs7 : 0 ≤ s.toInt ∧ s.toInt ≤ 7 := by omega
  have cs := bn_clI hs.1
  have cy := bn_clI (x := y) (by omega)
  have ep : y.toNatClampNeg = p := by omega
  have e9 : sX4_comes_l28 s (k + 1) nr y f L = sX4_comes_h28 s (sX4_comes_l28 s k) nr y f L := rfl
  rw [e9]
  unfold sX4_comes_h28
  rw [if_pos (show y.toInt < 3 from by omega), spl_d, ep, xtvn hs7 ey hp, h.1, spl_d]
  obtain ⟨t, et⟩ : ∃ z : Int32, z = tvn nr (m (8 * s.toNatClampNeg + p)) (f 14 p) := ⟨_, rfl⟩
  rw [← et]
  have bw := (hm s.toNatClampNeg (by omega)).1 p hp
  have bt : 0 ≤ t.toInt ∧ t.toInt ≤ 60 := by rw [et]; exact tvn_b bw hv
  obtain ⟨g, g0, g1, g2, g3, g4, g5⟩ := xturn ey hp t f L
  rw [g0, h.1] at *
  unfold sX0_fetch
  rw [spl2_d]
  dsimp only
  rw [spl_d, spl_d, spl_d, spl_d, spl_d, spl_d, spl_d, spl_d]
  have q2 : g 2 = m := by rw [g5 2 (by decide) (by decide) (by decide)]; exact h.1
  have q16 : g 16 = f 16 := g5 16 (by decide) (by decide) (by decide)
  rw [show (70 : Int32).toNatClampNeg = 70 from by decide, q2, q16]
  obtain ⟨g6, e6⟩ : ∃ z : sg_F, z = sg_up g 16 (sgu (f 16) s.toNatClampNeg (f 16 s.toNatClampNeg + (if (0 : Int32) < ab (t - f 14 p) * m (67 + p) - m 70 then ab (t - f 14 p) * m (67 + p) - m 70 else 0))) := ⟨_, rfl⟩
  rw [← e6]
  have r14 : g6 14 p = t := by rw [e6, sg_up_n (by decide), g1, sgu_s]
  have c6 : xCx m S hl T n g6 := h.fr (by rw [e6, sg_up_n (by decide), g5 1 (by decide) (by decide) (by decide)]) (by rw [e6, sg_up_n (by decide), g5 2 (by decide) (by decide) (by decide)]) (by rw [e6, sg_up_n (by decide), g5 4 (by decide) (by decide) (by decide)]) (by rw [e6, sg_up_n (by decide), g5 7 (by decide) (by decide) (by decide)]) (by rw [e6, sg_up_n (by decide), g5 9 (by decide) (by decide) (by decide)])
  rw [r14]
  obtain ⟨l1, l2, l3⟩ := xloss c6 hS hs (p := y) ⟨by omega, by omega⟩ bt L
  obtain ⟨o, eo⟩ : ∃ z : Int32 × sg_F, z = sX0_lossAt s y t g6 L := ⟨_, rfl⟩
  rw [← eo] at l1 l2 l3 ⊢
  rw [spl2_d, spl_d, spl_d, spl_d, spl_d, spl_d, spl_d, spl_d, l1]
  obtain ⟨w, ew⟩ : ∃ z : Int32, z = lsv m hl T n s y t := ⟨_, rfl⟩
  rw [← ew]
  have o13 : o.2 13 = g 13 := by rw [l3 13 (by decide) (by decide), e6, sg_up_n (by decide)]
  refine ⟨_, rfl, ?_, fun q a1 a2 a3 a4 a5 a6 => ?_, fun j a1 a2 => ?_, ?_, ?_, ?_, ?_, ?_⟩
  · exact l2.fr (by rw [sg_up_n (by decide), sg_up_n (by decide)]) (by rw [sg_up_n (by decide), sg_up_n (by decide)]) (by rw [sg_up_n (by decide), sg_up_n (by decide)]) (by rw [sg_up_n (by decide), sg_up_n (by decide)]) (by rw [sg_up_n (by decide), sg_up_n (by decide)])
  · rw [sg_up_n a3, sg_up_n a3, l3 q a1 a2, e6, sg_up_n a6, g5 q a3 a4 a5]
  · rw [sg_up_s, sgu_n a2, sg_up_s, sgu_n a1, o13, g4 j a2]
  · rw [sg_up_n (show (14 : Nat) ≠ 13 by decide), sg_up_n (show (14 : Nat) ≠ 13 by decide), l3 14 (by decide) (by decide), e6, sg_up_n (by decide), g1]
  · rw [sg_up_n (show (15 : Nat) ≠ 13 by decide), sg_up_n (show (15 : Nat) ≠ 13 by decide), l3 15 (by decide) (by decide), e6, sg_up_n (by decide), g2]
  · rw [sg_up_n (show (16 : Nat) ≠ 13 by decide), sg_up_n (show (16 : Nat) ≠ 13 by decide), l3 16 (by decide) (by decide), e6, sg_up_s]
    rfl
  · rw [sg_up_s, sgu_n (show (5 : Nat) ≠ 6 by decide), sg_up_s, sgu_s, o13, g4 5 (by decide)]
  · rw [sg_up_s, sgu_s, sg_up_s, sgu_n (show (6 : Nat) ≠ 5 by decide), o13, g3]
/-- how a sitter's coming changes the class -/
def xCm (m : Nat → Int32) (hl : Bool) (T : Nat → Int32) (n : Nat) (s nr : Int32) (f f1 : sg_F) : Prop := (∀ q : Nat, q ≠ 8 → q ≠ 9 → q ≠ 13 → q ≠ 14 → q ≠ 15 → q ≠ 16 → f1 q = f q) ∧ (∀ j : Nat, j ≠ 5 → j ≠ 6 → f1 13 j = f 13 j) ∧ (∀ p : Nat, p < 3 → f1 14 p = tvn nr (m (8 * s.toNatClampNeg + p)) (f 14 p) ∧ f1 15 p = f 15 p + ab (tvn nr (m (8 * s.toNatClampNeg + p)) (f 14 p) - f 14 p)) ∧ f1 16 = sgu (f 16) s.toNatClampNeg (f 16 s.toNatClampNeg + mxc (ab (tvn nr (m (8 * s.toNatClampNeg + 0)) (f 14 0) - f 14 0) * m (67 + 0)) (m 70) + mxc (ab (tvn nr (m (8 * s.toNatClampNeg + 1)) (f 14 1) - f 14 1) * m (67 + 1)) (m 70) + mxc (ab (tvn nr (m (8 * s.toNatClampNeg + 2)) (f 14 2) - f 14 2) * m (67 + 2)) (m 70)) ∧ f1 13 5 = f 13 5 + lsv m hl T n s 0 (tvn nr (m (8 * s.toNatClampNeg + 0)) (f 14 0)) + lsv m hl T n s 1 (tvn nr (m (8 * s.toNatClampNeg + 1)) (f 14 1)) + lsv m hl T n s 2 (tvn nr (m (8 * s.toNatClampNeg + 2)) (f 14 2)) ∧ f1 13 6 = f 13 6 + ab (tvn nr (m (8 * s.toNatClampNeg + 0)) (f 14 0) - f 14 0) * m (67 + 0) + lsv m hl T n s 0 (tvn nr (m (8 * s.toNatClampNeg + 0)) (f 14 0)) + ab (tvn nr (m (8 * s.toNatClampNeg + 1)) (f 14 1) - f 14 1) * m (67 + 1) + lsv m hl T n s 1 (tvn nr (m (8 * s.toNatClampNeg + 1)) (f 14 1)) + ab (tvn nr (m (8 * s.toNatClampNeg + 2)) (f 14 2) - f 14 2) * m (67 + 2) + lsv m hl T n s 2 (tvn nr (m (8 * s.toNatClampNeg + 2)) (f 14 2))
theorem xcm {m : Nat → Int32} {S : Int} {hl : Bool} {T : Nat → Int32} {n : Nat} {s : Int32} {f : sg_F} (h : xCx m S hl T n f) (hS : S ≤ 8) (hm : mOk m) (hs : 0 ≤ s.toInt ∧ s.toInt < S) (hv : ∀ p : Nat, p < 3 → 0 ≤ (f 14 p).toInt ∧ (f 14 p).toInt ≤ 60) (L : sg_L) : xCx m S hl T n (sX4_comes s f L) ∧ xCm m hl T n s (if s.toInt = (f 13 7).toInt then f 13 8 else m (8 * s.toNatClampNeg + 6)) f (sX4_comes s f L) := by
  have k6 : (6 : Int32).toInt = 6 := by decide
  have e0 : sX4_comes s f L = sX4_comes_l28 s 4 (if s.toInt = (f 13 7).toInt then f 13 8 else m (8 * s.toNatClampNeg + 6)) 0 f L := by
    unfold sX4_comes; (repeat first | rw [spl_d] | rw [spl2_d])
    rw [numX (w := 6) (by omega) (by rw [k6]; decide), h.1, show (6 : Int32).toNatClampNeg = 6 from by decide]
    by_cases c : s.toInt = (f 13 7).toInt
    · rw [if_pos c, if_pos c]
    · rw [if_neg c, if_neg c]
  obtain ⟨nr, en⟩ : ∃ z : Int32, z = (if s.toInt = (f 13 7).toInt then f 13 8 else m (8 * s.toNatClampNeg + 6)) := ⟨_, rfl⟩
  rw [← en] at e0 ⊢
  have a1 : (0 : Int32) + 1 = 1 := by decide
  have a2 : (1 : Int32) + 1 = 2 := by decide
  have a3 : (2 : Int32) + 1 = 3 := by decide
  obtain ⟨f1, u1, u2, u3, u4, u5, u6, u7, u8, u9⟩ := xcm1 (nr := nr) (y := 0) (p := 0) h hS hm hs (by decide) (by decide) (hv 0 (by decide)) 3 L
  have v1 : f1 14 1 = f 14 1 := by rw [u5, sgu_n (by decide)]
  have v2 : f1 14 2 = f 14 2 := by rw [u5, sgu_n (by decide)]
  obtain ⟨f2, w1, w2, w3, w4, w5, w6, w7, w8, w9⟩ := xcm1 (nr := nr) (y := 1) (p := 1) u2 hS hm hs (by decide) (by decide) (by rw [v1]; exact hv 1 (by decide)) 2 L
  have v3 : f2 14 2 = f 14 2 := by rw [w5, sgu_n (by decide), v2]
  obtain ⟨f3, x1, x2, x3, x4, x5, x6, x7, x8, x9⟩ := xcm1 (nr := nr) (y := 2) (p := 2) w2 hS hm hs (by decide) (by decide) (by rw [v3]; exact hv 2 (by decide)) 1 L
  have e4 : sX4_comes_l28 s 1 nr 3 f3 L = f3 := by
    show sX4_comes_h28 s (sX4_comes_l28 s 0) nr 3 f3 L = f3
    unfold sX4_comes_h28
    rw [if_neg (by decide)]
  rw [v1] at w5 w6 w7 w8 w9
  rw [v3] at x5 x6 x7 x8 x9
  rw [e0, u1, a1, w1, a2, x1, a3, e4]
  refine ⟨x2, fun q b1 b2 b3 b4 b5 b6 => ?_, fun j b1 b2 => ?_, fun p hp => ?_, ?_, ?_, ?_⟩
  · rw [x3 q b1 b2 b3 b4 b5 b6, w3 q b1 b2 b3 b4 b5 b6, u3 q b1 b2 b3 b4 b5 b6]
  · rw [x4 j b1 b2, w4 j b1 b2, u4 j b1 b2]
  · rcases (show p = 0 ∨ p = 1 ∨ p = 2 from by omega) with rfl | rfl | rfl
    · refine ⟨?_, ?_⟩
      · rw [x5, sgu_n (by decide), w5, sgu_n (by decide), u5, sgu_s]
      · rw [x6, sgu_n (by decide), w6, sgu_n (by decide), u6, sgu_s]
    · refine ⟨?_, ?_⟩
      · rw [x5, sgu_n (by decide), w5, sgu_s]
      · rw [x6, sgu_n (by decide), w6, sgu_s, u6, sgu_n (by decide)]
    · refine ⟨?_, ?_⟩
      · rw [x5, sgu_s]
      · rw [x6, sgu_s, w6, sgu_n (by decide), u6, sgu_n (by decide)]
  · rw [x7, w7, u7, sgu_s, sgu_s]
    funext j
    by_cases z : j = s.toNatClampNeg
    · rw [z, sgu_s, sgu_s]
    · rw [sgu_n z, sgu_n z, sgu_n z, sgu_n z]
  · rw [x8, w8, u8]
  · rw [x9, w9, u9]
/-! the reference -/
def bt (k s : Int32) : Bool := decide (((k >>> (s &&& 31)) &&& 1).toInt = 1)
def mcs (b : Bool) (fe c : Int32) : Int32 := if b = true ∧ fe.toInt < c.toInt then fe else c
/-- all but what a week uses is as it was -/
def mH (g g1 : sg_F) : Prop := ∀ k j : Nat, k ≠ 8 → k ≠ 12 → k ≠ 13 → (k ≠ 0 ∨ (j ≠ 12 ∧ j ≠ 13 ∧ j ≠ 14 ∧ j ≠ 15 ∧ j ≠ 16 ∧ j ≠ 29 ∧ j ≠ 30 ∧ j ≠ 31)) → g1 k j = g k j
theorem mH.rf {g : sg_F} : mH g g := fun _ _ _ _ _ _ => rfl
theorem mH.tr {g g1 g2 : sg_F} (h : mH g g1) (h1 : mH g1 g2) : mH g g2 := fun k j a b c d => (h1 k j a b c d).trans (h k j a b c d)
theorem mX.H {g g1 : sg_F} (h : mX g g1) : mH g g1 := fun k j a _ _ d => h k j a (by omega)
theorem mH.put {g : sg_F} {j : Nat} {x : Int32} (hj : j = 29 ∨ j = 30 ∨ j = 31) : mH g (sg_up g 0 (sgu (g 0) j x)) := by
  intro k i _ _ _ hk
  by_cases c : k = 0
  · subst c
    rw [sg_up_s, sgu_n (by omega)]
  · rw [sg_up_n c]
theorem mH.p12 {g : sg_F} {x : Nat → Int32} : mH g (sg_up g 12 x) := fun k j _ hk _ _ => by rw [sg_up_n hk]
theorem mH.p13 {g : sg_F} {x : Nat → Int32} : mH g (sg_up g 13 x) := fun k j _ _ hk _ => by rw [sg_up_n hk]
theorem mCx.H {m : Nat → Int32} {hl : Bool} {T : Nat → Int32} {n : Nat} {g g1 : sg_F} (h : mCx m hl T n g) (k : mH g g1) : mCx m hl T n g1 := h.fr (fun j => k 1 j (by decide) (by decide) (by decide) (Or.inl (by decide))) (fun j => k 7 j (by decide) (by decide) (by decide) (Or.inl (by decide))) (k 0 11 (by decide) (by decide) (by decide) (Or.inr (by decide)))
/-- a turn's price, to the reference -/
def mpr (m : Nat → Int32) (g : sg_F) (p : Nat) : Int32 := if (g 0 23).toInt = 0 then m (67 + p) else m (67 + p) / 2
theorem mprM {m : Nat → Int32} {hl : Bool} {T : Nat → Int32} {n : Nat} {g : sg_F} {y : Int32} {p : Nat} (h : mCx m hl T n g) (ey : y.toInt = p) (hp : p < 3) (L : sg_L) : sX12_priceOf y g L = mpr m g p := by
  unfold sX12_priceOf mpr; (repeat first | rw [spl_d] | rw [spl2_d])
  rw [adI (k := 67) (by decide) (by omega) ey (by omega), h.2.1 (67 + p) (by omega) (by omega)]
theorem mpr_H {m : Nat → Int32} {g g1 : sg_F} {p : Nat} (k : mH g g1) : mpr m g1 p = mpr m g p := by
  unfold mpr
  rw [k 0 23 (by decide) (by decide) (by decide) (Or.inr (by decide))]
theorem isInM (k s : Int32) (f : sg_F) (L : sg_L) : sX12_isIn k s f L = if bt k s = true then 1 else 0 := by
  unfold sX12_isIn bt; (repeat first | rw [spl_d] | rw [spl2_d])
  by_cases c : ((k >>> (s &&& 31)) &&& 1).toInt = 1
  · rw [if_pos c, if_pos (decide_eq_true c)]
  · rw [if_neg c, if_neg (fun w => c (of_decide_eq_true w))]
/-- turning a part: b: a memory helps -/
theorem mturn {m : Nat → Int32} {hl : Bool} {T : Nat → Int32} {n : Nat} {g : sg_F} {y v1 s : Int32} {p : Nat} (h : mCx m hl T n g) (ey : y.toInt = p) (hp : p < 3) (hd : -2147483648 < (v1 - g 12 p).toInt) (L : sg_L) : (sX12_turnsTo y v1 s g L) 12 = sgu (g 12) p v1 ∧ (sX12_turnsTo y v1 s g L) 0 29 = g 0 29 + ab (v1 - g 12 p) ∧ (sX12_turnsTo y v1 s g L) 0 31 = g 0 31 + (if s.toInt < 0 then ab (v1 - g 12 p) * mpr m g p else mcs (bt (g 0 22) s) (m 70) (ab (v1 - g 12 p) * mpr m g p)) ∧ (sX12_turnsTo y v1 s g L) 0 30 = g 0 30 ∧ (sX12_turnsTo y v1 s g L) 13 = g 13 ∧ mH g (sX12_turnsTo y v1 s g L) := by
  have cy := bn_clI (x := y) (by omega)
  have ep : y.toNatClampNeg = p := by omega
  have c70 : (70 : Int32).toNatClampNeg = 70 := by decide
  unfold sX12_turnsTo; (repeat first | rw [spl_d] | rw [spl2_d])
  rw [ep, siz_ab hd, mprM h ey hp, c70]
  obtain ⟨a, ea⟩ : ∃ z : Int32, z = ab (v1 - g 12 p) := ⟨_, rfl⟩
  rw [← ea]
  obtain ⟨c, ec⟩ : ∃ z : Int32, z = a * mpr m g p := ⟨_, rfl⟩
  rw [← ec]
  -- the common end
  have fin : ∀ x : Int32, (sg_up (sg_up (sg_up g 0 (sgu (g 0) 29 (g 0 29 + a))) 0 (sgu (sg_up g 0 (sgu (g 0) 29 (g 0 29 + a)) 0) 31 (sg_up g 0 (sgu (g 0) 29 (g 0 29 + a)) 0 31 + x))) 12 (sgu (sg_up (sg_up g 0 (sgu (g 0) 29 (g 0 29 + a))) 0 (sgu (sg_up g 0 (sgu (g 0) 29 (g 0 29 + a)) 0) 31 (sg_up g 0 (sgu (g 0) 29 (g 0 29 + a)) 0 31 + x)) 12) p v1)) 12 = sgu (g 12) p v1 ∧ (sg_up (sg_up (sg_up g 0 (sgu (g 0) 29 (g 0 29 + a))) 0 (sgu (sg_up g 0 (sgu (g 0) 29 (g 0 29 + a)) 0) 31 (sg_up g 0 (sgu (g 0) 29 (g 0 29 + a)) 0 31 + x))) 12 (sgu (sg_up (sg_up g 0 (sgu (g 0) 29 (g 0 29 + a))) 0 (sgu (sg_up g 0 (sgu (g 0) 29 (g 0 29 + a)) 0) 31 (sg_up g 0 (sgu (g 0) 29 (g 0 29 + a)) 0 31 + x)) 12) p v1)) 0 29 = g 0 29 + a ∧ (sg_up (sg_up (sg_up g 0 (sgu (g 0) 29 (g 0 29 + a))) 0 (sgu (sg_up g 0 (sgu (g 0) 29 (g 0 29 + a)) 0) 31 (sg_up g 0 (sgu (g 0) 29 (g 0 29 + a)) 0 31 + x))) 12 (sgu (sg_up (sg_up g 0 (sgu (g 0) 29 (g 0 29 + a))) 0 (sgu (sg_up g 0 (sgu (g 0) 29 (g 0 29 + a)) 0) 31 (sg_up g 0 (sgu (g 0) 29 (g 0 29 + a)) 0 31 + x)) 12) p v1)) 0 31 = g 0 31 + x ∧ (sg_up (sg_up (sg_up g 0 (sgu (g 0) 29 (g 0 29 + a))) 0 (sgu (sg_up g 0 (sgu (g 0) 29 (g 0 29 + a)) 0) 31 (sg_up g 0 (sgu (g 0) 29 (g 0 29 + a)) 0 31 + x))) 12 (sgu (sg_up (sg_up g 0 (sgu (g 0) 29 (g 0 29 + a))) 0 (sgu (sg_up g 0 (sgu (g 0) 29 (g 0 29 + a)) 0) 31 (sg_up g 0 (sgu (g 0) 29 (g 0 29 + a)) 0 31 + x)) 12) p v1)) 0 30 = g 0 30 ∧ (sg_up (sg_up (sg_up g 0 (sgu (g 0) 29 (g 0 29 + a))) 0 (sgu (sg_up g 0 (sgu (g 0) 29 (g 0 29 + a)) 0) 31 (sg_up g 0 (sgu (g 0) 29 (g 0 29 + a)) 0 31 + x))) 12 (sgu (sg_up (sg_up g 0 (sgu (g 0) 29 (g 0 29 + a))) 0 (sgu (sg_up g 0 (sgu (g 0) 29 (g 0 29 + a)) 0) 31 (sg_up g 0 (sgu (g 0) 29 (g 0 29 + a)) 0 31 + x)) 12) p v1)) 13 = g 13 ∧ mH g (sg_up (sg_up (sg_up g 0 (sgu (g 0) 29 (g 0 29 + a))) 0 (sgu (sg_up g 0 (sgu (g 0) 29 (g 0 29 + a)) 0) 31 (sg_up g 0 (sgu (g 0) 29 (g 0 29 + a)) 0 31 + x))) 12 (sgu (sg_up (sg_up g 0 (sgu (g 0) 29 (g 0 29 + a))) 0 (sgu (sg_up g 0 (sgu (g 0) 29 (g 0 29 + a)) 0) 31 (sg_up g 0 (sgu (g 0) 29 (g 0 29 + a)) 0 31 + x)) 12) p v1)) := by
    intro x
    refine ⟨rfl, rfl, rfl, rfl, rfl, ?_⟩
    exact ((mH.put (Or.inl rfl)).tr (mH.put (Or.inr (Or.inr rfl)))).tr mH.p12
  by_cases c1 : s.toInt < 0
  · rw [if_pos c1, if_pos c1]
    exact fin c
  rw [if_neg c1, if_neg c1, isInM]
  have e22 : sg_up g 0 (sgu (g 0) 29 (g 0 29 + a)) 0 22 = g 0 22 := by rw [sg_up_s, sgu_n (by decide)]
  have e70 : sg_up g 0 (sgu (g 0) 29 (g 0 29 + a)) 1 70 = m 70 := by rw [sg_up_n (by decide)]; exact h.2.1 70 (by decide) (by decide)
  rw [e22, e70]
  have k1 : (1 : Int32).toInt = 1 := by decide
  have k0 : (0 : Int32).toInt = 0 := by decide
  unfold mcs
  by_cases c2 : bt (g 0 22) s = true
  · rw [if_pos c2, if_neg (show ¬ (1 : Int32).toInt = 0 from by decide)]
    by_cases c3 : (m 70).toInt < c.toInt
    · rw [if_pos c3, if_pos ⟨c2, c3⟩]
      exact fin (m 70)
    · rw [if_neg c3, if_neg (fun z => c3 z.2)]
      exact fin c
  · rw [if_neg c2, if_pos k0, if_neg (fun z => c2 z.1)]
    exact fin c
/-! HABITS, a week -/
theorem mcs_0 {b : Bool} {fe : Int32} (hf : 0 ≤ fe.toInt) : mcs b fe 0 = 0 := by
  have k0 : (0 : Int32).toInt = 0 := by decide
  unfold mcs
  rw [if_neg (fun z => by have := z.2; omega)]
theorem msl1 {y : Int32} {p : Nat} (ey : y.toInt = p) (hp : p < 3) : y.toNatClampNeg = p := by
  have := bn_clI (x := y) (by omega)
  omega
/-- the near of a sitter, to the reference -/
def mnr (m : Nat → Int32) (g : sg_F) (s : Int32) : Int32 := if s.toInt = (g 0 20).toInt then g 0 21 else m (8 * s.toNatClampNeg + 6)
/-- one part of a sitter's coming: the turn -/
theorem mcm1 {m : Nat → Int32} {hl : Bool} {T : Nat → Int32} {n : Nat} {g : sg_F} {s y : Int32} {p : Nat} (h : mCx m hl T n g) (hm : mOk m) (hq : pOk m) (hs : 0 ≤ s.toInt ∧ s.toInt ≤ 7) (ey : y.toInt = p) (hp : p < 3) (hv : 0 ≤ (g 12 p).toInt ∧ (g 12 p).toInt ≤ 60) (k : Nat) (L : sg_L) : ∃ g1 : sg_F, sX12_comes_l2 s (k + 1) y g L = sX12_comes_l2 s k (y + 1) g1 L ∧ mH g g1 ∧ g1 12 = sgu (g 12) p (tvn (mnr m g s) (m (8 * s.toNatClampNeg + p)) (g 12 p)) ∧ g1 0 29 = g 0 29 + ab (tvn (mnr m g s) (m (8 * s.toNatClampNeg + p)) (g 12 p) - g 12 p) ∧ g1 0 31 = g 0 31 + mcs (bt (g 0 22) s) (m 70) (ab (tvn (mnr m g s) (m (8 * s.toNatClampNeg + p)) (g 12 p) - g 12 p) * mpr m g p) ∧ g1 0 30 = g 0 30 ∧ g1 13 = g 13 := by
  have cs := bn_clI hs.1
  have ep := msl1 ey hp
  have k6 : (6 : Int32).toInt = 6 := by decide
  have bw := (hm s.toNatClampNeg (by omega)).1 p hp
  have e9 : sX12_comes_l2 s (k + 1) y g L = sX12_comes_h2 s (sX12_comes_l2 s k) y g L := rfl
  rw [e9]
  unfold sX12_comes_h2 sX12_nearBy sX12_comes_b40; (repeat first | rw [spl_d] | rw [spl2_d])
  rw [if_pos (show y.toInt < 3 from by omega), numM (w := y) hs ⟨by omega, by omega⟩, numM (w := 6) hs (by rw [k6]; decide), ep, h.1 _ p (by omega) (by omega), show (6 : Int32).toNatClampNeg = 6 from by decide, h.1 _ 6 (by omega) (by decide)]
  obtain ⟨w, ew⟩ : ∃ z : Int32, z = m (8 * s.toNatClampNeg + p) := ⟨_, rfl⟩
  rw [← ew] at bw ⊢
  have a1 := ab_le hv bw
  have a2 := ab_le bw hv
  rw [siz_ab (x := w - g 12 p) (by omega), ab_sw hv bw]
  have en : (if s.toInt = (g 0 20).toInt then g 0 21 else m (8 * s.toNatClampNeg + 6)) = mnr m g s := rfl
  rw [en]
  by_cases c : (mnr m g s).toInt < (ab (g 12 p - w)).toInt
  · rw [if_pos c]
    have et : tvn (mnr m g s) w (g 12 p) = w := by unfold tvn; rw [if_pos c]
    rw [et]
    obtain ⟨t1, t2, t3, t4, t5, t6⟩ := mturn (s := s) (v1 := w) h ey hp (by omega) L
    rw [if_neg (show ¬ s.toInt < 0 from by omega)] at t3
    exact ⟨_, rfl, t6, t1, t2, t3, t4, t5⟩
  · rw [if_neg c]
    have et : tvn (mnr m g s) w (g 12 p) = g 12 p := by unfold tvn; rw [if_neg c]
    rw [et, ab_0, Int32.zero_mul, mcs_0 (hq 70 (by decide) (by decide)).1, Int32.add_zero, Int32.add_zero]
    refine ⟨g, rfl, mH.rf, ?_, rfl, rfl, rfl, rfl⟩
    funext j
    by_cases z : j = p
    · rw [z, sgu_s]
    · rw [sgu_n z]
/-- one part of a sitter's coming: the loss -/
theorem mcm2 {m : Nat → Int32} {hl : Bool} {T : Nat → Int32} {n : Nat} {g : sg_F} {s y : Int32} {p : Nat} (h : mCx m hl T n g) (hm : mOk m) (hs : 0 ≤ s.toInt ∧ s.toInt ≤ 7) (ey : y.toInt = p) (hp : p < 3) (hv : 0 ≤ (g 12 p).toInt ∧ (g 12 p).toInt ≤ 60) (k : Nat) (L : sg_L) : ∃ g1 : sg_F, sX12_comes_l48 s (k + 1) y g L = sX12_comes_l48 s k (y + 1) g1 L ∧ mH g g1 ∧ g1 12 = g 12 ∧ g1 0 29 = g 0 29 ∧ g1 0 31 = g 0 31 ∧ g1 0 30 = g 0 30 + lsv m hl T n s y (g 12 p) ∧ g1 13 = g 13 := by
  have ep := msl1 ey hp
  have e9 : sX12_comes_l48 s (k + 1) y g L = sX12_comes_h48 s (sX12_comes_l48 s k) y g L := rfl
  rw [e9]
  unfold sX12_comes_h48; (repeat first | rw [spl_d] | rw [spl2_d])
  obtain ⟨l1, l2⟩ := mloss (p := y) (v := g 12 p) h hm hs ⟨by omega, by omega⟩ hv L
  rw [if_pos (show y.toInt < 3 from by omega), ep]
  obtain ⟨o, eo⟩ : ∃ z : Int32 × sg_F, z = sX12_lossOf s y (g 12 p) g L := ⟨_, rfl⟩
  rw [← eo] at l1 l2 ⊢
  rw [l1]
  refine ⟨_, rfl, l2.H.tr (mH.put (Or.inr (Or.inl rfl))), ?_, ?_, ?_, ?_, ?_⟩
  · rw [sg_up_n (by decide)]; exact funext fun j => l2 12 j (by decide) (Or.inl (by decide))
  · rw [sg_up_s, sgu_n (by decide)]; exact l2 0 29 (by decide) (Or.inr (by decide))
  · rw [sg_up_s, sgu_n (by decide)]; exact l2 0 31 (by decide) (Or.inr (by decide))
  · rw [sg_up_s, sgu_s]
  · rw [sg_up_n (by decide)]; exact funext fun j => l2 13 j (by decide) (Or.inl (by decide))
/-- one part of a sitter's leaving on purpose -/
theorem mcm3 {m : Nat → Int32} {hl : Bool} {T : Nat → Int32} {n : Nat} {g : sg_F} {s y : Int32} {p : Nat} (h : mCx m hl T n g) (he : s.toInt = (g 0 24).toInt) (ey : y.toInt = p) (hp : p < 3) (hv : 0 ≤ (g 12 p).toInt ∧ (g 12 p).toInt ≤ 60) (hw : 0 ≤ (g 0 25).toInt ∧ (g 0 25).toInt ≤ 60) (k : Nat) (L : sg_L) : ∃ g1 : sg_F, sX12_comes_l82 s (k + 1) y g L = sX12_comes_l82 s k (y + 1) g1 L ∧ mH g g1 ∧ g1 12 = sgu (g 12) p (g 0 25) ∧ g1 0 29 = g 0 29 + ab (g 0 25 - g 12 p) ∧ g1 0 31 = g 0 31 + ab (g 0 25 - g 12 p) * mpr m g p ∧ g1 0 30 = g 0 30 ∧ g1 13 = g 13 := by
  have e9 : sX12_comes_l82 s (k + 1) y g L = sX12_comes_h82 s (sX12_comes_l82 s k) y g L := rfl
  rw [e9]
  unfold sX12_comes_h82; (repeat first | rw [spl_d] | rw [spl2_d])
  rw [if_pos (show y.toInt < 3 from by omega), if_pos he]
  have a1 := ab_le hw hv
  obtain ⟨t1, t2, t3, t4, t5, t6⟩ := mturn (s := -1) (v1 := g 0 25) h ey hp (by omega) L
  rw [if_pos (show (-1 : Int32).toInt < 0 from by decide)] at t3
  exact ⟨_, rfl, t6, t1, t2, t3, t4, t5⟩
/-- how a sitter's coming changes the reference; W: it leaves on purpose -/
def mCm (m : Nat → Int32) (hl : Bool) (T : Nat → Int32) (n : Nat) (s : Int32) (g g1 : sg_F) : Prop := mH g g1 ∧ (∀ p : Nat, p < 3 → g1 12 p = tvn (mnr m g s) (m (8 * s.toNatClampNeg + p)) (g 12 p)) ∧ g1 0 29 = g 0 29 + ab (tvn (mnr m g s) (m (8 * s.toNatClampNeg + 0)) (g 12 0) - g 12 0) + ab (tvn (mnr m g s) (m (8 * s.toNatClampNeg + 1)) (g 12 1) - g 12 1) + ab (tvn (mnr m g s) (m (8 * s.toNatClampNeg + 2)) (g 12 2) - g 12 2) ∧ g1 0 31 = g 0 31 + mcs (bt (g 0 22) s) (m 70) (ab (tvn (mnr m g s) (m (8 * s.toNatClampNeg + 0)) (g 12 0) - g 12 0) * mpr m g 0) + mcs (bt (g 0 22) s) (m 70) (ab (tvn (mnr m g s) (m (8 * s.toNatClampNeg + 1)) (g 12 1) - g 12 1) * mpr m g 1) + mcs (bt (g 0 22) s) (m 70) (ab (tvn (mnr m g s) (m (8 * s.toNatClampNeg + 2)) (g 12 2) - g 12 2) * mpr m g 2) ∧ g1 0 30 = g 0 30 + lsv m hl T n s 0 (tvn (mnr m g s) (m (8 * s.toNatClampNeg + 0)) (g 12 0)) + lsv m hl T n s 1 (tvn (mnr m g s) (m (8 * s.toNatClampNeg + 1)) (g 12 1)) + lsv m hl T n s 2 (tvn (mnr m g s) (m (8 * s.toNatClampNeg + 2)) (g 12 2)) ∧ g1 13 = g 13
/-- turns and losses; the leaving is still to come -/
theorem mcm {m : Nat → Int32} {hl : Bool} {T : Nat → Int32} {n : Nat} {g : sg_F} {s : Int32} (h : mCx m hl T n g) (hm : mOk m) (hq : pOk m) (hs : 0 ≤ s.toInt ∧ s.toInt ≤ 7) (hv : ∀ p : Nat, p < 3 → 0 ≤ (g 12 p).toInt ∧ (g 12 p).toInt ≤ 60) (L : sg_L) : ∃ g1 : sg_F, sX12_comes s g L = sX12_comes_l82 s 4 0 g1 L ∧ mCm m hl T n s g g1 := by
  have cs := bn_clI hs.1
  have a1 : (0 : Int32) + 1 = 1 := by decide
  have a2 : (1 : Int32) + 1 = 2 := by decide
  have a3 : (2 : Int32) + 1 = 3 := by decide
  have bw := (hm s.toNatClampNeg (by omega)).1
  have e0 : sX12_comes s g L = sX12_comes_l2 s 4 0 g L := rfl
  obtain ⟨g1, u1, u2, u3, u4, u5, u6, u7⟩ := mcm1 (s := s) (y := 0) (p := 0) h hm hq hs (by decide) (by decide) (hv 0 (by decide)) 3 L
  have v1 : g1 12 1 = g 12 1 := by rw [u3, sgu_n (by decide)]
  have v2 : g1 12 2 = g 12 2 := by rw [u3, sgu_n (by decide)]
  have n1 : mnr m g1 s = mnr m g s := by unfold mnr; rw [u2 0 20 (by decide) (by decide) (by decide) (Or.inr (by decide)), u2 0 21 (by decide) (by decide) (by decide) (Or.inr (by decide))]
  have m1 : g1 0 22 = g 0 22 := u2 0 22 (by decide) (by decide) (by decide) (Or.inr (by decide))
  obtain ⟨g2, w1, w2, w3, w4, w5, w6, w7⟩ := mcm1 (s := s) (y := 1) (p := 1) (h.H u2) hm hq hs (by decide) (by decide) (by rw [v1]; exact hv 1 (by decide)) 2 L
  rw [n1, v1] at w3 w4 w5
  rw [m1, mpr_H u2] at w5
  have v3 : g2 12 2 = g 12 2 := by rw [w3, sgu_n (by decide), v2]
  have n2 : mnr m g2 s = mnr m g s := by unfold mnr; rw [w2 0 20 (by decide) (by decide) (by decide) (Or.inr (by decide)), w2 0 21 (by decide) (by decide) (by decide) (Or.inr (by decide))]; exact n1
  have m2 : g2 0 22 = g 0 22 := (w2 0 22 (by decide) (by decide) (by decide) (Or.inr (by decide))).trans m1
  obtain ⟨g3, x1, x2, x3, x4, x5, x6, x7⟩ := mcm1 (s := s) (y := 2) (p := 2) (h.H (u2.tr w2)) hm hq hs (by decide) (by decide) (by rw [v3]; exact hv 2 (by decide)) 1 L
  rw [n2, v3] at x3 x4 x5
  rw [m2, mpr_H (u2.tr w2)] at x5
  have H3 := (u2.tr w2).tr x2
  have e4 : sX12_comes_l2 s 1 3 g3 L = sX12_comes_l48 s 4 0 g3 L := by
    show sX12_comes_h2 s (sX12_comes_l2 s 0) 3 g3 L = _
    unfold sX12_comes_h2
    rw [if_neg (by decide)]
  have t0 : g3 12 0 = tvn (mnr m g s) (m (8 * s.toNatClampNeg + 0)) (g 12 0) := by rw [x3, sgu_n (by decide), w3, sgu_n (by decide), u3, sgu_s]
  have t1 : g3 12 1 = tvn (mnr m g s) (m (8 * s.toNatClampNeg + 1)) (g 12 1) := by rw [x3, sgu_n (by decide), w3, sgu_s]
  have t2 : g3 12 2 = tvn (mnr m g s) (m (8 * s.toNatClampNeg + 2)) (g 12 2) := by rw [x3, sgu_s]
  have b0 : 0 ≤ (g3 12 0).toInt ∧ (g3 12 0).toInt ≤ 60 := by rw [t0]; exact tvn_b (bw 0 (by decide)) (hv 0 (by decide))
  have b1 : 0 ≤ (g3 12 1).toInt ∧ (g3 12 1).toInt ≤ 60 := by rw [t1]; exact tvn_b (bw 1 (by decide)) (hv 1 (by decide))
  have b2 : 0 ≤ (g3 12 2).toInt ∧ (g3 12 2).toInt ≤ 60 := by rw [t2]; exact tvn_b (bw 2 (by decide)) (hv 2 (by decide))
  obtain ⟨g4, y1, y2, y3, y4, y5, y6, y7⟩ := mcm2 (s := s) (y := 0) (p := 0) (h.H H3) hm hs (by decide) (by decide) b0 3 L
  obtain ⟨g5, z1, z2, z3, z4, z5, z6, z7⟩ := mcm2 (s := s) (y := 1) (p := 1) (h.H (H3.tr y2)) hm hs (by decide) (by decide) (by rw [y3]; exact b1) 2 L
  obtain ⟨g6, q1, q2, q3, q4, q5, q6, q7⟩ := mcm2 (s := s) (y := 2) (p := 2) (h.H ((H3.tr y2).tr z2)) hm hs (by decide) (by decide) (by rw [z3, y3]; exact b2) 1 L
  have e5 : sX12_comes_l48 s 1 3 g6 L = sX12_comes_l82 s 4 0 g6 L := by
    show sX12_comes_h48 s (sX12_comes_l48 s 0) 3 g6 L = _
    unfold sX12_comes_h48
    rw [if_neg (by decide)]
  refine ⟨g6, by rw [e0, u1, a1, w1, a2, x1, a3, e4, y1, a1, z1, a2, q1, a3, e5], ((H3.tr y2).tr z2).tr q2, fun p hp => ?_, ?_, ?_, ?_, ?_⟩
  · rw [q3, z3, y3]
    rcases (show p = 0 ∨ p = 1 ∨ p = 2 from by omega) with rfl | rfl | rfl
    · exact t0
    · exact t1
    · exact t2
  · rw [q4, z4, y4, x4, w4, u4]
  · rw [q5, z5, y5, x5, w5, u5]
  · rw [q6, z6, y6, z3, y3, t0, t1, t2, x6, w6, u6]
  · rw [q7, z7, y7, x7, w7, u7]
/-- who doesn't leave on purpose -/
theorem mcm_n {s : Int32} {g : sg_F} (he : s.toInt ≠ (g 0 24).toInt) (L : sg_L) : sX12_comes_l82 s 4 0 g L = g := by
  show sX12_comes_h82 s (sX12_comes_l82 s 3) 0 g L = g
  unfold sX12_comes_h82; (repeat first | rw [spl_d] | rw [spl2_d])
  rw [if_pos (by decide), if_neg he]
/-- who leaves on purpose -/
theorem mcm_w {m : Nat → Int32} {hl : Bool} {T : Nat → Int32} {n : Nat} {g : sg_F} {s : Int32} (h : mCx m hl T n g) (he : s.toInt = (g 0 24).toInt) (hv : ∀ p : Nat, p < 3 → 0 ≤ (g 12 p).toInt ∧ (g 12 p).toInt ≤ 60) (hw : 0 ≤ (g 0 25).toInt ∧ (g 0 25).toInt ≤ 60) (L : sg_L) : mH g (sX12_comes_l82 s 4 0 g L) ∧ (∀ p : Nat, p < 3 → (sX12_comes_l82 s 4 0 g L) 12 p = g 0 25) ∧ (sX12_comes_l82 s 4 0 g L) 0 29 = g 0 29 + ab (g 0 25 - g 12 0) + ab (g 0 25 - g 12 1) + ab (g 0 25 - g 12 2) ∧ (sX12_comes_l82 s 4 0 g L) 0 31 = g 0 31 + ab (g 0 25 - g 12 0) * mpr m g 0 + ab (g 0 25 - g 12 1) * mpr m g 1 + ab (g 0 25 - g 12 2) * mpr m g 2 ∧ (sX12_comes_l82 s 4 0 g L) 0 30 = g 0 30 ∧ (sX12_comes_l82 s 4 0 g L) 13 = g 13 := by
  have a1 : (0 : Int32) + 1 = 1 := by decide
  have a2 : (1 : Int32) + 1 = 2 := by decide
  have a3 : (2 : Int32) + 1 = 3 := by decide
  obtain ⟨g1, u1, u2, u3, u4, u5, u6, u7⟩ := mcm3 (s := s) (y := 0) (p := 0) h he (by decide) (by decide) (hv 0 (by decide)) hw 3 L
  have f24 : g1 0 24 = g 0 24 := u2 0 24 (by decide) (by decide) (by decide) (Or.inr (by decide))
  have f25 : g1 0 25 = g 0 25 := u2 0 25 (by decide) (by decide) (by decide) (Or.inr (by decide))
  have v1 : g1 12 1 = g 12 1 := by rw [u3, sgu_n (by decide)]
  obtain ⟨g2, w1, w2, w3, w4, w5, w6, w7⟩ := mcm3 (s := s) (y := 1) (p := 1) (h.H u2) (by rw [f24]; exact he) (by decide) (by decide) (by rw [v1]; exact hv 1 (by decide)) (by rw [f25]; exact hw) 2 L
  rw [f25, v1] at w4 w5
  rw [f25] at w3
  rw [mpr_H u2] at w5
  have h24 : g2 0 24 = g 0 24 := (w2 0 24 (by decide) (by decide) (by decide) (Or.inr (by decide))).trans f24
  have h25 : g2 0 25 = g 0 25 := (w2 0 25 (by decide) (by decide) (by decide) (Or.inr (by decide))).trans f25
  have v2 : g2 12 2 = g 12 2 := by rw [w3, sgu_n (by decide), u3, sgu_n (by decide)]
  obtain ⟨g3, x1, x2, x3, x4, x5, x6, x7⟩ := mcm3 (s := s) (y := 2) (p := 2) (h.H (u2.tr w2)) (by rw [h24]; exact he) (by decide) (by decide) (by rw [v2]; exact hv 2 (by decide)) (by rw [h25]; exact hw) 1 L
  rw [h25, v2] at x4 x5
  rw [h25] at x3
  rw [mpr_H (u2.tr w2)] at x5
  have e4 : sX12_comes_l82 s 1 3 g3 L = g3 := by
    show sX12_comes_h82 s (sX12_comes_l82 s 0) 3 g3 L = g3
    unfold sX12_comes_h82
    rw [if_neg (by decide)]
  rw [u1, a1, w1, a2, x1, a3, e4]
  refine ⟨(u2.tr w2).tr x2, fun p hp => ?_, ?_, ?_, ?_, ?_⟩
  · rcases (show p = 0 ∨ p = 1 ∨ p = 2 from by omega) with rfl | rfl | rfl
    · rw [x3, sgu_n (by decide), w3, sgu_n (by decide), u3, sgu_s]
    · rw [x3, sgu_n (by decide), w3, sgu_s]
    · rw [x3, sgu_s]
  · rw [x4, w4, u4]
  · rw [x5, w5, u5]
  · rw [x6, w6, u6]
  · rw [x7, w7, u7]
/-! the class leaves, slips, passes -/
theorem xle1 {m : Nat → Int32} {y : Int32} {p : Nat} {f : sg_F} (h2 : f 2 = m) (ey : y.toInt = p) (hp : p < 3) (k : Nat) (L : sg_L) : ∃ f1 : sg_F, sX4_leaves_l2 (k + 1) y f L = sX4_leaves_l2 k (y + 1) f1 L ∧ (∀ q : Nat, q ≠ 13 → q ≠ 14 → q ≠ 15 → f1 q = f q) ∧ (∀ j : Nat, j ≠ 6 → f1 13 j = f 13 j) ∧ f1 14 = sgu (f 14) p (f 13 10) ∧ f1 15 = sgu (f 15) p (f 15 p + ab (f 13 10 - f 14 p)) ∧ f1 13 6 = f 13 6 + ab (f 13 10 - f 14 p) * m (67 + p) := by
  have e9 : sX4_leaves_l2 (k + 1) y f L = sX4_leaves_h2 (sX4_leaves_l2 k) y f L := rfl
  rw [e9]
  unfold sX4_leaves_h2; (repeat first | rw [spl_d] | rw [spl2_d])
  rw [if_pos (show y.toInt < 3 from by omega)]
  obtain ⟨g, g0, g1, g2, g3, g4, g5⟩ := xturn ey hp (f 13 10) f L
  rw [g0]
  rw [h2] at g3
  exact ⟨g, rfl, g5, g4, g1, g2, g3⟩
theorem xle {m : Nat → Int32} {f : sg_F} (h2 : f 2 = m) (L : sg_L) : (∀ q : Nat, q ≠ 13 → q ≠ 14 → q ≠ 15 → sX4_leaves f L q = f q) ∧ (∀ j : Nat, j ≠ 6 → sX4_leaves f L 13 j = f 13 j) ∧ (∀ p : Nat, p < 3 → sX4_leaves f L 14 p = f 13 10 ∧ sX4_leaves f L 15 p = f 15 p + ab (f 13 10 - f 14 p)) ∧ sX4_leaves f L 13 6 = f 13 6 + ab (f 13 10 - f 14 0) * m (67 + 0) + ab (f 13 10 - f 14 1) * m (67 + 1) + ab (f 13 10 - f 14 2) * m (67 + 2) := by
  have a1 : (0 : Int32) + 1 = 1 := by decide
  have a2 : (1 : Int32) + 1 = 2 := by decide
  have a3 : (2 : Int32) + 1 = 3 := by decide
  obtain ⟨f1, u1, u2, u3, u4, u5, u6⟩ := xle1 (y := 0) (p := 0) h2 (by decide) (by decide) 3 L
  have i1 : f1 13 10 = f 13 10 := u3 10 (by decide)
  have v1 : f1 14 1 = f 14 1 := by rw [u4, sgu_n (by decide)]
  obtain ⟨f2, w1, w2, w3, w4, w5, w6⟩ := xle1 (m := m) (y := 1) (p := 1) (f := f1) (by rw [u2 2 (by decide) (by decide) (by decide)]; exact h2) (by decide) (by decide) 2 L
  rw [i1, v1] at w5 w6
  rw [i1] at w4
  have i2 : f2 13 10 = f 13 10 := (w3 10 (by decide)).trans i1
  have v2 : f2 14 2 = f 14 2 := by rw [w4, sgu_n (by decide), u4, sgu_n (by decide)]
  obtain ⟨f3, x1, x2, x3, x4, x5, x6⟩ := xle1 (m := m) (y := 2) (p := 2) (f := f2) (by rw [w2 2 (by decide) (by decide) (by decide), u2 2 (by decide) (by decide) (by decide)]; exact h2) (by decide) (by decide) 1 L
  rw [i2, v2] at x5 x6
  rw [i2] at x4
  have e4 : sX4_leaves_l2 1 3 f3 L = f3 := by
    show sX4_leaves_h2 (sX4_leaves_l2 0) 3 f3 L = f3
    unfold sX4_leaves_h2
    rw [if_neg (by decide)]
  have e0 : sX4_leaves f L = sX4_leaves_l2 4 0 f L := rfl
  rw [e0, u1, a1, w1, a2, x1, a3, e4]
  refine ⟨fun q b1 b2 b3 => ?_, fun j b => ?_, fun p hp => ?_, ?_⟩
  · rw [x2 q b1 b2 b3, w2 q b1 b2 b3, u2 q b1 b2 b3]
  · rw [x3 j b, w3 j b, u3 j b]
  · rcases (show p = 0 ∨ p = 1 ∨ p = 2 from by omega) with rfl | rfl | rfl
    · refine ⟨?_, ?_⟩
      · rw [x4, sgu_n (by decide), w4, sgu_n (by decide), u4, sgu_s]
      · rw [x5, sgu_n (by decide), w5, sgu_n (by decide), u5, sgu_s]
    · refine ⟨?_, ?_⟩
      · rw [x4, sgu_n (by decide), w4, sgu_s]
      · rw [x5, sgu_n (by decide), w5, sgu_s, u5, sgu_n (by decide)]
    · refine ⟨?_, ?_⟩
      · rw [x4, sgu_s]
      · rw [x5, sgu_s, w5, sgu_n (by decide), u5, sgu_n (by decide)]
  · rw [x6, w6, u6]
theorem xsl1 {m : Nat → Int32} {y : Int32} {p : Nat} {f : sg_F} (h2 : f 2 = m) (ey : y.toInt = p) (hp : p < 3) (k : Nat) (L : sg_L) : sX4_slip_l2 (k + 1) y f L = sX4_slip_l2 k (y + 1) (sg_up f 14 (sgu (f 14) p (slp (m (64 + p)) (f 14 p)))) L := by
  have ep := msl1 ey hp
  show sX4_slip_h2 (sX4_slip_l2 k) y f L = _
  unfold sX4_slip_h2; (repeat first | rw [spl_d] | rw [spl2_d])
  rw [if_pos (show y.toInt < 3 from by omega), slpX ey hp, ep, h2]
theorem xsl {m : Nat → Int32} {f : sg_F} (h2 : f 2 = m) (L : sg_L) : (∀ q : Nat, q ≠ 14 → sX4_slip f L q = f q) ∧ ∀ p : Nat, p < 3 → sX4_slip f L 14 p = slp (m (64 + p)) (f 14 p) := by
  have a1 : (0 : Int32) + 1 = 1 := by decide
  have a2 : (1 : Int32) + 1 = 2 := by decide
  have a3 : (2 : Int32) + 1 = 3 := by decide
  have e4 : ∀ g : sg_F, sX4_slip_l2 1 3 g L = g := fun g => by
    show sX4_slip_h2 (sX4_slip_l2 0) 3 g L = g
    unfold sX4_slip_h2
    rw [if_neg (by decide)]
  have e0 : sX4_slip f L = sX4_slip_l2 4 0 f L := rfl
  rw [e0, xsl1 (y := 0) (p := 0) h2 (by decide) (by decide), a1, xsl1 (m := m) (y := 1) (p := 1) (by rw [sg_up_n (by decide)]; exact h2) (by decide) (by decide), a2, xsl1 (m := m) (y := 2) (p := 2) (by rw [sg_up_n (by decide), sg_up_n (by decide)]; exact h2) (by decide) (by decide), a3, e4]
  refine ⟨fun q hq => by rw [sg_up_n hq, sg_up_n hq, sg_up_n hq], fun p hp => ?_⟩
  rcases (show p = 0 ∨ p = 1 ∨ p = 2 from by omega) with rfl | rfl | rfl <;> rfl
/-! A WEEK, both sides: a shift -/
/-- what a mask spares -/
noncomputable def spN (k : Int32) (h : Nat → Int32) : Nat → Int32
  | 0 => 0
  | n + 1 => spN k h n + (if bt k (Int32.ofNat n) = true then h n else 0)
theorem spN_ge {k : Int32} {h : Nat → Int32} {s : Nat} {x : Int32} : ∀ n : Nat, n ≤ s → spN k (sgu h s x) n = spN k h n := by
  intro n
  induction n with
  | zero => intro _; rfl
  | succ n ih =>
    intro hn
    show spN k (sgu h s x) n + (if bt k (Int32.ofNat n) = true then sgu h s x n else 0) = spN k h n + (if bt k (Int32.ofNat n) = true then h n else 0)
    rw [ih (by omega), sgu_n (show n ≠ s by omega)]
theorem spN_up {k : Int32} {h : Nat → Int32} {s : Nat} {d : Int32} : ∀ n : Nat, s < n → spN k (sgu h s (h s + d)) n = spN k h n + (if bt k (Int32.ofNat s) = true then d else 0) := by
  intro n
  induction n with
  | zero => intro hn; exact absurd hn (by omega)
  | succ n ih =>
    intro hn
    show spN k (sgu h s (h s + d)) n + (if bt k (Int32.ofNat n) = true then sgu h s (h s + d) n else 0) = spN k h n + (if bt k (Int32.ofNat n) = true then h n else 0) + (if bt k (Int32.ofNat s) = true then d else 0)
    by_cases c : n = s
    · subst c
      rw [spN_ge n (Nat.le_refl n), sgu_s]
      by_cases b : bt k (Int32.ofNat n) = true
      · rw [if_pos b, if_pos b, if_pos b, Int32.add_assoc]
      · rw [if_neg b, if_neg b, if_neg b, Int32.add_zero, Int32.add_zero]
    · rw [ih (by omega), sgu_n c, Int32.add_assoc, Int32.add_assoc, Int32.add_comm (if bt k (Int32.ofNat s) = true then d else 0)]
theorem spN_0 {k : Int32} {h : Nat → Int32} (z : ∀ j : Nat, j < 8 → h j = 0) : ∀ n : Nat, n ≤ 8 → spN k h n = 0 := by
  intro n
  induction n with
  | zero => intro _; rfl
  | succ n ih =>
    intro hn
    show spN k h n + (if bt k (Int32.ofNat n) = true then h n else 0) = 0
    rw [ih (by omega), z n (by omega)]
    by_cases b : bt k (Int32.ofNat n) = true
    · rw [if_pos b]; rfl
    · rw [if_neg b]; rfl
theorem ofNat8 {s : Int32} (h : 0 ≤ s.toInt ∧ s.toInt ≤ 7) : Int32.ofNat s.toNatClampNeg = s := by
  have c := bn_clI h.1
  rcases (show s.toNatClampNeg = 0 ∨ s.toNatClampNeg = 1 ∨ s.toNatClampNeg = 2 ∨ s.toNatClampNeg = 3 ∨ s.toNatClampNeg = 4 ∨ s.toNatClampNeg = 5 ∨ s.toNatClampNeg = 6 ∨ s.toNatClampNeg = 7 from by omega) with e | e | e | e | e | e | e | e
  · rw [e]; exact Int32.toInt_inj.mp (by rw [show (Int32.ofNat 0).toInt = 0 from by decide]; omega)
  · rw [e]; exact Int32.toInt_inj.mp (by rw [show (Int32.ofNat 1).toInt = 1 from by decide]; omega)
  · rw [e]; exact Int32.toInt_inj.mp (by rw [show (Int32.ofNat 2).toInt = 2 from by decide]; omega)
  · rw [e]; exact Int32.toInt_inj.mp (by rw [show (Int32.ofNat 3).toInt = 3 from by decide]; omega)
  · rw [e]; exact Int32.toInt_inj.mp (by rw [show (Int32.ofNat 4).toInt = 4 from by decide]; omega)
  · rw [e]; exact Int32.toInt_inj.mp (by rw [show (Int32.ofNat 5).toInt = 5 from by decide]; omega)
  · rw [e]; exact Int32.toInt_inj.mp (by rw [show (Int32.ofNat 6).toInt = 6 from by decide]; omega)
  · rw [e]; exact Int32.toInt_inj.mp (by rw [show (Int32.ofNat 7).toInt = 7 from by decide]; omega)
theorem mcs_mxc {b : Bool} {a pr fe q : Int32} (ha : 0 ≤ a.toInt ∧ a.toInt ≤ 60) (hp : 0 ≤ pr.toInt ∧ pr.toInt ≤ 99) (hf : 0 ≤ fe.toInt ∧ fe.toInt ≤ 99) (hb : b = true → q = pr) : mcs b fe (a * q) + (if b = true then mxc (a * pr) fe else 0) = a * q := by
  have k0 : (0 : Int32).toInt = 0 := by decide
  by_cases c : b = true
  case neg =>
    rw [if_neg c, Int32.add_zero]
    unfold mcs
    rw [if_neg (fun z => c z.1)]
  rw [if_pos c, hb c]
  obtain ⟨m1, m2, m3⟩ := mul_le (x := 60) (y := 99) ha hp (by decide)
  obtain ⟨w, ew⟩ : ∃ z : Int32, z = a * pr := ⟨_, rfl⟩
  rw [← ew] at m2 m3 ⊢
  have e : (w - fe).toInt = w.toInt - fe.toInt := bn_subI (by omega) (by omega)
  unfold mcs mxc
  by_cases d : fe.toInt < w.toInt
  · have e2 : (fe + (w - fe)).toInt = fe.toInt + (w - fe).toInt := bn_addI (by omega) (by omega)
    rw [if_pos ⟨c, d⟩, if_pos (show (0 : Int32) < w - fe from Int32.lt_iff_toInt_lt.mpr (by omega))]
    exact Int32.toInt_inj.mp (by omega)
  · rw [if_neg (fun z => d z.2), if_neg (fun z => by have := bn_lt z; omega), Int32.add_zero]
/-! sums -/
theorem as4 (a x y z : Int32) : a + x + y + z = a + (x + y + z) := by ac_rfl
theorem rg3 {x b F0 F1 F2 a0 a1 a2 : Int32} (h : x + b = F0 + F1 + F2) : x + a0 + a1 + a2 + b = (F0 + a0) + (F1 + a1) + (F2 + a2) := by
  have e : x + a0 + a1 + a2 + b = (x + b) + (a0 + a1 + a2) := by ac_rfl
  rw [e, h]; ac_rfl
theorem rg4 {x b F l0 l1 l2 : Int32} (h : x + b = F) : x + l0 + l1 + l2 + b = F + l0 + l1 + l2 := by
  rw [← h]; ac_rfl
theorem rg5 {x b SP M0 M1 M2 Y0 Y1 Y2 F0 F1 F2 a0 a1 a2 q0 q1 q2 : Int32} (h : x + b + SP = F0 * q0 + F1 * q1 + F2 * q2) (K0 : M0 + Y0 = a0 * q0) (K1 : M1 + Y1 = a1 * q1) (K2 : M2 + Y2 = a2 * q2) : x + M0 + M1 + M2 + b + (SP + (Y0 + Y1 + Y2)) = (F0 + a0) * q0 + (F1 + a1) * q1 + (F2 + a2) * q2 := by
  rw [Int32.add_mul, Int32.add_mul, Int32.add_mul, ← K0, ← K1, ← K2]
  have e : x + M0 + M1 + M2 + b + (SP + (Y0 + Y1 + Y2)) = (x + b + SP) + ((M0 + Y0) + (M1 + Y1) + (M2 + Y2)) := by ac_rfl
  rw [e, h]; ac_rfl
theorem rg5l {x b SP F0 F1 F2 a0 a1 a2 q0 q1 q2 : Int32} (h : x + b + SP = F0 * q0 + F1 * q1 + F2 * q2) : x + a0 * q0 + a1 * q1 + a2 * q2 + b + SP = (F0 + a0) * q0 + (F1 + a1) * q1 + (F2 + a2) * q2 := by
  rw [Int32.add_mul, Int32.add_mul, Int32.add_mul]
  have e : x + a0 * q0 + a1 * q1 + a2 * q2 + b + SP = (x + b + SP) + (a0 * q0 + a1 * q1 + a2 * q2) := by ac_rfl
  rw [e, h]; ac_rfl
theorem rg6 {x y F0 F1 F2 a0 a1 a2 l0 l1 l2 q0 q1 q2 : Int32} (h : x = y + (F0 * q0 + F1 * q1 + F2 * q2)) : x + a0 * q0 + l0 + a1 * q1 + l1 + a2 * q2 + l2 = y + l0 + l1 + l2 + ((F0 + a0) * q0 + (F1 + a1) * q1 + (F2 + a2) * q2) := by
  rw [Int32.add_mul, Int32.add_mul, Int32.add_mul, h]; ac_rfl
theorem rg6l {x y F0 F1 F2 a0 a1 a2 q0 q1 q2 : Int32} (h : x = y + (F0 * q0 + F1 * q1 + F2 * q2)) : x + a0 * q0 + a1 * q1 + a2 * q2 = y + ((F0 + a0) * q0 + (F1 + a1) * q1 + (F2 + a2) * q2) := by
  rw [Int32.add_mul, Int32.add_mul, Int32.add_mul, h]; ac_rfl
/-- what the two have in common within a week -/
noncomputable def wR (m : Nat → Int32) (b1 b2 b3 : Int32) (f g : sg_F) : Prop := (∀ p : Nat, p < 3 → f 14 p = g 12 p) ∧ (∀ p : Nat, p < 3 → 0 ≤ (f 14 p).toInt ∧ (f 14 p).toInt ≤ 60) ∧ g 0 29 + b1 = f 15 0 + f 15 1 + f 15 2 ∧ g 0 30 + b2 = f 13 5 ∧ g 0 31 + b3 + spN (g 0 22) (f 16) 8 = f 15 0 * mpr m g 0 + f 15 1 * mpr m g 1 + f 15 2 * mpr m g 2 ∧ f 13 6 = f 13 5 + (f 15 0 * m (67 + 0) + f 15 1 * m (67 + 1) + f 15 2 * m (67 + 2))
/-- what is asked of the habits and what is changed for the sake of a question -/
def hF (f g : sg_F) : Prop := f 13 7 = g 0 20 ∧ (0 ≤ (f 13 7).toInt → f 13 8 = g 0 21) ∧ f 13 9 = g 0 24 ∧ (0 ≤ (f 13 9).toInt → f 13 10 = g 0 25 ∧ 0 ≤ (g 0 25).toInt ∧ (g 0 25).toInt ≤ 60) ∧ ∀ s : Int32, bt (g 0 22) s = true → (g 0 23).toInt = 0
/-- what a shift leaves alone in the class -/
def xP (f f1 : sg_F) : Prop := (∀ q : Nat, q ≠ 8 → q ≠ 9 → q ≠ 13 → q ≠ 14 → q ≠ 15 → q ≠ 16 → f1 q = f q) ∧ ∀ j : Nat, j ≠ 5 → j ≠ 6 → f1 13 j = f 13 j
theorem xP.rf {f : sg_F} : xP f f := ⟨fun _ _ _ _ _ _ _ => rfl, fun _ _ _ => rfl⟩
theorem xP.tr {f f1 f2 : sg_F} (h : xP f f1) (h1 : xP f1 f2) : xP f f2 := ⟨fun q a b c d e i => (h1.1 q a b c d e i).trans (h.1 q a b c d e i), fun j a b => (h1.2 j a b).trans (h.2 j a b)⟩
theorem hF.K {f f1 g g1 : sg_F} (h : hF f g) (k : xP f f1) (k1 : mH g g1) : hF f1 g1 := by
  unfold hF
  rw [k.2 7 (by decide) (by decide), k.2 8 (by decide) (by decide), k.2 9 (by decide) (by decide), k.2 10 (by decide) (by decide), k1 0 20 (by decide) (by decide) (by decide) (Or.inr (by decide)), k1 0 21 (by decide) (by decide) (by decide) (Or.inr (by decide)), k1 0 22 (by decide) (by decide) (by decide) (Or.inr (by decide)), k1 0 23 (by decide) (by decide) (by decide) (Or.inr (by decide)), k1 0 24 (by decide) (by decide) (by decide) (Or.inr (by decide)), k1 0 25 (by decide) (by decide) (by decide) (Or.inr (by decide))]
  exact h
theorem wR.comes {m : Nat → Int32} {hl : Bool} {T : Nat → Int32} {n : Nat} {b1 b2 b3 s nr : Int32} {f g f1 g1 : sg_F} (h : wR m b1 b2 b3 f g) (hm : mOk m) (hq : pOk m) (hs : 0 ≤ s.toInt ∧ s.toInt ≤ 7) (hn : nr = mnr m g s) (hk : bt (g 0 22) s = true → (g 0 23).toInt = 0) (hx : xCm m hl T n s nr f f1) (hy : mCm m hl T n s g g1) : wR m b1 b2 b3 f1 g1 := by
  subst hn
  obtain ⟨e1, e2, e3, e4, e5, e6⟩ := h
  obtain ⟨x1, x2, x3, x4, x5, x6⟩ := hx
  obtain ⟨y1, y2, y3, y4, y5, y6⟩ := hy
  have cs := bn_clI hs.1
  have bw := (hm s.toNatClampNeg (by omega)).1
  have p0 := hq 67 (by decide) (by decide)
  have p1 := hq 68 (by decide) (by decide)
  have p2 := hq 69 (by decide) (by decide)
  have pf := hq 70 (by decide) (by decide)
  have z0 := y2 0 (by decide)
  have z1 := y2 1 (by decide)
  have z2 := y2 2 (by decide)
  obtain ⟨u0, w0⟩ := x3 0 (by decide)
  obtain ⟨u1, w1⟩ := x3 1 (by decide)
  obtain ⟨u2, w2⟩ := x3 2 (by decide)
  rw [← e1 0 (by decide)] at z0 y3 y4 y5
  rw [← e1 1 (by decide)] at z1 y3 y4 y5
  rw [← e1 2 (by decide)] at z2 y3 y4 y5
  have T0 := tvn_b (nr := mnr m g s) (bw 0 (by decide)) (e2 0 (by decide))
  have T1 := tvn_b (nr := mnr m g s) (bw 1 (by decide)) (e2 1 (by decide))
  have T2 := tvn_b (nr := mnr m g s) (bw 2 (by decide)) (e2 2 (by decide))
  obtain ⟨t0, et0⟩ : ∃ z : Int32, z = tvn (mnr m g s) (m (8 * s.toNatClampNeg + 0)) (f 14 0) := ⟨_, rfl⟩
  obtain ⟨t1, et1⟩ : ∃ z : Int32, z = tvn (mnr m g s) (m (8 * s.toNatClampNeg + 1)) (f 14 1) := ⟨_, rfl⟩
  obtain ⟨t2, et2⟩ : ∃ z : Int32, z = tvn (mnr m g s) (m (8 * s.toNatClampNeg + 2)) (f 14 2) := ⟨_, rfl⟩
  rw [← et0] at T0 z0 u0 w0 y3 y4 y5 x4 x5 x6
  rw [← et1] at T1 z1 u1 w1 y3 y4 y5 x4 x5 x6
  rw [← et2] at T2 z2 u2 w2 y3 y4 y5 x4 x5 x6
  have A0 := ab_le T0 (e2 0 (by decide))
  have A1 := ab_le T1 (e2 1 (by decide))
  have A2 := ab_le T2 (e2 2 (by decide))
  obtain ⟨a0, ea0⟩ : ∃ z : Int32, z = ab (t0 - f 14 0) := ⟨_, rfl⟩
  obtain ⟨a1, ea1⟩ : ∃ z : Int32, z = ab (t1 - f 14 1) := ⟨_, rfl⟩
  obtain ⟨a2, ea2⟩ : ∃ z : Int32, z = ab (t2 - f 14 2) := ⟨_, rfl⟩
  rw [← ea0] at A0 w0 y3 y4 x4 x6
  rw [← ea1] at A1 w1 y3 y4 x4 x6
  rw [← ea2] at A2 w2 y3 y4 x4 x6
  have hqp : ∀ p : Nat, bt (g 0 22) s = true → mpr m g p = m (67 + p) := fun p hb => by
    unfold mpr
    rw [if_pos (hk hb)]
  have g22 : g1 0 22 = g 0 22 := y1 0 22 (by decide) (by decide) (by decide) (Or.inr (by decide))
  rw [as4] at x4
  refine ⟨fun p hp => ?_, fun p hp => ?_, ?_, ?_, ?_, ?_⟩
  · rcases (show p = 0 ∨ p = 1 ∨ p = 2 from by omega) with rfl | rfl | rfl
    · rw [u0, z0]
    · rw [u1, z1]
    · rw [u2, z2]
  · rcases (show p = 0 ∨ p = 1 ∨ p = 2 from by omega) with rfl | rfl | rfl
    · rw [u0]; exact T0
    · rw [u1]; exact T1
    · rw [u2]; exact T2
  · rw [y3, w0, w1, w2]; exact rg3 e3
  · rw [y5, x5]; exact rg4 e4
  · rw [y4, w0, w1, w2, g22, mpr_H y1, mpr_H y1, mpr_H y1, x4, spN_up 8 (by omega), ofNat8 hs]
    have es : (if bt (g 0 22) s = true then mxc (a0 * m (67 + 0)) (m 70) + mxc (a1 * m (67 + 1)) (m 70) + mxc (a2 * m (67 + 2)) (m 70) else 0) = (if bt (g 0 22) s = true then mxc (a0 * m (67 + 0)) (m 70) else 0) + (if bt (g 0 22) s = true then mxc (a1 * m (67 + 1)) (m 70) else 0) + (if bt (g 0 22) s = true then mxc (a2 * m (67 + 2)) (m 70) else 0) := by
      by_cases c : bt (g 0 22) s = true
      · rw [if_pos c, if_pos c, if_pos c, if_pos c]
      · rw [if_neg c, if_neg c, if_neg c, if_neg c]; rfl
    rw [es]
    exact rg5 e5 (mcs_mxc ⟨A0.2.1, A0.2.2.1⟩ p0 pf (hqp 0)) (mcs_mxc ⟨A1.2.1, A1.2.2.1⟩ p1 pf (hqp 1)) (mcs_mxc ⟨A2.2.1, A2.2.2.1⟩ p2 pf (hqp 2))
  · rw [x5, x6, w0, w1, w2]; exact rg6 e6
theorem wR.leaves {m : Nat → Int32} {b1 b2 b3 : Int32} {f g f1 g1 : sg_F} (h : wR m b1 b2 b3 f g) (e : f 13 10 = g 0 25) (hw : 0 ≤ (g 0 25).toInt ∧ (g 0 25).toInt ≤ 60) (x2 : ∀ j : Nat, j ≠ 6 → f1 13 j = f 13 j) (x16 : f1 16 = f 16) (x3 : ∀ p : Nat, p < 3 → f1 14 p = f 13 10 ∧ f1 15 p = f 15 p + ab (f 13 10 - f 14 p)) (x4 : f1 13 6 = f 13 6 + ab (f 13 10 - f 14 0) * m (67 + 0) + ab (f 13 10 - f 14 1) * m (67 + 1) + ab (f 13 10 - f 14 2) * m (67 + 2)) (y1 : mH g g1) (y2 : ∀ p : Nat, p < 3 → g1 12 p = g 0 25) (y3 : g1 0 29 = g 0 29 + ab (g 0 25 - g 12 0) + ab (g 0 25 - g 12 1) + ab (g 0 25 - g 12 2)) (y4 : g1 0 31 = g 0 31 + ab (g 0 25 - g 12 0) * mpr m g 0 + ab (g 0 25 - g 12 1) * mpr m g 1 + ab (g 0 25 - g 12 2) * mpr m g 2) (y5 : g1 0 30 = g 0 30) : wR m b1 b2 b3 f1 g1 := by
  obtain ⟨e1, e2, e3, e4, e5, e6⟩ := h
  have g22 : g1 0 22 = g 0 22 := y1 0 22 (by decide) (by decide) (by decide) (Or.inr (by decide))
  rw [← e1 0 (by decide), ← e1 1 (by decide), ← e1 2 (by decide), ← e] at y3 y4
  refine ⟨fun p hp => ?_, fun p hp => ?_, ?_, ?_, ?_, ?_⟩
  · rw [(x3 p hp).1, y2 p hp, e]
  · rw [(x3 p hp).1, e]; exact hw
  · rw [y3, (x3 0 (by decide)).2, (x3 1 (by decide)).2, (x3 2 (by decide)).2]; exact rg3 e3
  · rw [y5, x2 5 (by decide)]; exact e4
  · rw [y4, (x3 0 (by decide)).2, (x3 1 (by decide)).2, (x3 2 (by decide)).2, g22, mpr_H y1, mpr_H y1, mpr_H y1, x16]; exact rg5l e5
  · rw [x4, x2 5 (by decide), (x3 0 (by decide)).2, (x3 1 (by decide)).2, (x3 2 (by decide)).2]; exact rg6l e6
/-- who sits comes, and may leave on purpose -/
theorem hsits {m : Nat → Int32} {S : Int} {hl : Bool} {T : Nat → Int32} {n : Nat} {b1 b2 b3 s : Int32} {f g : sg_F} (hc : xCx m S hl T n f) (hS : S ≤ 8) (hm : mOk m) (hq : pOk m) (hC : mCx m hl T n g) (hr : wR m b1 b2 b3 f g) (hf : hF f g) (hs : 0 ≤ s.toInt ∧ s.toInt < S) (L LM : sg_L) : ∃ f1 : sg_F, sX4_pass s f L = sX4_slip f1 L ∧ xCx m S hl T n f1 ∧ xP f f1 ∧ wR m b1 b2 b3 f1 (sX12_comes s g LM) ∧ mH g (sX12_comes s g LM) ∧ (sX12_comes s g LM) 13 = g 13 := by
  obtain ⟨e1, e2, e3, e4, e5, e6⟩ := hr
  have hs7 : 0 ≤ s.toInt ∧ s.toInt ≤ 7 := by omega
  obtain ⟨c1, c2⟩ := xcm (s := s) hc hS hm hs e2 L
  obtain ⟨g1, d1, d2⟩ := mcm (s := s) hC hm hq hs7 (fun p hp => by rw [← e1 p hp]; exact e2 p hp) LM
  obtain ⟨f1, ef⟩ : ∃ z : sg_F, z = sX4_comes s f L := ⟨_, rfl⟩
  rw [← ef] at c1 c2
  have en : (if s.toInt = (f 13 7).toInt then f 13 8 else m (8 * s.toNatClampNeg + 6)) = mnr m g s := by
    unfold mnr
    rw [← hf.1]
    by_cases z : s.toInt = (f 13 7).toInt
    · rw [if_pos z, if_pos z, hf.2.1 (by omega)]
    · rw [if_neg z, if_neg z]
  rw [en] at c2
  have r1 : wR m b1 b2 b3 f1 g1 := wR.comes ⟨e1, e2, e3, e4, e5, e6⟩ hm hq hs7 rfl (hf.2.2.2.2 s) c2 d2
  have k1 : xP f f1 := ⟨c2.1, c2.2.1⟩
  have hf1 : hF f1 g1 := hf.K k1 d2.1
  have ep : sX4_pass s f L = sX4_slip (if s.toInt = (f1 13 9).toInt then sX4_leaves f1 L else f1) L := by
    unfold sX4_pass sX4_pass_b22; (repeat first | rw [spl_d] | rw [spl2_d])
    rw [if_neg (show ¬ s.toInt = -1 from by omega), ← ef]
    by_cases z : s.toInt = (f1 13 9).toInt
    · rw [if_pos z, if_pos z]
    · rw [if_neg z, if_neg z]
  rw [ep, d1]
  by_cases z : s.toInt = (f1 13 9).toInt
  · rw [if_pos z]
    obtain ⟨o1, o2, o3⟩ := hf1.2.2.2.1 (by omega)
    obtain ⟨x1, x2, x3, x4⟩ := xle (m := m) (f := f1) c1.1 L
    obtain ⟨y1, y2, y3, y4, y5, y6⟩ := mcm_w (s := s) (hC.H d2.1) (by rw [← hf1.2.2.1]; exact z) (fun p hp => by rw [← r1.1 p hp]; exact r1.2.1 p hp) ⟨o2, o3⟩ LM
    refine ⟨_, rfl, c1.fr (x1 1 (by decide) (by decide) (by decide)) (x1 2 (by decide) (by decide) (by decide)) (x1 4 (by decide) (by decide) (by decide)) (x1 7 (by decide) (by decide) (by decide)) (x1 9 (by decide) (by decide) (by decide)), k1.tr ⟨fun q _ _ a b c _ => x1 q a b c, fun j _ b => x2 j b⟩, wR.leaves r1 o1 ⟨o2, o3⟩ x2 (x1 16 (by decide) (by decide) (by decide)) x3 x4 y1 y2 y3 y4 y5, d2.1.tr y1, ?_⟩
    rw [y6, d2.2.2.2.2.2]
  · rw [if_neg z, mcm_n (s := s) (g := g1) (fun w => z (by rw [hf1.2.2.1]; exact w)) LM]
    exact ⟨f1, rfl, c1, k1, r1, d2.1, d2.2.2.2.2.2⟩
/-! A WEEK, both sides: shift by shift -/
/-- the class after so many shifts -/
noncomputable def xSq (W : Nat → Int32) (f : sg_F) (L : sg_L) : Nat → sg_F
  | 0 => f
  | i + 1 => sX4_pass (W i) (xSq W f L i) L
theorem idx3 {y z : Int32} {i p : Nat} (ey : y.toInt = i) (hi : i ≤ 21) (ez : z.toInt = p) (hp : p < 3) : (3 * y + z).toNatClampNeg = 3 * i + p := by
  have k3 : (3 : Int32).toInt = 3 := by decide
  have e1 : (3 * y).toInt = 3 * y.toInt := bn_mulJ k3 (by omega) (by omega)
  have e2 : (3 * y + z).toInt = (3 * y).toInt + z.toInt := bn_addI (by omega) (by omega)
  have c := bn_clI (x := 3 * y + z) (by omega)
  omega
theorem inc1 {y : Int32} {i : Nat} (ey : y.toInt = i) (hi : i ≤ 1000000) : (y + 1).toInt = ((i + 1 : Nat) : Int) := by
  have k1 : (1 : Int32).toInt = 1 := by decide
  have e : (y + 1).toInt = y.toInt + (1 : Int32).toInt := bn_addI (by omega) (by omega)
  omega
theorem mslp1 {m : Nat → Int32} {hl : Bool} {T : Nat → Int32} {n : Nat} {g : sg_F} {x0 y z : Int32} {i p : Nat} (rec : Int32 → sg_F → sg_L → Int32 × sg_F) (h : mCx m hl T n g) (hq : pOk m) (ey : y.toInt = i) (hi : i ≤ 20) (ez : z.toInt = p) (hp : p < 3) (hv : 0 ≤ (g 12 p).toInt ∧ (g 12 p).toInt ≤ 60) (k : Nat) (L : sg_L) : ∃ g1 : sg_F, sX12_weekOf_l72 rec x0 (k + 1) y z g L = sX12_weekOf_l72 rec x0 k y (z + 1) g1 L ∧ g1 12 = sgu (g 12) p (slp (m (64 + p)) (g 12 p)) ∧ g1 13 = sgu (g 13) (3 * (i + 1) + p) (slp (m (64 + p)) (g 12 p)) ∧ ∀ q : Nat, q ≠ 12 → q ≠ 13 → g1 q = g q := by
  have ep := msl1 ez hp
  have e1 := inc1 ey (by omega)
  have e64 := h.2.1 (64 + p) (by omega) (by omega)
  have e9 : sX12_weekOf_l72 rec x0 (k + 1) y z g L = sX12_weekOf_h72 rec x0 (sX12_weekOf_l72 rec x0 k) y z g L := rfl
  rw [e9]
  unfold sX12_weekOf_h72; (repeat first | rw [spl_d] | rw [spl2_d])
  rw [if_pos (show z.toInt < 3 from by omega), ep, slpM ez hp (by rw [e64]; exact hq _ (by omega) (by omega)) hv, e64, idx3 e1 (by omega) ez hp]
  refine ⟨_, rfl, ?_, ?_, fun q a b => ?_⟩
  · rw [sg_up_n (by decide), sg_up_s]
  · rw [sg_up_s, sg_up_n (by decide)]
  · rw [sg_up_n b, sg_up_n a]
theorem mslp {m : Nat → Int32} {hl : Bool} {T : Nat → Int32} {n : Nat} {g : sg_F} {x0 y : Int32} {i : Nat} (rec : Int32 → sg_F → sg_L → Int32 × sg_F) (h : mCx m hl T n g) (hq : pOk m) (ey : y.toInt = i) (hi : i ≤ 20) (hv : ∀ p : Nat, p < 3 → 0 ≤ (g 12 p).toInt ∧ (g 12 p).toInt ≤ 60) (L : sg_L) : ∃ g1 : sg_F, sX12_weekOf_l72 rec x0 4 y 0 g L = rec (y + 1) g1 L ∧ (∀ p : Nat, p < 3 → g1 12 p = slp (m (64 + p)) (g 12 p) ∧ g1 13 (3 * (i + 1) + p) = slp (m (64 + p)) (g 12 p)) ∧ (∀ j : Nat, j < 3 * (i + 1) → g1 13 j = g 13 j) ∧ ∀ q : Nat, q ≠ 12 → q ≠ 13 → g1 q = g q := by
  have a1 : (0 : Int32) + 1 = 1 := by decide
  have a2 : (1 : Int32) + 1 = 2 := by decide
  have a3 : (2 : Int32) + 1 = 3 := by decide
  have cx : ∀ g' : sg_F, (∀ q : Nat, q ≠ 12 → q ≠ 13 → g' q = g q) → mCx m hl T n g' := fun g' e => h.fr (fun j => by rw [e 1 (by decide) (by decide)]) (fun j => by rw [e 7 (by decide) (by decide)]) (by rw [e 0 (by decide) (by decide)])
  obtain ⟨g1, u1, u2, u3, u4⟩ := mslp1 (x0 := x0) (z := 0) (p := 0) rec h hq ey hi (by decide) (by decide) (hv 0 (by decide)) 3 L
  have v1 : g1 12 1 = g 12 1 := by rw [u2, sgu_n (by decide)]
  obtain ⟨g2, w1, w2, w3, w4⟩ := mslp1 (x0 := x0) (z := 1) (p := 1) rec (cx g1 u4) hq ey hi (by decide) (by decide) (by rw [v1]; exact hv 1 (by decide)) 2 L
  rw [v1] at w2 w3
  have v2 : g2 12 2 = g 12 2 := by rw [w2, sgu_n (by decide), u2, sgu_n (by decide)]
  obtain ⟨g3, x1, x2, x3, x4⟩ := mslp1 (x0 := x0) (z := 2) (p := 2) rec (cx g2 (fun q a b => (w4 q a b).trans (u4 q a b))) hq ey hi (by decide) (by decide) (by rw [v2]; exact hv 2 (by decide)) 1 L
  rw [v2] at x2 x3
  have e4 : sX12_weekOf_l72 rec x0 1 y 3 g3 L = rec (y + 1) g3 L := by
    show sX12_weekOf_h72 rec x0 (sX12_weekOf_l72 rec x0 0) y 3 g3 L = _
    unfold sX12_weekOf_h72; (repeat first | rw [spl_d] | rw [spl2_d])
    rw [if_neg (by decide)]
  refine ⟨g3, by rw [u1, a1, w1, a2, x1, a3, e4], fun p hp => ?_, fun j hj => ?_, fun q a b => ?_⟩
  · rcases (show p = 0 ∨ p = 1 ∨ p = 2 from by omega) with rfl | rfl | rfl
    · refine ⟨?_, ?_⟩
      · rw [x2, sgu_n (by decide), w2, sgu_n (by decide), u2, sgu_s]
      · rw [x3, sgu_n (by omega), w3, sgu_n (by omega), u3, sgu_s]
    · refine ⟨?_, ?_⟩
      · rw [x2, sgu_n (by decide), w2, sgu_s]
      · rw [x3, sgu_n (by omega), w3, sgu_s]
    · refine ⟨?_, ?_⟩
      · rw [x2, sgu_s]
      · rw [x3, sgu_s]
  · rw [x3, sgu_n (by omega), w3, sgu_n (by omega), u3, sgu_n (by omega)]
  · rw [x4 q a b, w4 q a b, u4 q a b]
theorem mhst1 {g : sg_F} {x0 y z : Int32} {i p : Nat} (rec : Int32 → sg_F → sg_L → Int32 × sg_F) (ey : y.toInt = i) (hi : i ≤ 20) (ez : z.toInt = p) (hp : p < 3) (k : Nat) (L : sg_L) : sX12_weekOf_l17 rec x0 (k + 1) y z g L = sX12_weekOf_l17 rec x0 k y (z + 1) (sg_up g 13 (sgu (g 13) (3 * i + p) (g 12 p))) L := by
  have ep := msl1 ez hp
  have e9 : sX12_weekOf_l17 rec x0 (k + 1) y z g L = sX12_weekOf_h17 rec x0 (sX12_weekOf_l17 rec x0 k) y z g L := rfl
  rw [e9]
  unfold sX12_weekOf_h17; (repeat first | rw [spl_d] | rw [spl2_d])
  rw [if_pos (show z.toInt < 3 from by omega), idx3 ey (by omega) ez hp, ep]
theorem mhst {g : sg_F} {x0 y : Int32} {i : Nat} (rec : Int32 → sg_F → sg_L → Int32 × sg_F) (ey : y.toInt = i) (hi : i ≤ 20) (L : sg_L) : ∃ g1 : sg_F, sX12_weekOf_l17 rec x0 4 y 0 g L = sX12_weekOf_l17 rec x0 1 y 3 g1 L ∧ (∀ p : Nat, p < 3 → g1 13 (3 * i + p) = g 12 p) ∧ (∀ j : Nat, j < 3 * i → g1 13 j = g 13 j) ∧ ∀ q : Nat, q ≠ 13 → g1 q = g q := by
  have a1 : (0 : Int32) + 1 = 1 := by decide
  have a2 : (1 : Int32) + 1 = 2 := by decide
  have a3 : (2 : Int32) + 1 = 3 := by decide
  refine ⟨_, (mhst1 (p := 0) rec ey hi (by decide) (by decide) 3 L).trans ((congrArg (fun z => sX12_weekOf_l17 rec x0 3 y z _ L) a1).trans ((mhst1 (p := 1) rec ey hi (by decide) (by decide) 2 L).trans ((congrArg (fun z => sX12_weekOf_l17 rec x0 2 y z _ L) a2).trans ((mhst1 (p := 2) rec ey hi (by decide) (by decide) 1 L).trans (congrArg (fun z => sX12_weekOf_l17 rec x0 1 y z _ L) a3))))), fun p hp => ?_, fun j hj => ?_, fun q a => ?_⟩
  · rcases (show p = 0 ∨ p = 1 ∨ p = 2 from by omega) with rfl | rfl | rfl
    · rw [sg_up_s, sgu_n (by omega), sg_up_s, sgu_n (by omega), sg_up_s, sgu_s]
    · rw [sg_up_s, sgu_n (by omega), sg_up_s, sgu_s, sg_up_n (by decide)]
    · rw [sg_up_s, sgu_s, sg_up_n (by decide), sg_up_n (by decide)]
  · rw [sg_up_s, sgu_n (by omega), sg_up_s, sgu_n (by omega), sg_up_s, sgu_n (by omega)]
  · rw [sg_up_n a, sg_up_n a, sg_up_n a]
theorem whoM_fr {g g1 : sg_F} {x0 y : Int32} {L : sg_L} (k : g1 0 6 = g 0 6) : sX12_whoSits x0 y g1 L = sX12_whoSits x0 y g L := by
  unfold sX12_whoSits sX12_isSitter; (repeat first | rw [spl_d] | rw [spl2_d])
  rw [k, pM_within, pM_within]
theorem shfM_fr {g g1 : sg_F} {x0 : Int32} {L : sg_L} (k : g1 23 = g 23) : sX12_shiftsOf x0 g1 L = sX12_shiftsOf x0 g L := by
  unfold sX12_shiftsOf; (repeat first | rw [spl_d] | rw [spl2_d])
  rw [k]
/-- who the class lets pass, who sits for the reference -/
def hWho (W : Nat → Int32) (S : Int) (N : Nat) (x0 : Int32) (g : sg_F) (LM : sg_L) : Prop := ∀ (y : Int32) (i : Nat), y.toInt = i → i < N → ((W i).toInt = -1 ∧ ((sX12_whoSits x0 y g LM).toInt < 0 ∨ (g 11 i).toInt ≠ 0)) ∨ (0 ≤ (W i).toInt ∧ (W i).toInt < S ∧ sX12_whoSits x0 y g LM = W i ∧ (g 11 i).toInt = 0)
theorem hWho.H {W : Nat → Int32} {S : Int} {N : Nat} {x0 : Int32} {g g1 : sg_F} {LM : sg_L} (h : hWho W S N x0 g LM) (k6 : g1 0 6 = g 0 6) (k11 : ∀ j : Nat, g1 11 j = g 11 j) : hWho W S N x0 g1 LM := by
  intro y i ey hi
  rw [whoM_fr (y := y) k6, k11]
  exact h y i ey hi
/-- one shift -/
theorem hshift {m : Nat → Int32} {S : Int} {hl : Bool} {T : Nat → Int32} {n : Nat} {b1 b2 b3 x0 y : Int32} {f g : sg_F} {W : Nat → Int32} {N i : Nat} (rec : Int32 → sg_F → sg_L → Int32 × sg_F) (L LM : sg_L) (hc : xCx m S hl T n f) (hS : S ≤ 8) (hm : mOk m) (hq : pOk m) (hC : mCx m hl T n g) (hr : wR m b1 b2 b3 f g) (hf : hF f g) (hw : hWho W S N x0 g LM) (ey : y.toInt = i) (hi : i < N) (hN : N ≤ 21) : ∃ g1 : sg_F, sX12_weekOf_l17 rec x0 4 y 0 g LM = rec (y + 1) g1 LM ∧ xCx m S hl T n (sX4_pass (W i) f L) ∧ xP f (sX4_pass (W i) f L) ∧ wR m b1 b2 b3 (sX4_pass (W i) f L) g1 ∧ mH g g1 ∧ (∀ p : Nat, p < 3 → g1 13 (3 * i + p) = g 12 p ∧ g1 13 (3 * (i + 1) + p) = g1 12 p) ∧ ∀ j : Nat, j < 3 * i → g1 13 j = g 13 j := by
  obtain ⟨ga, a1, a2, a3, a4⟩ := mhst (g := g) (x0 := x0) rec ey (by omega) LM
  have Ha : mH g ga := fun k j _ _ hk _ => by rw [a4 k hk]
  have hCa := hC.H Ha
  have hra : wR m b1 b2 b3 f ga := by
    unfold wR mpr
    rw [a4 0 (by decide), a4 12 (by decide)]
    exact hr
  have hfa := hf.K (xP.rf) Ha
  have hwa : hWho W S N x0 ga LM := hw.H (by rw [a4 0 (by decide)]) (fun j => by rw [a4 11 (by decide)])
  have cy := bn_clI (x := y) (by omega)
  -- up to the slip
  have up : ∃ (f1 gb : sg_F), sX12_weekOf_l17 rec x0 1 y 3 ga LM = sX12_weekOf_l72 rec x0 4 y 0 gb LM ∧ sX4_pass (W i) f L = sX4_slip f1 L ∧ xCx m S hl T n f1 ∧ xP f f1 ∧ wR m b1 b2 b3 f1 gb ∧ mH ga gb ∧ gb 13 = ga 13 := by
    have e9 : sX12_weekOf_l17 rec x0 1 y 3 ga LM = sX12_weekOf_h17 rec x0 (sX12_weekOf_l17 rec x0 0) y 3 ga LM := rfl
    rw [e9]
    unfold sX12_weekOf_h17 sX12_weekOf_b69; (repeat first | rw [spl_d] | rw [spl2_d])
    rw [if_neg (by decide), show y.toNatClampNeg = i from by omega]
    rcases hwa y i ey hi with ⟨w1, w2⟩ | ⟨w1, w2, w3, w4⟩
    · have ep : sX4_pass (W i) f L = sX4_slip f L := by
        unfold sX4_pass sX4_pass_b22; (repeat first | rw [spl_d] | rw [spl2_d])
        rw [if_pos w1]
      refine ⟨f, ga, ?_, ep, hc, xP.rf, hra, mH.rf, rfl⟩
      by_cases z : (sX12_whoSits x0 y ga LM).toInt < 0
      · rw [if_pos z]
      · rw [if_neg z, if_neg (w2.resolve_left z)]
    · obtain ⟨f1, p1, p2, p3, p4, p5, p6⟩ := hsits (s := W i) hc hS hm hq hCa hra hfa ⟨w1, w2⟩ L LM
      refine ⟨f1, _, ?_, p1, p2, p3, p4, p5, p6⟩
      rw [w3, if_neg (show ¬ (W i).toInt < 0 from by omega), if_pos w4]
  obtain ⟨f1, gb, b1', b2', b3', b4, b5, b6, b7⟩ := up
  have hCb := hCa.H b6
  obtain ⟨r1, r2, r3, r4, r5, r6⟩ := b5
  obtain ⟨gc, c1, c2, c3, c4⟩ := mslp (x0 := x0) rec hCb hq ey (by omega) (fun p hp => by rw [← r1 p hp]; exact r2 p hp) LM
  obtain ⟨s1, s2⟩ := xsl (m := m) (f := f1) b3'.1 L
  have Hc : mH gb gc := fun k j _ k2 k3 _ => by rw [c4 k k2 k3]
  have cx : ∀ q : Nat, q ≠ 14 → sX4_slip f1 L q = f1 q := s1
  rw [b2']
  refine ⟨gc, by rw [a1, b1', c1], b3'.fr (cx 1 (by decide)) (cx 2 (by decide)) (cx 4 (by decide)) (cx 7 (by decide)) (cx 9 (by decide)), b4.tr ⟨fun q _ _ _ a _ _ => cx q a, fun j _ _ => by rw [cx 13 (by decide)]⟩, ⟨fun p hp => ?_, fun p hp => ?_, ?_, ?_, ?_, ?_⟩, (Ha.tr b6).tr Hc, fun p hp => ⟨?_, ?_⟩, fun j hj => ?_⟩
  · rw [s2 p hp, (c2 p hp).1, r1 p hp]
  · rw [s2 p hp]
    have := slp_b (hq (64 + p) (by omega) (by omega)) (r2 p hp)
    exact ⟨this.1, this.2.1⟩
  · rw [c4 0 (by decide) (by decide), cx 15 (by decide)]; exact r3
  · rw [c4 0 (by decide) (by decide), cx 13 (by decide)]; exact r4
  · rw [mpr_H Hc, mpr_H Hc, mpr_H Hc, c4 0 (by decide) (by decide), cx 15 (by decide), cx 16 (by decide)]; exact r5
  · rw [cx 13 (by decide), cx 15 (by decide)]; exact r6
  · rw [c3 _ (by omega), b7, a2 p hp]
  · rw [(c2 p hp).2, (c2 p hp).1]
  · rw [c3 _ (by omega), b7, a3 j hj]
/-- what is kept of each shift -/
def hHs (W : Nat → Int32) (f : sg_F) (L : sg_L) (i : Nat) (g : sg_F) : Prop := ∀ j : Nat, 1 ≤ j → j ≤ i → ∀ p : Nat, p < 3 → g 13 (3 * j + p) = xSq W f L j 14 p
theorem hweek {m : Nat → Int32} {S : Int} {hl : Bool} {T : Nat → Int32} {n : Nat} {b1 b2 b3 x0 : Int32} {f : sg_F} {W : Nat → Int32} {N : Nat} (L LM : sg_L) (hS : S ≤ 8) (hm : mOk m) (hq : pOk m) (hN : N ≤ 21) : ∀ (k i : Nat) (y : Int32) (g : sg_F), y.toInt = i → i ≤ N → N - i < k → mCx m hl T n g → xCx m S hl T n (xSq W f L i) → wR m b1 b2 b3 (xSq W f L i) g → hF (xSq W f L i) g → hWho W S N x0 g LM → (sX12_shiftsOf x0 g LM).toInt = N → hHs W f L i g → ∃ g1 : sg_F, sX12_weekOf_l6 x0 k y g LM = (g1 0 31 + g1 0 30, g1) ∧ wR m b1 b2 b3 (xSq W f L N) g1 ∧ mH g g1 ∧ hHs W f L N g1 ∧ ∀ j : Nat, i ≤ j → j ≤ N → xCx m S hl T n (xSq W f L j) ∧ xP (xSq W f L i) (xSq W f L j) ∧ ∀ p : Nat, p < 3 → 0 ≤ (xSq W f L j 14 p).toInt ∧ (xSq W f L j 14 p).toInt ≤ 60 := by
  intro k
  induction k with
  | zero => intro i y g _ _ h; exact absurd h (by omega)
  | succ k ih =>
    intro i y g ey hi hk hC hc hr hf hw hsh hh
    have e9 : sX12_weekOf_l6 x0 (k + 1) y g LM = sX12_weekOf_h6 x0 (sX12_weekOf_l6 x0 k) y g LM := rfl
    rw [e9]
    unfold sX12_weekOf_h6; (repeat first | rw [spl_d] | rw [spl2_d])
    by_cases c : i < N
    case neg =>
      have eN : i = N := by omega
      subst eN
      rw [if_neg (show ¬ y.toInt < (sX12_shiftsOf x0 g LM).toInt from by omega)]
      refine ⟨g, rfl, hr, mH.rf, hh, fun j h1 h2 => ?_⟩
      have : j = i := by omega
      subst this
      exact ⟨hc, xP.rf, hr.2.1⟩
    rw [if_pos (show y.toInt < (sX12_shiftsOf x0 g LM).toInt from by omega)]
    obtain ⟨g1, p1, p2, p3, p4, p5, p6, p7⟩ := hshift (x0 := x0) (sX12_weekOf_l6 x0 k) L LM hc hS hm hq hC hr hf hw ey c hN
    rw [p1]
    have k6 : g1 0 6 = g 0 6 := p5 0 6 (by decide) (by decide) (by decide) (Or.inr (by decide))
    have k11 : ∀ j : Nat, g1 11 j = g 11 j := fun j => p5 11 j (by decide) (by decide) (by decide) (Or.inl (by decide))
    have k23 : g1 23 = g 23 := funext fun j => p5 23 j (by decide) (by decide) (by decide) (Or.inl (by decide))
    obtain ⟨g2, q1, q2, q3, q4, q5⟩ := ih (i + 1) (y + 1) g1 (inc1 ey (by omega)) (by omega) (by omega) (hC.H p5) p2 p4 (hf.K p3 p5) (hw.H k6 k11) (by rw [shfM_fr k23]; exact hsh) (by
      intro j h1 h2 p hp
      by_cases z : j = i + 1
      · rw [z, (p6 p hp).2, ← p4.1 p hp]; rfl
      · by_cases z1 : j = i
        · rw [z1, (p6 p hp).1, ← hr.1 p hp]
        · rw [p7 _ (by omega)]
          exact hh j h1 (by omega) p hp)
    refine ⟨g2, q1, q2, p5.tr q3, q4, fun j h1 h2 => ?_⟩
    by_cases z : j = i
    · subst z
      exact ⟨hc, xP.rf, hr.2.1⟩
    · obtain ⟨u1, u2, u3⟩ := q5 j (by omega) h2
      exact ⟨u1, p3.tr u2, u3⟩
/-! NUMBERS within what they may be, losses that are kept: the class alone -/
/-- most of the number at a place -/
def mpl (p : Nat) : Int := if p < 64 then mhi ((p % 8 : Nat) : Int) else if p < 67 then 3 else if p < 70 then 9 else 99
def xMo (f : sg_F) : Prop := (∀ p : Nat, p < 71 → 0 ≤ (f 2 p).toInt ∧ (f 2 p).toInt ≤ mpl p) ∧ ∀ d : Nat, (d : Int) < (f 32 4).toInt → (0 ≤ (f 34 d).toInt ∧ (f 34 d).toInt ≤ mpl (f 33 d).toNatClampNeg) ∧ 0 ≤ (f 35 d).toInt ∧ (f 35 d).toInt ≤ mpl (f 33 d).toNatClampNeg
theorem mhi_n : mhi 0 = 60 ∧ mhi 1 = 60 ∧ mhi 2 = 60 ∧ mhi 3 = 9 ∧ mhi 4 = 9 ∧ mhi 5 = 12 ∧ mhi 6 = 60 ∧ mhi 7 = 12 ∧ mhi 8 = 3 ∧ mhi 9 = 9 ∧ mhi 10 = 99 := by decide
theorem mpl_s {s w : Nat} (hs : s < 8) (hw : w < 8) : mpl (8 * s + w) = mhi (w : Int) := by
  unfold mpl
  rw [if_pos (by omega), show (8 * s + w) % 8 = w from by omega]
theorem xMo.ok {f : sg_F} (h : xMo f) : mOk (f 2) ∧ pOk (f 2) := by
  obtain ⟨m0, m1, m2, m3, m4, m5, m6, m7, -, -, -⟩ := mhi_n
  have z : ∀ s w : Nat, s < 8 → w < 8 → 0 ≤ (f 2 (8 * s + w)).toInt ∧ (f 2 (8 * s + w)).toInt ≤ mhi (w : Int) := fun s w hs hw => by
    rw [← mpl_s hs hw]
    exact h.1 _ (by omega)
  refine ⟨fun s hs => ⟨fun p hp => ?_, ?_, ?_, ?_, ?_, ?_⟩, fun p h1 h2 => ?_⟩
  · have := z s p hs (by omega)
    rcases (show p = 0 ∨ p = 1 ∨ p = 2 from by omega) with rfl | rfl | rfl
    · exact ⟨this.1, Int.le_trans this.2 (by decide)⟩
    · exact ⟨this.1, Int.le_trans this.2 (by decide)⟩
    · exact ⟨this.1, Int.le_trans this.2 (by decide)⟩
  · have := z s 3 hs (by decide)
    exact ⟨this.1, Int.le_trans this.2 (by decide)⟩
  · have := z s 4 hs (by decide)
    exact ⟨this.1, Int.le_trans this.2 (by decide)⟩
  · have := z s 5 hs (by decide)
    exact ⟨this.1, Int.le_trans this.2 (by decide)⟩
  · have := z s 6 hs (by decide)
    exact ⟨this.1, Int.le_trans this.2 (by decide)⟩
  · have := z s 7 hs (by decide)
    exact ⟨this.1, Int.le_trans this.2 (by decide)⟩
  · have := h.1 p h2
    refine ⟨this.1, Int.le_trans this.2 ?_⟩
    unfold mpl
    rw [if_neg (by omega)]
    by_cases c : p < 67
    · rw [if_pos c]; decide
    · rw [if_neg c]
      by_cases d : p < 70
      · rw [if_pos d]; decide
      · rw [if_neg d]; decide
theorem xMo.fr {f f1 : sg_F} (h : xMo f) (a : ∀ j : Nat, f1 2 j = f 2 j) (b : f1 32 4 = f 32 4) (c : ∀ j : Nat, f1 33 j = f 33 j) (d : ∀ j : Nat, f1 34 j = f 34 j) (e : ∀ j : Nat, f1 35 j = f 35 j) : xMo f1 := by
  refine ⟨fun p hp => by rw [a]; exact h.1 p hp, fun i hi => ?_⟩
  rw [b] at hi
  rw [c, d, e]
  exact h.2 i hi
/-! forgetting -/
theorem fgt_l (x : Int32) (L : sg_L) : ∀ (k : Nat) (a b : Int32) (f : sg_F), 0 ≤ b.toInt → b.toInt ≤ a.toInt → a.toInt ≤ 1464 → a.toInt - b.toInt < (k : Int) → ∀ j : Nat, sX0_forget_l14 x k a b f L 9 j = if b.toNatClampNeg ≤ j ∧ j < a.toNatClampNeg then -1 else f 9 j := by
  have k1 : (1 : Int32).toInt = 1 := by decide
  intro k
  induction k with
  | zero => intro a b f _ _ _ h; exact absurd h (by omega)
  | succ k ih =>
    intro a b f h0 h1 h2 h3 j
    have ca := bn_clI (x := a) (by omega)
    have cb := bn_clI h0
    have e9 : sX0_forget_l14 x (k + 1) a b f L = sX0_forget_h14 x (sX0_forget_l14 x k) a b f L := rfl
    rw [e9]
    unfold sX0_forget_h14; (repeat first | rw [spl_d] | rw [spl2_d])
    by_cases c : b.toInt < a.toInt
    · obtain ⟨i1, i2⟩ := cl_inc (x := b) (by omega) (by omega)
      rw [if_pos c, ih a (b + 1) _ (by omega) (by omega) h2 (by omega) j, sg_up_s, i2]
      by_cases z : j = b.toNatClampNeg
      · rw [if_neg (by omega), z, sgu_s, if_pos (by omega)]
      · rw [sgu_n z]
        by_cases y : b.toNatClampNeg ≤ j ∧ j < a.toNatClampNeg
        · rw [if_pos y, if_pos (by omega)]
        · rw [if_neg y, if_neg (by omega)]
    · rw [if_neg c, if_neg (by omega)]
theorem fgt {s : Int32} (hs : 0 ≤ s.toInt ∧ s.toInt ≤ 7) (f : sg_F) (L : sg_L) (j : Nat) : sX0_forget s f L 9 j = if 183 * s.toNatClampNeg ≤ j ∧ j < 183 * s.toNatClampNeg + 183 then -1 else f 9 j := by
  have k183 : (183 : Int32).toInt = 183 := by decide
  have k1 : (1 : Int32).toInt = 1 := by decide
  have e1 : (s + 1).toInt = s.toInt + 1 := (bn_addI (by omega) (by omega)).trans (by omega)
  have e2 : ((s + 1) * 183).toInt = (s + 1).toInt * 183 := bn_mulI k183 (by omega) (by omega)
  have e3 : (s * 183).toInt = s.toInt * 183 := bn_mulI k183 (by omega) (by omega)
  have c0 := bn_clI hs.1
  have c2 := bn_clI (x := (s + 1) * 183) (by omega)
  have c3 := bn_clI (x := s * 183) (by omega)
  unfold sX0_forget; (repeat first | rw [spl_d] | rw [spl2_d])
  rw [fgt_l s L 1465 _ _ f (by omega) (by omega) (by omega) (by omega) j]
  by_cases y : 183 * s.toNatClampNeg ≤ j ∧ j < 183 * s.toNatClampNeg + 183
  · rw [if_pos y, if_pos (by omega)]
  · rw [if_neg y, if_neg (by omega)]
theorem fgtA_l (L : sg_L) : ∀ (k : Nat) (y : Int32) (f : sg_F), 0 ≤ y.toInt → y.toInt ≤ 8 → 8 - y.toInt < (k : Int) → (∀ j : Nat, (j : Int) < 183 * y.toInt → f 9 j = -1) → ∀ j : Nat, j < 1464 → sX0_forgetAll_l2 k y f L 9 j = -1 := by
  intro k
  induction k with
  | zero => intro y f _ _ h; exact absurd h (by omega)
  | succ k ih =>
    intro y f h0 h1 h2 h3 j hj
    have cy := bn_clI h0
    have e9 : sX0_forgetAll_l2 (k + 1) y f L = sX0_forgetAll_h2 (sX0_forgetAll_l2 k) y f L := rfl
    rw [e9]
    unfold sX0_forgetAll_h2; (repeat first | rw [spl_d] | rw [spl2_d])
    by_cases c : y.toInt < 8
    · obtain ⟨i1, i2⟩ := cl_inc (x := y) (by omega) (by omega)
      rw [if_pos c]
      refine ih (y + 1) _ (by omega) (by omega) (by omega) (fun i hi => ?_) j hj
      rw [fgt ⟨h0, by omega⟩]
      by_cases z : 183 * y.toNatClampNeg ≤ i ∧ i < 183 * y.toNatClampNeg + 183
      · rw [if_pos z]
      · rw [if_neg z]; exact h3 i (by omega)
    · rw [if_neg c]; exact h3 j (by omega)
theorem fgtA (f : sg_F) (L : sg_L) (j : Nat) (hj : j < 1464) : sX0_forgetAll f L 9 j = -1 := by
  refine fgtA_l L 9 0 f (by decide) (by decide) (by decide) (fun i hi => ?_) j hj
  rw [show (0 : Int32).toInt = 0 from by decide] at hi
  exact absurd hi (by omega)
theorem lsv_cg {m m1 : Nat → Int32} {hl : Bool} {T : Nat → Int32} {n : Nat} {s p v : Int32} (hp : p.toNatClampNeg < 3) (h : ∀ w : Nat, w < 8 → m1 (8 * s.toNatClampNeg + w) = m (8 * s.toNatClampNeg + w)) : lsv m1 hl T n s p v = lsv m hl T n s p v := by
  unfold lsv lsr
  rw [h p.toNatClampNeg (by omega), h 3 (by decide), h 4 (by decide), h 5 (by decide)]
theorem xLo.all {m : Nat → Int32} {S : Int} {hl : Bool} {T : Nat → Int32} {n : Nat} {g : Nat → Int32} (hS : S ≤ 8) (h : ∀ j : Nat, j < 1464 → g j = -1) : xLo m S hl T n g := by
  intro s p v a1 a2 a3 a4 a5 a6
  have b1 := bn_clI a1
  have b2 := bn_clI a3
  have b3 := bn_clI a5
  left
  rw [h _ (by omega)]; decide
theorem xLo.forgets {m m1 : Nat → Int32} {S S1 : Int} {hl : Bool} {T : Nat → Int32} {n k : Nat} {g g1 : Nat → Int32} (h : xLo m S hl T n g) (hg : ∀ j : Nat, g1 j = if 183 * k ≤ j ∧ j < 183 * k + 183 then -1 else g j) (hS8 : S1 ≤ 8) (hm : ∀ s : Nat, s < 8 → s ≠ k → ∀ w : Nat, w < 8 → m1 (8 * s + w) = m (8 * s + w)) (hS : ∀ s : Nat, s ≠ k → (s : Int) < S1 → (s : Int) < S) : xLo m1 S1 hl T n g1 := by
  intro s p v a1 a2 a3 a4 a5 a6
  have b1 := bn_clI a1
  have b2 := bn_clI a3
  have b3 := bn_clI a5
  rw [hg]
  by_cases z : s.toNatClampNeg = k
  · left
    rw [if_pos (by omega)]; decide
  · rw [if_neg (by omega), lsv_cg (m := m) (by omega) (hm _ (by omega) z)]
    exact h s p v a1 (by have := hS s.toNatClampNeg z (by omega); omega) a3 a4 a5 a6
theorem xLo.becomes {m : Nat → Int32} {S : Int} {hl : Bool} {T : Nat → Int32} {n : Nat} {p v : Int32} {f : sg_F} (h : xLo m S hl T n (f 9)) (hp : 0 ≤ p.toInt ∧ p.toInt < 71) (hS : S ≤ 8) (L : sg_L) : xLo (sgu m p.toNatClampNeg v) S hl T n (sX0_becomes p v f L 9) := by
  have k8 : (8 : Int32).toInt = 8 := by decide
  have cp := bn_clI hp.1
  unfold sX0_becomes; (repeat first | rw [spl_d] | rw [spl2_d])
  by_cases c : p.toInt < 64
  · rw [if_pos c]
    have e : (p / 8).toInt = p.toInt / 8 := bn_divI hp.1 k8 (by decide)
    have c8 := bn_clI (x := p / 8) (by omega)
    refine h.forgets (k := (p / 8).toNatClampNeg) (fun j => ?_) hS (fun s hs hsk w hw => ?_) (fun s _ h => h)
    · rw [fgt ⟨by omega, by omega⟩, sg_up_n (by decide)]
    · rw [sgu_n (by omega)]
  · rw [if_neg c, sg_up_n (by decide)]
    intro s q u a1 a2 a3 a4 a5 a6
    have b1 := bn_clI a1
    have b2 := bn_clI a3
    rw [lsv_cg (m := m) (by omega) (fun w hw => sgu_n (by omega))]
    exact h s q u a1 a2 a3 a4 a5 a6
/-- numbers and losses of the class -/
def xH (hl : Bool) (T : Nat → Int32) (n : Nat) (f : sg_F) : Prop := xMo f ∧ xLo (f 2) (f 1 3).toInt hl T n (f 9)
theorem xH.fr {hl : Bool} {T : Nat → Int32} {n : Nat} {f f1 : sg_F} (h : xH hl T n f) (z : f1 1 3 = f 1 3) (a : ∀ j : Nat, f1 2 j = f 2 j) (b : f1 32 4 = f 32 4) (c : ∀ j : Nat, f1 33 j = f 33 j) (d : ∀ j : Nat, f1 34 j = f 34 j) (e : ∀ j : Nat, f1 35 j = f 35 j) (k : ∀ j : Nat, f1 9 j = f 9 j) : xH hl T n f1 := by
  refine ⟨h.1.fr a b c d e, ?_⟩
  rw [z, show f1 2 = f 2 from funext a, show f1 9 = f 9 from funext k]
  exact h.2
theorem xMo.put {f f1 : sg_F} {p v : Int32} (h : xMo f) (e2 : f1 2 = sgu (f 2) p.toNatClampNeg v) (hv : 0 ≤ v.toInt ∧ v.toInt ≤ mpl p.toNatClampNeg) (b : (f1 32 4).toInt ≤ (f 32 4).toInt) (c : ∀ j : Nat, f1 33 j = f 33 j) (d : ∀ j : Nat, f1 34 j = f 34 j) (e : ∀ j : Nat, f1 35 j = f 35 j) : xMo f1 := by
  refine ⟨fun i hi => ?_, fun i hi => ?_⟩
  · rw [e2]
    by_cases z : i = p.toNatClampNeg
    · rw [z, sgu_s]; exact hv
    · rw [sgu_n z]; exact h.1 i hi
  · rw [c, d, e]
    exact h.2 i (by omega)
theorem xH.mend {hl : Bool} {T : Nat → Int32} {n : Nat} {fX fX1 : sg_F} {LX : sg_L} {a w v r1 : Int32} (h : xH hl T n fX) (hI : sgI loX hiX fX) (hdk : (fX 32 3).toInt ≤ (fX 32 4).toInt) (e1 : (r1, fX1) = sX11_mend a w v fX LX) : xH hl T n fX1 := by
  have hb : 0 ≤ (fX 1 3).toInt ∧ (fX 1 3).toInt ≤ 8 := hI 1 3
  have hd : 0 ≤ (fX 32 3).toInt ∧ (fX 32 3).toInt ≤ 40 := hI 32 3
  have k1 : (1 : Int32).toInt = 1 := by decide
  have k8 : (8 : Int32).toInt = 8 := by decide
  have km1 : (-1 : Int32).toInt = -1 := by decide
  have pl := bX_placeOf a w fX LX hb
  obtain ⟨-, -, -, -, -, -, -, -, m8, m9, m10⟩ := mhi_n
  obtain ⟨p, ep⟩ : ∃ z : Int32, z = sX0_placeOf a w fX LX := ⟨_, rfl⟩
  unfold sX11_mend at e1; (repeat first | rw [spl_d] at e1 | rw [spl2_d] at e1)
  rw [← ep] at pl e1
  by_cases p1 : p.toInt < 0
  · rw [if_pos p1] at e1
    obtain ⟨a1, b1⟩ := Prod.mk.inj e1
    rw [b1]; exact h
  have cp := bn_clI (x := p) (by omega)
  have hw : (0 ≤ w.toInt ∧ w.toInt ≤ 10) ∧ p.toInt < 71 ∧ mpl p.toNatClampNeg = mhi w.toInt := by
    rcases pl with ⟨x1, x2, x3, x4, x5⟩ | ⟨x1, x2, x3⟩ | ⟨x1, x2, x3, x4⟩ | ⟨x1, x2, x3, x4⟩ | ⟨x1, x2, x3, x4⟩
    · have ca := bn_clI x3
      have cw := bn_clI x1
      refine ⟨by omega, by omega, ?_⟩
      rw [show p.toNatClampNeg = 8 * a.toNatClampNeg + w.toNatClampNeg from by omega, mpl_s (by omega) (by omega), cw]
    · refine ⟨by omega, by omega, ?_⟩
      unfold mpl
      rw [if_neg (by omega), if_neg (by omega), if_neg (by omega), x1, m10]
    · refine ⟨by omega, by omega, ?_⟩
      unfold mpl
      rw [if_neg (by omega), if_neg (by omega), if_pos (by omega), x1, m9]
    · refine ⟨by omega, by omega, ?_⟩
      unfold mpl
      rw [if_neg (by omega), if_pos (by omega), x1, m8]
    · exfalso
      rw [x4] at p1
      exact p1 (by decide)
  obtain ⟨w1, w2, w3⟩ := hw
  rw [if_neg p1, pX_fits v fX LX w1] at e1
  by_cases g : mlo w.toInt ≤ v.toInt ∧ v.toInt ≤ mhi w.toInt
  case neg =>
    rw [if_neg g, if_neg zk0] at e1
    obtain ⟨a1, b1⟩ := Prod.mk.inj e1
    rw [b1]; exact h
  rw [if_pos g, if_pos rfl] at e1
  have v0 : 0 ≤ v.toInt := by
    have : 0 ≤ mlo w.toInt := by
      unfold mlo
      by_cases z : w.toInt = 5
      · rw [if_pos z]; decide
      · rw [if_neg z]; decide
    omega
  by_cases c : (fX 2 p.toNatClampNeg).toInt = v.toInt
  · rw [if_pos c] at e1
    obtain ⟨a1, b1⟩ := Prod.mk.inj e1
    rw [b1]; exact h
  rw [if_neg c] at e1
  obtain ⟨a1, b1⟩ := Prod.mk.inj e1
  obtain ⟨g3, g4, g5, d, x0, x1, x2, x3, x4, x5, x6⟩ := bX_comes p (fX 2 p.toNatClampNeg) v fX LX hd
  obtain ⟨f0, ef⟩ : ∃ z : sg_F, z = sX1_comes p (fX 2 p.toNatClampNeg) v fX LX := ⟨_, rfl⟩
  rw [← ef] at x1 x2 x3 x4 x5 x6 b1
  obtain ⟨u1, u2⟩ := bX_becomes p v f0 LX
  have h9 := xLo.becomes (v := v) (f := f0) (p := p) (by rw [x6 9 (by decide) (by decide) (by decide) (by decide)]; exact h.2) ⟨by omega, w2⟩ hb.2 LX
  rw [← b1] at u1 u2 h9
  have d0 : 0 ≤ d.toInt ∧ d.toInt ≤ 39 ∧ d.toInt ≤ (fX 32 4).toInt := by
    rcases x0 with ⟨y1, y2, -⟩ | ⟨y1, y2, -⟩
    · omega
    · rw [y2]; omega
  have ed : (d + 1).toInt = d.toInt + 1 := (bn_addI (by omega) (by omega)).trans (by omega)
  have cd := bn_clI d0.1
  have e2 : fX1 2 = sgu (fX 2) p.toNatClampNeg v := by rw [u1, x6 2 (by decide) (by decide) (by decide) (by decide)]
  refine ⟨⟨fun i hi => ?_, fun i hi => ?_⟩, ?_⟩
  · rw [e2]
    by_cases z : i = p.toNatClampNeg
    · rw [z, sgu_s, w3]; exact ⟨v0, g.2⟩
    · rw [sgu_n z]; exact h.1.1 i hi
  · rw [u2 32 (by decide) (by decide), x5, ed] at hi
    rw [u2 33 (by decide) (by decide), u2 34 (by decide) (by decide), u2 35 (by decide) (by decide), x1, x2, x3]
    by_cases z : i = d.toNatClampNeg
    · rw [z, sgu_s, sgu_s, sgu_s, w3]
      have := h.1.1 p.toNatClampNeg (by omega)
      rw [w3] at this
      exact ⟨this, v0, g.2⟩
    · rw [sgu_n z, sgu_n z, sgu_n z]
      rcases x0 with ⟨y1, y2, y3, y4, y5⟩ | ⟨y1, y2, y3, y4, y5⟩
      · have wz : ∀ g : Nat → Int32, va_cpy g g 1 0 39 i = g (1 + i) := by
          intro g
          unfold va_cpy
          rw [if_pos ⟨Nat.zero_le _, by omega⟩]
          rfl
        rw [y3, y4, y5, wz, wz, wz]
        exact h.1.2 (1 + i) (by omega)
      · rw [y3, y4, y5]
        have : d.toInt = (fX 32 3).toInt := by rw [y2]
        exact h.1.2 i (by omega)
  · rw [e2, show fX1 1 3 = fX 1 3 from by rw [u2 1 (by decide) (by decide), x6 1 (by decide) (by decide) (by decide) (by decide)]]
    exact h9
theorem xH.undo {hl : Bool} {T : Nat → Int32} {n : Nat} {fX fX1 : sg_F} {LX : sg_L} {r1 : Int32} (h : xH hl T n fX) (hI : sgI loX hiX fX) (hdk : (fX 32 3).toInt ≤ (fX 32 4).toInt) (e1 : (r1, fX1) = sX11_undo fX LX) : xH hl T n fX1 := by
  have hb : 0 ≤ (fX 1 3).toInt ∧ (fX 1 3).toInt ≤ 8 := hI 1 3
  have hd : 0 ≤ (fX 32 3).toInt ∧ (fX 32 3).toInt ≤ 40 := hI 32 3
  have k1 : (1 : Int32).toInt = 1 := by decide
  unfold sX11_undo at e1; (repeat first | rw [spl_d] at e1 | rw [spl2_d] at e1)
  by_cases c : (fX 32 3).toInt = 0
  · rw [if_pos c] at e1
    obtain ⟨a1, b1⟩ := Prod.mk.inj e1
    rw [b1]; exact h
  rw [if_neg c] at e1
  obtain ⟨d, ed⟩ : ∃ z : Int32, z = fX 32 3 - 1 := ⟨_, rfl⟩
  have dt : d.toInt = (fX 32 3).toInt - 1 := by rw [ed]; exact (bn_subI (by omega) (by omega)).trans (by omega)
  have cd := bn_clI (x := d) (by omega)
  rw [← ed] at e1
  rw [sg_up_n (show 33 ≠ 32 by decide), sg_up_n (show 34 ≠ 32 by decide)] at e1
  have pb : 0 ≤ (fX 33 d.toNatClampNeg).toInt ∧ (fX 33 d.toNatClampNeg).toInt ≤ 70 := hI 33 _
  obtain ⟨a1, b1⟩ := Prod.mk.inj e1
  obtain ⟨u1, u2⟩ := bX_becomes (fX 33 d.toNatClampNeg) (fX 34 d.toNatClampNeg) (sg_up fX 32 (sgu (fX 32) 3 d)) LX
  have h9 := xLo.becomes (p := fX 33 d.toNatClampNeg) (v := fX 34 d.toNatClampNeg) (f := sg_up fX 32 (sgu (fX 32) 3 d)) (by rw [sg_up_n (by decide)]; exact h.2) ⟨pb.1, by omega⟩ hb.2 LX
  rw [← b1] at u1 u2 h9
  have e2 : fX1 2 = sgu (fX 2) (fX 33 d.toNatClampNeg).toNatClampNeg (fX 34 d.toNatClampNeg) := by rw [u1, sg_up_n (by decide)]
  refine ⟨h.1.put e2 (h.1.2 _ (by omega)).1 ?_ (fun j => ?_) (fun j => ?_) (fun j => ?_), ?_⟩
  · rw [u2 32 (by decide) (by decide), sg_up_s, sgu_n (by decide)]; exact Int.le_refl _
  · rw [u2 33 (by decide) (by decide), sg_up_n (by decide)]
  · rw [u2 34 (by decide) (by decide), sg_up_n (by decide)]
  · rw [u2 35 (by decide) (by decide), sg_up_n (by decide)]
  · rw [e2, show fX1 1 3 = fX 1 3 from by rw [u2 1 (by decide) (by decide), sg_up_n (by decide)]]
    exact h9
theorem xH.redo {hl : Bool} {T : Nat → Int32} {n : Nat} {fX fX1 : sg_F} {LX : sg_L} {r1 : Int32} (h : xH hl T n fX) (hI : sgI loX hiX fX) (e1 : (r1, fX1) = sX11_redo fX LX) : xH hl T n fX1 := by
  have hb : 0 ≤ (fX 1 3).toInt ∧ (fX 1 3).toInt ≤ 8 := hI 1 3
  have hd : 0 ≤ (fX 32 3).toInt ∧ (fX 32 3).toInt ≤ 40 := hI 32 3
  unfold sX11_redo at e1; (repeat first | rw [spl_d] at e1 | rw [spl2_d] at e1)
  by_cases c : (fX 32 3).toInt < (fX 32 4).toInt
  case neg =>
    rw [if_neg c] at e1
    obtain ⟨a1, b1⟩ := Prod.mk.inj e1
    rw [b1]; exact h
  rw [if_pos c] at e1
  have cd := bn_clI hd.1
  have pb : 0 ≤ (fX 33 (fX 32 3).toNatClampNeg).toInt ∧ (fX 33 (fX 32 3).toNatClampNeg).toInt ≤ 70 := hI 33 _
  obtain ⟨a1, b1⟩ := Prod.mk.inj e1
  obtain ⟨u1, u2⟩ := bX_becomes (fX 33 (fX 32 3).toNatClampNeg) (fX 35 (fX 32 3).toNatClampNeg) fX LX
  have h9 := xLo.becomes (p := fX 33 (fX 32 3).toNatClampNeg) (v := fX 35 (fX 32 3).toNatClampNeg) (f := fX) h.2 ⟨pb.1, by omega⟩ hb.2 LX
  have e2 : fX1 2 = sgu (fX 2) (fX 33 (fX 32 3).toNatClampNeg).toNatClampNeg (fX 35 (fX 32 3).toNatClampNeg) := by rw [b1, sg_up_n (by decide), u1]
  refine ⟨h.1.put e2 (h.1.2 _ (by omega)).2 ?_ (fun j => ?_) (fun j => ?_) (fun j => ?_), ?_⟩
  · rw [b1, sg_up_s, sgu_n (by decide), u2 32 (by decide) (by decide)]; exact Int.le_refl _
  · rw [b1, sg_up_n (by decide), u2 33 (by decide) (by decide)]
  · rw [b1, sg_up_n (by decide), u2 34 (by decide) (by decide)]
  · rw [b1, sg_up_n (by decide), u2 35 (by decide) (by decide)]
  · rw [e2, show fX1 1 3 = fX 1 3 from by rw [b1, sg_up_n (by decide), u2 1 (by decide) (by decide)], show fX1 9 = sX0_becomes (fX 33 (fX 32 3).toNatClampNeg) (fX 35 (fX 32 3).toNatClampNeg) fX LX 9 from by rw [b1, sg_up_n (by decide)]]
    exact h9
/-- one who comes -/
theorem xH.come {hl : Bool} {T : Nat → Int32} {n : Nat} {a b c t : Int32} {f : sg_F} (h : xH hl T n f) (hs : 0 ≤ (f 1 3).toInt ∧ (f 1 3).toInt < 8) (ha : 0 ≤ a.toInt ∧ a.toInt ≤ 60) (hb : 0 ≤ b.toInt ∧ b.toInt ≤ 60) (hc : 0 ≤ c.toInt ∧ c.toInt ≤ 60) (ht : 0 ≤ t.toInt ∧ t.toInt ≤ 12) (L : sg_L) : xH hl T n (sX0_comes a b c t f L).2 := by
  obtain ⟨f1, q1, q2, q3, q4⟩ := bX_come a b c t f L hs
  obtain ⟨m0, m1, m2, m3, m4, m5, -, -, -, -, -⟩ := mhi_n
  have k1 : (1 : Int32).toInt = 1 := by decide
  have cs := bn_clI hs.1
  have e9 : (f 1 3 + 1).toInt = (f 1 3).toInt + 1 := (bn_addI (by omega) (by omega)).trans (by omega)
  obtain ⟨S, eS⟩ : ∃ z : Nat, z = (f 1 3).toNatClampNeg := ⟨_, rfl⟩
  rw [← eS] at q2 cs
  have g9 : ∀ j : Nat, f1 9 j = if 183 * S ≤ j ∧ j < 183 * S + 183 then -1 else f 9 j := by
    intro j
    have e : (sX0_comes a b c t f L).2 9 j = if 183 * S ≤ j ∧ j < 183 * S + 183 then -1 else f 9 j := by
      unfold sX0_comes; (repeat first | rw [spl_d] | rw [spl2_d])
      rw [if_pos hs.2]
      dsimp only
      rw [sg_up_n (by decide), fgt ⟨hs.1, by omega⟩, ← eS]
      rfl
    rw [q1] at e
    exact e
  rw [q1]
  show xH hl T n f1
  refine ⟨⟨fun i hi => ?_, fun i hi => ?_⟩, ?_⟩
  · rw [q2]
    by_cases z5 : i = 8 * S + 5
    · rw [z5, sgu_s, mpl_s (by omega) (by decide)]; exact ⟨ht.1, Int.le_trans ht.2 (by decide)⟩
    rw [sgu_n z5]
    by_cases z4 : i = 8 * S + 4
    · rw [z4, sgu_s, mpl_s (by omega) (by decide)]; exact ⟨by decide, by decide⟩
    rw [sgu_n z4]
    by_cases z3 : i = 8 * S + 3
    · rw [z3, sgu_s, mpl_s (by omega) (by decide)]; exact ⟨by decide, by decide⟩
    rw [sgu_n z3]
    by_cases z2 : i = 8 * S + 2
    · rw [z2, sgu_s, mpl_s (by omega) (by decide)]; exact ⟨hc.1, Int.le_trans hc.2 (by decide)⟩
    rw [sgu_n z2]
    by_cases z1 : i = 8 * S + 1
    · rw [z1, sgu_s, mpl_s (by omega) (by decide)]; exact ⟨hb.1, Int.le_trans hb.2 (by decide)⟩
    rw [sgu_n z1]
    by_cases z0 : i = 8 * S
    · rw [z0, sgu_s, show 8 * S = 8 * S + 0 from rfl, mpl_s (by omega) (by decide)]; exact ⟨ha.1, Int.le_trans ha.2 (by decide)⟩
    rw [sgu_n z0]
    exact h.1.1 i hi
  · rw [q4 32 (by decide) (by decide) (by decide)] at hi
    rw [q4 33 (by decide) (by decide) (by decide), q4 34 (by decide) (by decide) (by decide), q4 35 (by decide) (by decide) (by decide)]
    exact h.1.2 i hi
  · rw [q3]
    refine h.2.forgets (k := S) g9 (by omega) (fun s hs8 hk w hw => ?_) (fun s hk hl => by omega)
    rw [q2, sgu_n (by omega), sgu_n (by omega), sgu_n (by omega), sgu_n (by omega), sgu_n (by omega), sgu_n (by omega)]
theorem xH.sitter {hl : Bool} {T : Nat → Int32} {n : Nat} {fX fX1 : sg_F} {LX : sg_L} {v t r1 : Int32} (h : xH hl T n fX) (hI : sgI loX hiX fX) (e1 : (r1, fX1) = sX11_sitter v t fX LX) : xH hl T n fX1 := by
  have hb : 0 ≤ (fX 1 3).toInt ∧ (fX 1 3).toInt ≤ 8 := hI 1 3
  have e5 : (5 : Int32).toInt = 5 := by decide
  have l5 : mlo 5 = 1 := by decide
  have h5 : mhi 5 = 12 := by decide
  unfold sX11_sitter at e1; (repeat first | rw [spl_d] at e1 | rw [spl2_d] at e1)
  rw [pX_isSetting, pX_fits t fX LX (by rw [e5]; decide), e5, l5, h5] at e1
  by_cases c1 : 0 ≤ v.toInt ∧ v.toInt ≤ 60
  case neg =>
    rw [if_neg c1, if_neg zk0] at e1
    obtain ⟨a1, b1⟩ := Prod.mk.inj e1
    rw [b1]; exact h
  rw [if_pos c1, if_pos rfl] at e1
  by_cases c2 : 1 ≤ t.toInt ∧ t.toInt ≤ 12
  case neg =>
    rw [if_neg c2, if_neg zk0] at e1
    obtain ⟨a1, b1⟩ := Prod.mk.inj e1
    rw [b1]; exact h
  rw [if_pos c2, if_pos rfl] at e1
  by_cases c3 : (fX 1 3).toInt < 8
  · have z := h.come ⟨hb.1, c3⟩ c1 c1 c1 (show 0 ≤ t.toInt ∧ t.toInt ≤ 12 from ⟨by omega, c2.2⟩) LX
    obtain ⟨a1, b1⟩ := Prod.mk.inj e1
    rw [b1]; exact z
  · have e1 : (r1, fX1) = sX0_comes v v v t fX LX := e1
    unfold sX0_comes at e1; (repeat first | rw [spl_d] at e1 | rw [spl2_d] at e1)
    rw [if_neg c3] at e1
    obtain ⟨a1, b1⟩ := Prod.mk.inj e1
    rw [b1]; exact h
theorem xH.from {hl : Bool} {T : Nat → Int32} {n : Nat} (t : Nat) (x1 x2 : Int32) (L : sg_L) (len : Int) (hlen : len ≤ 60) (hby : ∀ j : Nat, (j : Int) < len → -128 ≤ (L (41 + 2 * t) j).toInt ∧ (L (41 + 2 * t) j).toInt ≤ 127) (h2 : x2.toInt ≤ 8) : ∀ (k : Nat) (y z : Int32) (f : sg_F), 0 ≤ y.toInt → (0 ≤ y.toInt → z.toInt ≤ 1000) → xH hl T n f → (f (40 + 2 * t) 2).toInt = len → 0 ≤ len → 0 ≤ (f 1 3).toInt ∧ (f 1 3).toInt ≤ 8 → xH hl T n (sX11_fromRow_l6 t x1 x2 k y z f L).2 := by
  have k4 : (4 : Int32).toInt = 4 := by decide
  have k0 : (0 : Int32).toInt = 0 := by decide
  have k1 : (1 : Int32).toInt = 1 := by decide
  intro k
  induction k with
  | zero => intro y z f _ _ h _ _ _; exact h
  | succ k ih =>
    intro y z f hy hz h hf hl0 hb
    have e9 : sX11_fromRow_l6 t x1 x2 (k + 1) y z f L = sX11_fromRow_h6 t x1 x2 (sX11_fromRow_l6 t x1 x2 k) y z f L := rfl
    rw [e9]
    unfold sX11_fromRow_h6; (repeat first | rw [spl_d] | rw [spl2_d])
    by_cases c1 : y.toInt < x2.toInt
    case neg => rw [if_neg c1]; exact h
    rw [if_pos c1, pX_hasPlaces _ _ _ _ _ (by omega), hf, k4]
    by_cases c2 : 0 ≤ z.toInt ∧ (0 : Int) ≤ 4 ∧ z.toInt + 4 ≤ len
    case neg => rw [if_neg c2, if_neg zk0]; exact h
    rw [if_pos c2, if_pos rfl]
    have cz := bn_clI c2.1
    have q : ∀ w : Nat, w < 4 → -128 ≤ (L (41 + 2 * t) (z.toNatClampNeg + w)).toInt ∧ (L (41 + 2 * t) (z.toNatClampNeg + w)).toInt ≤ 127 := fun w hw => hby _ (by omega)
    rw [bX_from t z f L ⟨c2.1, by omega⟩ hb q]
    obtain ⟨A0, hA0⟩ : ∃ v : Int64, v = L (41 + 2 * t) z.toNatClampNeg := ⟨_, rfl⟩
    obtain ⟨A1, hA1⟩ : ∃ v : Int64, v = L (41 + 2 * t) (z.toNatClampNeg + 1) := ⟨_, rfl⟩
    obtain ⟨A2, hA2⟩ : ∃ v : Int64, v = L (41 + 2 * t) (z.toNatClampNeg + 2) := ⟨_, rfl⟩
    obtain ⟨A3, hA3⟩ : ∃ v : Int64, v = L (41 + 2 * t) (z.toNatClampNeg + 3) := ⟨_, rfl⟩
    rw [← hA0, ← hA1, ← hA2, ← hA3]
    by_cases c3 : ((0 ≤ A0.toInt ∧ A0.toInt ≤ 60) ∧ (0 ≤ A1.toInt ∧ A1.toInt ≤ 60) ∧ (0 ≤ A2.toInt ∧ A2.toInt ≤ 60) ∧ (1 ≤ A3.toInt ∧ A3.toInt ≤ 12)) ∧ (f 1 3).toInt < 8
    case neg => rw [if_neg c3, if_pos k0]; exact h
    rw [if_pos c3, if_neg (show ¬ (1 : Int32).toInt = 0 by decide)]
    obtain ⟨⟨s0, s1, s2, s3⟩, c4⟩ := c3
    have w0 : (Int64.toInt32 A0).toInt = A0.toInt := bn_l2i (by omega) (by omega)
    have w1 : (Int64.toInt32 A1).toInt = A1.toInt := bn_l2i (by omega) (by omega)
    have w2 : (Int64.toInt32 A2).toInt = A2.toInt := bn_l2i (by omega) (by omega)
    have w3 : (Int64.toInt32 A3).toInt = A3.toInt := bn_l2i (by omega) (by omega)
    have z1 := h.come (a := Int64.toInt32 A0) (b := Int64.toInt32 A1) (c := Int64.toInt32 A2) (t := Int64.toInt32 A3) ⟨hb.1, c4⟩ (by omega) (by omega) (by omega) (by omega) L
    obtain ⟨f1, p1, p2, p3, p4⟩ := bX_come (Int64.toInt32 A0) (Int64.toInt32 A1) (Int64.toInt32 A2) (Int64.toInt32 A3) f L ⟨hb.1, c4⟩
    rw [p1] at z1 ⊢
    have e9 : (f 1 3 + 1).toInt = (f 1 3).toInt + 1 := (bn_addI (by omega) (by omega)).trans (by omega)
    have ey : (y + 1).toInt = y.toInt + 1 := (bn_addI (by omega) (by omega)).trans (by omega)
    have ez : (z + 4).toInt = z.toInt + 4 := (bn_addI (by omega) (by omega)).trans (by omega)
    exact ih (y + 1) (z + 4) f1 (by omega) (fun _ => by omega) z1 (by rw [p4 _ (by omega) (by omega) (by omega)]; exact hf) hl0 (by rw [p3]; omega)
theorem xH.sitters {hl : Bool} {T : Nat → Int32} {n : Nat} {fX fX1 : sg_F} {LX : sg_L} {d i k r1 : Int32} (h : xH hl T n fX) (hy : rByte fX LX) (hI : sgI loX hiX fX) (e1 : (r1, fX1) = sX11_sitters d i k fX LX) : xH hl T n fX1 := by
  have hb : 0 ≤ (fX 1 3).toInt ∧ (fX 1 3).toInt ≤ 8 := hI 1 3
  obtain ⟨hs1, hs2⟩ := shB hI
  have k0 : (0 : Int32).toInt = 0 := by decide
  unfold sX11_sitters at e1; (repeat first | rw [spl_d] at e1 | rw [spl2_d] at e1)
  rw [pX_isShelf] at e1
  by_cases q1 : 0 ≤ d.toInt ∧ d.toInt ≤ 5
  case neg =>
    rw [if_neg q1, if_neg zk0] at e1
    obtain ⟨a1, b1⟩ := Prod.mk.inj e1
    rw [b1]; exact h
  rw [if_pos q1, if_pos rfl] at e1
  by_cases q2 : k.toInt < 1
  · rw [if_pos q2] at e1
    obtain ⟨a1, b1⟩ := Prod.mk.inj e1
    rw [b1]; exact h
  rw [if_neg q2] at e1
  by_cases q3 : 8 < k.toInt
  · rw [if_pos q3] at e1
    obtain ⟨a1, b1⟩ := Prod.mk.inj e1
    rw [b1]; exact h
  rw [if_neg q3] at e1
  by_cases q4 : (fX (40 + 2 * d.toNatClampNeg) 1).toInt = -1
  · rw [if_pos q4] at e1
    obtain ⟨a1, b1⟩ := Prod.mk.inj e1
    rw [b1]; exact h
  rw [if_neg q4] at e1
  by_cases q5 : (fX (40 + 2 * d.toNatClampNeg) 1).toInt = 0
  · rw [if_pos q5] at e1
    have cd := bn_clI q1.1
    have kb := hs2 d.toNatClampNeg (by omega)
    obtain ⟨a1, b1⟩ := Prod.mk.inj e1
    rw [b1]
    by_cases z : i.toInt ≤ 1000
    · exact xH.from d.toNatClampNeg i k LX _ kb.2 (fun j hj => hy _ (by omega) q5 j hj) (by omega) 9 0 i fX (by decide) (fun _ => z) h rfl kb.1 hb
    · have e9 : sX11_fromRow d.toNatClampNeg i k fX LX = sX11_fromRow_h6 d.toNatClampNeg i k (sX11_fromRow_l6 d.toNatClampNeg i k 8) 0 i fX LX := rfl
      have k4 : (4 : Int32).toInt = 4 := by decide
      rw [e9]
      unfold sX11_fromRow_h6; (repeat first | rw [spl_d] | rw [spl2_d])
      rw [if_pos (by omega), pX_hasPlaces _ _ _ _ _ kb, if_neg (show ¬ (0 ≤ i.toInt ∧ 0 ≤ (4 : Int32).toInt ∧ i.toInt + (4 : Int32).toInt ≤ (fX (40 + 2 * d.toNatClampNeg) 2).toInt) from fun w => by omega), if_neg zk0]
      exact h
  · rw [if_neg q5] at e1
    obtain ⟨a1, b1⟩ := Prod.mk.inj e1
    rw [b1]; exact h
/-! LAW, numbers and kept losses: both worlds -/
def rLs (fX fM : sg_F) : Prop := ∃ (hl : Bool) (T : Nat → Int32) (n : Nat), rLaw fX fM hl T n ∧ xH hl T n fX
theorem rLs.lw {fX fM : sg_F} (h : rLs fX fM) : rLw fX fM := by
  obtain ⟨hl, T, n, h, -⟩ := h
  exact ⟨hl, T, n, h⟩
theorem rLs.mo {fX fM : sg_F} (h : rLs fX fM) : xMo fX := by
  obtain ⟨hl, T, n, -, h⟩ := h
  exact h.1
theorem rLs.zero : rLs f0X f0M := by
  refine ⟨false, fun _ => 0, 0, Or.inl ⟨rfl, by decide, by decide⟩, ⟨fun p hp => ?_, fun d hd => ?_⟩, fun s p v a1 a2 => ?_⟩
  · have hz : ∀ q : Fin 71, 0 ≤ (f0X 2 q.1).toInt ∧ (f0X 2 q.1).toInt ≤ mpl q.1 := by decide
    exact hz ⟨p, hp⟩
  · exact absurd hd (by rw [show ((f0X 32 4).toInt) = 0 from by decide]; omega)
  · exact absurd a2 (by rw [show ((f0X 1 3).toInt) = 0 from by decide]; omega)
theorem rLs.fr {fX fX1 fM fM1 : sg_F} (h : rLs fX fM) (a : fX1 4 2 = fX 4 2) (b : fX1 4 9 = fX 4 9) (c : ∀ j : Nat, fX1 7 j = fX 7 j) (z1 : fX1 1 3 = fX 1 3) (z2 : ∀ j : Nat, fX1 2 j = fX 2 j) (z3 : fX1 32 4 = fX 32 4) (z4 : ∀ j : Nat, fX1 33 j = fX 33 j) (z5 : ∀ j : Nat, fX1 34 j = fX 34 j) (z6 : ∀ j : Nat, fX1 35 j = fX 35 j) (z7 : ∀ j : Nat, fX1 9 j = fX 9 j) (d : fM1 0 11 = fM 0 11) (e : ∀ j : Nat, fM1 7 j = fM 7 j) : rLs fX1 fM1 := by
  obtain ⟨hl, T, n, h, k⟩ := h
  exact ⟨hl, T, n, h.fr a b c d e, k.fr z1 z2 z3 z4 z5 z6 z7⟩
/-- the law stands, the class's numbers and losses by a word of its own -/
theorem rLs.by_ {fX fX1 fM fM1 : sg_F} (h : rLs fX fM) (k : ∀ (hl : Bool) (T : Nat → Int32) (n : Nat), xH hl T n fX → xH hl T n fX1) (a : fX1 4 2 = fX 4 2) (b : fX1 4 9 = fX 4 9) (c : ∀ j : Nat, fX1 7 j = fX 7 j) (d : fM1 0 11 = fM 0 11) (e : ∀ j : Nat, fM1 7 j = fM 7 j) : rLs fX1 fM1 := by
  obtain ⟨hl, T, n, h, k1⟩ := h
  exact ⟨hl, T, n, h.fr a b c d e, k hl T n k1⟩
/-- reading a law leaves numbers and losses alone -/
theorem xread_k (f : sg_F) (L : sg_L) (k : Nat) (h4 : k ≠ 4) (h6 : k ≠ 6) (h7 : k ≠ 7) : (sX5_isRead f L).2 k = f k := by
  unfold sX5_isRead
  rw [spl_d, spl_d, spl_d]
  obtain ⟨f3, e3⟩ : ∃ z : sg_F, z = sg_up (sg_up (sg_up f 4 (sgu (f 4) 6 0)) 4 (sgu (sg_up f 4 (sgu (f 4) 6 0) 4) 7 (-1))) 4 (sgu (sg_up (sg_up f 4 (sgu (f 4) 6 0)) 4 (sgu (sg_up f 4 (sgu (f 4) 6 0) 4) 7 (-1)) 4) 8 0) := ⟨_, rfl⟩
  rw [← e3]
  have q : f3 k = f k := by rw [e3, sg_up_n h4, sg_up_n h4, sg_up_n h4]
  have K : xK f3 (sX5_lines f3 L) := by
    unfold sX5_lines; (repeat first | rw [spl_d] | rw [spl2_d])
    exact (xline_K f3 L).tr (xlines_K L _ _ _)
  obtain ⟨g, eg⟩ : ∃ z : sg_F, z = sX5_lines f3 L := ⟨_, rfl⟩
  rw [← eg] at K ⊢
  have qg : g k = f k := (funext fun j => K k j h6 (Or.inl h4)).trans q
  (repeat first | rw [spl_d] | rw [spl2_d])
  by_cases c : (sg_up g 4 (sgu (g 4) 1 0) 4 7).toInt < 0
  · rw [if_pos c]
    dsimp only
    rw [sg_up_n h4, sg_up_n h4, sg_up_n h7, sg_up_n h4]; exact qg
  · rw [if_neg c]
    dsimp only
    rw [sg_up_n h4]; exact qg
theorem xlaw_k (f : sg_F) (L : sg_L) (k : Nat) (h4 : k ≠ 4) (h6 : k ≠ 6) (h7 : k ≠ 7) (h9 : k ≠ 9) : (sX11_law f L).2 k = f k := by
  have e := xread_k f L k h4 h6 h7
  unfold sX11_law; (repeat first | rw [spl_d] | rw [spl2_d])
  by_cases c : (sX5_isRead f L).1.toInt = 1
  · rw [if_pos c]
    dsimp only
    rw [bX_forgetAll _ _ k h9]; exact e
  · rw [if_neg c]; dsimp only; exact e
theorem xlaw_9 (f : sg_F) (L : sg_L) : ((sX11_law f L).1.toInt = 1 ∧ ∀ j : Nat, j < 1464 → (sX11_law f L).2 9 j = -1) ∨ ((sX11_law f L).1.toInt ≠ 1 ∧ (sX11_law f L).2 9 = f 9) := by
  have e := xread_k f L 9 (by decide) (by decide) (by decide)
  unfold sX11_law; (repeat first | rw [spl_d] | rw [spl2_d])
  by_cases c : (sX5_isRead f L).1.toInt = 1
  · rw [if_pos c]
    dsimp only
    exact Or.inl ⟨c, fun j hj => fgtA _ L j hj⟩
  · rw [if_neg c]
    dsimp only
    exact Or.inr ⟨c, e⟩
theorem rLs.law {fX fX1 fM fM1 : sg_F} {LX LM : sg_L} {r1 r2 : Int32} (k : rLs fX fM) (h : rTape fX fM) (hI : sgI loX hiX fX) (e1 : (r1, fX1) = sX11_law fX LX) (e2 : (r2, fM1) = sX12_law fM LM) : r1 = r2 ∧ rLs fX1 fM1 := by
  obtain ⟨a, b⟩ := h.read hI e1 e2
  obtain ⟨hl, T, n, k1, k2⟩ := k
  have hb : 0 ≤ (fX 1 3).toInt ∧ (fX 1 3).toInt ≤ 8 := hI 1 3
  have e3 : ∀ q : Nat, q ≠ 4 → q ≠ 6 → q ≠ 7 → q ≠ 9 → fX1 q = fX q := fun q a b c d => by
    have := xlaw_k fX LX q a b c d
    rw [← e1] at this
    exact this
  have mo : xMo fX1 := k2.1.fr (fun j => by rw [e3 2 (by decide) (by decide) (by decide) (by decide)]) (by rw [e3 32 (by decide) (by decide) (by decide) (by decide)]) (fun j => by rw [e3 33 (by decide) (by decide) (by decide) (by decide)]) (fun j => by rw [e3 34 (by decide) (by decide) (by decide) (by decide)]) (fun j => by rw [e3 35 (by decide) (by decide) (by decide) (by decide)])
  have e9 := xlaw_9 fX LX
  rw [← e1] at e9
  refine ⟨a, ?_⟩
  rcases e9 with ⟨c1, c2⟩ | ⟨c1, c2⟩
  · have lo : ∀ (hl : Bool) (T : Nat → Int32) (n : Nat), xH hl T n fX1 := fun hl T n => ⟨mo, xLo.all (by rw [e3 1 (by decide) (by decide) (by decide) (by decide)]; exact hb.2) c2⟩
    rcases b with ⟨b0, n1, b⟩ | ⟨b1, b2, b3, b4, b5⟩
    · exact ⟨true, fX 5, n1, b, lo _ _ _⟩
    · exact ⟨hl, T, n, k1.fr b1 b2 b3 b4 b5, lo _ _ _⟩
  · rcases b with ⟨b0, n1, b⟩ | ⟨b1, b2, b3, b4, b5⟩
    · exact absurd b0 c1
    · refine ⟨hl, T, n, k1.fr b1 b2 b3 b4 b5, mo, ?_⟩
      rw [e3 1 (by decide) (by decide) (by decide) (by decide), e3 2 (by decide) (by decide) (by decide) (by decide)]
      have c2 : fX1 9 = fX 9 := c2
      rw [c2]; exact k2.2
/-- what a question about losses finds -/
theorem rLaw.cx {fX fM : sg_F} {hl : Bool} {T : Nat → Int32} {n : Nat} (h : rLaw fX fM hl T n) (k : xH hl T n fX) (hn : rNum fX fM) : xCx (fX 2) (fX 1 3).toInt hl T n fX ∧ mCx (fX 2) hl T n fM := by
  refine ⟨⟨rfl, rfl, ?_, k.2⟩, fun s w hs hw => ?_, fun p h1 h2 => ?_, ?_⟩
  · rcases h with ⟨a, b, c⟩ | ⟨a, b, c, d, e, i, j, o, q⟩
    · exact Or.inl ⟨a, b⟩
    · exact Or.inr ⟨a, b, i, j, o, q⟩
  · rw [hn.2.1 (8 * s + w) (by omega), npl_s hs hw]
  · rw [hn.2.1 p h2, npl_t h1]
  · rcases h with ⟨a, b, c⟩ | ⟨a, b, c, d, e, i, j, o, q⟩
    · exact Or.inl ⟨a, c⟩
    · exact Or.inr ⟨a, c, d, e, i⟩
/-- and leaves -/
theorem rLs.used {fX fX1 fM fM1 : sg_F} (h : rLs fX fM) (hn : rNum fX fM) (k : ∀ (hl : Bool) (T : Nat → Int32) (n : Nat), mOk (fX 2) → pOk (fX 2) → xCx (fX 2) (fX 1 3).toInt hl T n fX → mCx (fX 2) hl T n fM → xLo (fX 2) (fX 1 3).toInt hl T n (fX1 9)) (a : fX1 4 2 = fX 4 2) (b : fX1 4 9 = fX 4 9) (c : ∀ j : Nat, fX1 7 j = fX 7 j) (z1 : fX1 1 3 = fX 1 3) (z2 : ∀ j : Nat, fX1 2 j = fX 2 j) (z3 : fX1 32 4 = fX 32 4) (z4 : ∀ j : Nat, fX1 33 j = fX 33 j) (z5 : ∀ j : Nat, fX1 34 j = fX 34 j) (z6 : ∀ j : Nat, fX1 35 j = fX 35 j) (d : fM1 0 11 = fM 0 11) (e : ∀ j : Nat, fM1 7 j = fM 7 j) : rLs fX1 fM1 := by
  obtain ⟨hl, T, n, h, k1⟩ := h
  obtain ⟨x1, x2⟩ := h.cx k1 hn
  obtain ⟨o1, o2⟩ := k1.1.ok
  refine ⟨hl, T, n, h.fr a b c d e, k1.1.fr z2 z3 z4 z5 z6, ?_⟩
  rw [z1, show fX1 2 = fX 2 from funext z2]
  exact k hl T n o1 o2 x1 x2
/-! A WEEK is read, a week begins -/
/-- who sits by an element; -1: nobody -/
def wh (S : Int) (w : Int64) : Int32 := if 0 ≤ w.toInt ∧ w.toInt < S then Int64.toInt32 w else -1
/-- how often one sits within so many shifts -/
def tms (W : Nat → Int32) (s : Nat) : Nat → Int32
  | 0 => 0
  | i + 1 => if (W i).toInt = s then tms W s i + 1 else tms W s i
/-- in how many shifts anybody sits -/
def tos (W : Nat → Int32) : Nat → Int32
  | 0 => 0
  | i + 1 => if 0 ≤ (W i).toInt then tos W i + 1 else tos W i
theorem wh_b {S : Int} {w : Int64} (hS : S ≤ 8) : (wh S w).toInt = -1 ∨ (0 ≤ (wh S w).toInt ∧ (wh S w).toInt < S ∧ (wh S w).toInt = w.toInt) := by
  unfold wh
  by_cases c : 0 ≤ w.toInt ∧ w.toInt < S
  · rw [if_pos c]
    have e : (Int64.toInt32 w).toInt = w.toInt := bn_l2i (by omega) (by omega)
    exact Or.inr ⟨by omega, by omega, e⟩
  · rw [if_neg c]; exact Or.inl (by decide)
/-- what reading a week leaves -/
def xRd (W : Nat → Int32) (N : Nat) (f f1 : sg_F) : Prop := (f1 10 2).toInt = N ∧ f1 10 3 = tos W N ∧ (∀ i : Nat, i < N → f1 11 i = W i) ∧ (∀ s : Nat, s < 8 → f1 12 s = tms W s N) ∧ (∀ q : Nat, q ≠ 10 → q ≠ 11 → q ≠ 12 → f1 q = f q) ∧ ∀ j : Nat, j ≠ 2 → j ≠ 3 → f1 10 j = f 10 j
theorem xrd_l {t : Nat} {x1 : Int32} {L : sg_L} {f0 : sg_F} {N : Nat} (hN : N ≤ 21) (hx : 0 ≤ x1.toInt ∧ x1.toInt ≤ 8) (hby : ∀ j : Nat, j < N → -128 ≤ (L (41 + 2 * t) j).toInt ∧ (L (41 + 2 * t) j).toInt ≤ 127) : ∀ (k i : Nat) (y : Int32) (f : sg_F), y.toInt = i → i ≤ N → N - i < k → (f 10 2).toInt = N → f 10 3 = tos (fun j => wh x1.toInt (L (41 + 2 * t) j)) i → (∀ j : Nat, j < i → f 11 j = wh x1.toInt (L (41 + 2 * t) j)) → (∀ s : Nat, s < 8 → f 12 s = tms (fun j => wh x1.toInt (L (41 + 2 * t) j)) s i) → (∀ q : Nat, q ≠ 10 → q ≠ 11 → q ≠ 12 → f q = f0 q) → (∀ j : Nat, j ≠ 2 → j ≠ 3 → f 10 j = f0 10 j) → xRd (fun j => wh x1.toInt (L (41 + 2 * t) j)) N f0 (sX10_reads_l41 t x1 k y f L) := by
  obtain ⟨W, eW⟩ : ∃ z : Nat → Int32, z = fun j => wh x1.toInt (L (41 + 2 * t) j) := ⟨_, rfl⟩
  rw [← eW]
  have eWj : ∀ j : Nat, W j = wh x1.toInt (L (41 + 2 * t) j) := fun j => by rw [eW]
  intro k
  induction k with
  | zero => intro i y f _ _ h; exact absurd h (by omega)
  | succ k ih =>
    intro i y f ey hi hk h2 h3 h11 h12 hfr hfr2
    have e9 : sX10_reads_l41 t x1 (k + 1) y f L = sX10_reads_h41 t x1 (sX10_reads_l41 t x1 k) y f L := rfl
    have cy := bn_clI (x := y) (by omega)
    have eyn : y.toNatClampNeg = i := by omega
    rw [e9]
    unfold sX10_reads_h41 sX10_reads_b112; (repeat first | rw [spl_d] | rw [spl2_d])
    by_cases c : i < N
    case neg =>
      rw [if_neg (by omega)]
      have : i = N := by omega
      subst this
      exact ⟨h2, h3, fun j hj => by rw [h11 j hj, eWj], h12, hfr, hfr2⟩
    rw [if_pos (by omega), eyn]
    have hb := hby i c
    obtain ⟨w, ew⟩ : ∃ z : Int64, z = L (41 + 2 * t) i := ⟨_, rfl⟩
    rw [← ew] at hb ⊢
    have wi : (Int64.toInt32 w).toInt = w.toInt := bn_l2i (by omega) (by omega)
    have hWi : W i = wh x1.toInt w := by rw [eWj, ew]
    have m1 : (-1 : Int32).toInt = -1 := by decide
    -- nobody
    have no : W i = -1 → xRd W N f0 (sX10_reads_l41 t x1 k (y + 1) (sg_up f 11 (sgu (f 11) i (-1))) L) := by
      intro e1
      refine ih (i + 1) (y + 1) _ (inc1 ey (by omega)) (by omega) (by omega) (by rw [sg_up_n (by decide)]; exact h2) ?_ (fun j hj => ?_) (fun s hs => ?_) (fun q a b d => by rw [sg_up_n b]; exact hfr q a b d) (fun j a b => by rw [sg_up_n (by decide)]; exact hfr2 j a b)
      · rw [sg_up_n (by decide), h3]
        show tos W i = if 0 ≤ (W i).toInt then tos W i + 1 else tos W i
        rw [if_neg (by rw [e1]; omega)]
      · rw [sg_up_s]
        by_cases z : j = i
        · rw [z, sgu_s, ← eWj, e1]
        · rw [sgu_n z]; exact h11 j (by omega)
      · rw [sg_up_n (by decide), h12 s hs]
        show tms W s i = if (W i).toInt = s then tms W s i + 1 else tms W s i
        rw [if_neg (by rw [e1]; omega)]
    by_cases c1 : w.toInt < 0
    · rw [if_pos (by omega)]
      exact no (by rw [hWi]; unfold wh; rw [if_neg (by omega)])
    rw [if_neg (by omega)]
    by_cases c2 : w.toInt < x1.toInt
    case neg =>
      rw [if_neg (by omega)]
      exact no (by rw [hWi]; unfold wh; rw [if_neg (by omega)])
    rw [if_pos (by omega)]
    have eW1 : W i = Int64.toInt32 w := by rw [hWi]; unfold wh; rw [if_pos ⟨by omega, c2⟩]
    have cw := bn_clI (x := Int64.toInt32 w) (by omega)
    obtain ⟨s0, es0⟩ : ∃ z : Nat, z = (Int64.toInt32 w).toNatClampNeg := ⟨_, rfl⟩
    rw [← es0]
    refine ih (i + 1) (y + 1) _ (inc1 ey (by omega)) (by omega) (by omega) ?_ ?_ (fun j hj => ?_) (fun s hs => ?_) (fun q a b d => ?_) (fun j a b => ?_)
    · rw [sg_up_s, sgu_n (by decide), sg_up_n (by decide), sg_up_n (by decide)]; exact h2
    · rw [sg_up_s, sgu_s, sg_up_n (by decide), sg_up_n (by decide), h3]
      show tos W i + 1 = if 0 ≤ (W i).toInt then tos W i + 1 else tos W i
      rw [if_pos (by rw [eW1]; omega)]
    · rw [sg_up_n (by decide), sg_up_n (by decide), sg_up_s]
      by_cases z : j = i
      · rw [z, sgu_s, ← eWj, eW1]
      · rw [sgu_n z]; exact h11 j (by omega)
    · rw [sg_up_n (by decide), sg_up_s, sg_up_n (by decide)]
      show _ = if (W i).toInt = s then tms W s i + 1 else tms W s i
      by_cases z : s = s0
      · rw [z, sgu_s, h12 s0 (by omega), if_pos (by rw [eW1]; omega)]
      · rw [sgu_n z, h12 s hs, if_neg (by rw [eW1]; omega)]
    · rw [sg_up_n a, sg_up_n d, sg_up_n b]; exact hfr q a b d
    · rw [sg_up_s, sgu_n b, sg_up_n (by decide), sg_up_n (by decide)]; exact hfr2 j a b
theorem xrd_0 {t : Nat} {x1 : Int32} {L : sg_L} {f0 : sg_F} : ∀ (k i : Nat) (y : Int32) (f : sg_F), y.toInt = i → i ≤ 8 → 8 - i < k → (∀ s : Nat, s < i → f 12 s = 0) → (∀ q : Nat, q ≠ 12 → f q = f0 q) → ∃ f1 : sg_F, sX10_reads_l20 t x1 k y f L = sX10_reads_l41 t x1 22 0 f1 L ∧ (∀ s : Nat, s < 8 → f1 12 s = 0) ∧ ∀ q : Nat, q ≠ 12 → f1 q = f0 q := by
  intro k
  induction k with
  | zero => intro i y f _ _ h; exact absurd h (by omega)
  | succ k ih =>
    intro i y f ey hi hk h12 hfr
    have e9 : sX10_reads_l20 t x1 (k + 1) y f L = sX10_reads_h20 t x1 (sX10_reads_l20 t x1 k) y f L := rfl
    have cy := bn_clI (x := y) (by omega)
    rw [e9]
    unfold sX10_reads_h20; (repeat first | rw [spl_d] | rw [spl2_d])
    by_cases c : i < 8
    case neg => rw [if_neg (by omega)]; exact ⟨f, rfl, fun s hs => h12 s (by omega), hfr⟩
    rw [if_pos (by omega), show y.toNatClampNeg = i from by omega]
    refine ih (i + 1) (y + 1) _ (inc1 ey (by omega)) (by omega) (by omega) (fun s hs => ?_) (fun q hq => by rw [sg_up_n hq]; exact hfr q hq)
    rw [sg_up_s]
    by_cases z : s = i
    · rw [z, sgu_s]
    · rw [sgu_n z]; exact h12 s (by omega)
/-- how many shifts -/
def nsh (len : Int) : Nat := if len < 21 then len.toNat else 21
theorem nsh_le (len : Int) : nsh len ≤ 21 := by
  unfold nsh
  by_cases c : len < 21
  · rw [if_pos c]; omega
  · rw [if_neg c]; omega
theorem nsh_lt {len : Int} {j : Nat} (h : j < nsh len) : (j : Int) < len := by
  unfold nsh at h
  by_cases c : len < 21
  · rw [if_pos c] at h; omega
  · rw [if_neg c] at h; omega
theorem xrd {t : Nat} {x1 : Int32} {L : sg_L} {f : sg_F} (hl : 0 ≤ (f (40 + 2 * t) 2).toInt) (hx : 0 ≤ x1.toInt ∧ x1.toInt ≤ 8) (hby : ∀ j : Nat, (j : Int) < (f (40 + 2 * t) 2).toInt → -128 ≤ (L (41 + 2 * t) j).toInt ∧ (L (41 + 2 * t) j).toInt ≤ 127) : xRd (fun j => wh x1.toInt (L (41 + 2 * t) j)) (nsh (f (40 + 2 * t) 2).toInt) f (sX10_reads t x1 f L) := by
  have k21 : (21 : Int32).toInt = 21 := by decide
  have m := bn_minI (f (40 + 2 * t) 2) 21
  obtain ⟨v, ev⟩ : ∃ z : Int32, z = (if f (40 + 2 * t) 2 < 21 then f (40 + 2 * t) 2 else 21) := ⟨_, rfl⟩
  rw [← ev] at m
  have hv : v.toInt = nsh (f (40 + 2 * t) 2).toInt := by
    unfold nsh
    by_cases c : (f (40 + 2 * t) 2).toInt < 21
    · rw [if_pos c]; omega
    · rw [if_neg c]; omega
  unfold sX10_reads; (repeat first | rw [spl_d] | rw [spl2_d])
  rw [← ev]
  obtain ⟨f2, e2⟩ : ∃ z : sg_F, z = sg_up (sg_up f 10 (sgu (f 10) 2 v)) 10 (sgu (sg_up f 10 (sgu (f 10) 2 v) 10) 3 0) := ⟨_, rfl⟩
  rw [← e2]
  obtain ⟨f1, a1, a2, a3⟩ := xrd_0 (t := t) (x1 := x1) (L := L) (f0 := f2) 9 0 0 f2 (by decide) (by decide) (by decide) (fun s hs => absurd hs (by omega)) (fun _ _ => rfl)
  rw [a1]
  have b2 : f1 10 2 = v := by rw [a3 10 (by decide), e2]; rfl
  have b3 : f1 10 3 = 0 := by rw [a3 10 (by decide), e2]; rfl
  refine xrd_l (nsh_le _) hx (fun j hj => hby j (nsh_lt hj)) 22 0 0 f1 (by decide) (Nat.zero_le _) (by have := nsh_le (f (40 + 2 * t) 2).toInt; omega) (by rw [b2]; exact hv) b3 (fun j hj => absurd hj (by omega)) a2 (fun q h1 _ h3 => ?_) (fun j h2 h3 => ?_)
  · rw [a3 q h3, e2, sg_up_n h1, sg_up_n h1]
  · rw [a3 10 (by decide), e2, sg_up_s, sgu_n h3, sg_up_s, sgu_n h2]
/-! a week begins -/
theorem xst_l {L : sg_L} {f0 : sg_F} : ∀ (k i : Nat) (y : Int32) (f : sg_F), y.toInt = i → i ≤ 3 → 3 - i < k → (∀ p : Nat, p < i → f 14 p = f0 3 p) → (∀ q : Nat, q ≠ 14 → f q = f0 q) → (∀ p : Nat, p < 3 → sX4_standAsNow_l2 k y f L 14 p = f0 3 p) ∧ ∀ q : Nat, q ≠ 14 → sX4_standAsNow_l2 k y f L q = f0 q := by
  intro k
  induction k with
  | zero => intro i y f _ _ h; exact absurd h (by omega)
  | succ k ih =>
    intro i y f ey hi hk h14 hfr
    have e9 : sX4_standAsNow_l2 (k + 1) y f L = sX4_standAsNow_h2 (sX4_standAsNow_l2 k) y f L := rfl
    have cy := bn_clI (x := y) (by omega)
    rw [e9]
    unfold sX4_standAsNow_h2; (repeat first | rw [spl_d] | rw [spl2_d])
    by_cases c : i < 3
    case neg => rw [if_neg (by omega)]; exact ⟨fun p hp => h14 p (by omega), hfr⟩
    rw [if_pos (by omega), show y.toNatClampNeg = i from by omega]
    refine ih (i + 1) (y + 1) _ (inc1 ey (by omega)) (by omega) (by omega) (fun p hp => ?_) (fun q hq => by rw [sg_up_n hq]; exact hfr q hq)
    rw [sg_up_s]
    by_cases z : p = i
    · rw [z, sgu_s, hfr 3 (by decide)]
    · rw [sgu_n z]; exact h14 p (by omega)
theorem xst (f : sg_F) (L : sg_L) : (∀ p : Nat, p < 3 → sX4_standAsNow f L 14 p = f 3 p) ∧ ∀ q : Nat, q ≠ 14 → sX4_standAsNow f L q = f q := xst_l 4 0 0 f (by decide) (by decide) (by decide) (fun p hp => absurd hp (by omega)) (fun _ _ => rfl)
theorem xbg2 {L : sg_L} {f0 : sg_F} : ∀ (k i : Nat) (y : Int32) (f : sg_F), y.toInt = i → i ≤ 8 → 8 - i < k → (∀ s : Nat, s < i → f 16 s = 0) → (∀ q : Nat, q ≠ 16 → f q = f0 q) → ∃ f1 : sg_F, sX4_begin_l32 k y f L = sX4_standAsNow f1 L ∧ (∀ s : Nat, s < 8 → f1 16 s = 0) ∧ ∀ q : Nat, q ≠ 16 → f1 q = f0 q := by
  intro k
  induction k with
  | zero => intro i y f _ _ h; exact absurd h (by omega)
  | succ k ih =>
    intro i y f ey hi hk h16 hfr
    have e9 : sX4_begin_l32 (k + 1) y f L = sX4_begin_h32 (sX4_begin_l32 k) y f L := rfl
    have cy := bn_clI (x := y) (by omega)
    rw [e9]
    unfold sX4_begin_h32; (repeat first | rw [spl_d] | rw [spl2_d])
    by_cases c : i < 8
    case neg => rw [if_neg (by omega)]; exact ⟨f, rfl, fun s hs => h16 s (by omega), hfr⟩
    rw [if_pos (by omega), show y.toNatClampNeg = i from by omega]
    refine ih (i + 1) (y + 1) _ (inc1 ey (by omega)) (by omega) (by omega) (fun s hs => ?_) (fun q hq => by rw [sg_up_n hq]; exact hfr q hq)
    rw [sg_up_s]
    by_cases z : s = i
    · rw [z, sgu_s]
    · rw [sgu_n z]; exact h16 s (by omega)
theorem xbg1 {L : sg_L} {f0 : sg_F} : ∀ (k i : Nat) (y : Int32) (f : sg_F), y.toInt = i → i ≤ 3 → 3 - i < k → (∀ s : Nat, s < i → f 15 s = 0) → (∀ q : Nat, q ≠ 15 → f q = f0 q) → ∃ f1 : sg_F, sX4_begin_l12 k y f L = sX4_begin_l32 9 0 f1 L ∧ (∀ s : Nat, s < 3 → f1 15 s = 0) ∧ ∀ q : Nat, q ≠ 15 → f1 q = f0 q := by
  intro k
  induction k with
  | zero => intro i y f _ _ h; exact absurd h (by omega)
  | succ k ih =>
    intro i y f ey hi hk h15 hfr
    have e9 : sX4_begin_l12 (k + 1) y f L = sX4_begin_h12 (sX4_begin_l12 k) y f L := rfl
    have cy := bn_clI (x := y) (by omega)
    rw [e9]
    unfold sX4_begin_h12; (repeat first | rw [spl_d] | rw [spl2_d])
    by_cases c : i < 3
    case neg => rw [if_neg (by omega)]; exact ⟨f, rfl, fun s hs => h15 s (by omega), hfr⟩
    rw [if_pos (by omega), show y.toNatClampNeg = i from by omega]
    refine ih (i + 1) (y + 1) _ (inc1 ey (by omega)) (by omega) (by omega) (fun s hs => ?_) (fun q hq => by rw [sg_up_n hq]; exact hfr q hq)
    rw [sg_up_s]
    by_cases z : s = i
    · rw [z, sgu_s]
    · rw [sgu_n z]; exact h15 s (by omega)
theorem xbg (f : sg_F) (L : sg_L) : (∀ p : Nat, p < 3 → sX4_begin f L 14 p = f 3 p ∧ sX4_begin f L 15 p = 0) ∧ (∀ s : Nat, s < 8 → sX4_begin f L 16 s = 0) ∧ sX4_begin f L 13 5 = 0 ∧ sX4_begin f L 13 6 = 0 ∧ (∀ j : Nat, j ≠ 5 → j ≠ 6 → sX4_begin f L 13 j = f 13 j) ∧ ∀ q : Nat, q ≠ 13 → q ≠ 14 → q ≠ 15 → q ≠ 16 → sX4_begin f L q = f q := by
  unfold sX4_begin; (repeat first | rw [spl_d] | rw [spl2_d])
  obtain ⟨f0, e0⟩ : ∃ z : sg_F, z = sg_up (sg_up f 13 (sgu (f 13) 5 0)) 13 (sgu (sg_up f 13 (sgu (f 13) 5 0) 13) 6 0) := ⟨_, rfl⟩
  rw [← e0]
  obtain ⟨f1, a1, a2, a3⟩ := xbg1 (L := L) (f0 := f0) 4 0 0 f0 (by decide) (by decide) (by decide) (fun s hs => absurd hs (by omega)) (fun _ _ => rfl)
  obtain ⟨f2, b1, b2, b3⟩ := xbg2 (L := L) (f0 := f1) 9 0 0 f1 (by decide) (by decide) (by decide) (fun s hs => absurd hs (by omega)) (fun _ _ => rfl)
  obtain ⟨c1, c2⟩ := xst f2 L
  rw [a1, b1]
  have h13 : sX4_standAsNow f2 L 13 = f0 13 := by rw [c2 13 (by decide), b3 13 (by decide), a3 13 (by decide)]
  have hq : ∀ q : Nat, q ≠ 13 → f0 q = f q := fun q hq => by rw [e0, sg_up_n hq, sg_up_n hq]
  refine ⟨fun p hp => ⟨?_, ?_⟩, fun s hs => ?_, ?_, ?_, fun j h5 h6 => ?_, fun q h1 h2 h3 h4 => ?_⟩
  · rw [c1 p hp, b3 3 (by decide), a3 3 (by decide), hq 3 (by decide)]
  · rw [c2 15 (by decide), b3 15 (by decide), a2 p hp]
  · rw [c2 16 (by decide), b2 s hs]
  · rw [h13, e0, sg_up_s, sgu_n (by decide), sg_up_s, sgu_s]
  · rw [h13, e0, sg_up_s, sgu_s]
  · rw [h13, e0, sg_up_s, sgu_n h6, sg_up_s, sgu_n h5]
  · rw [c2 q h2, b3 q h4, a3 q h3, hq q h1]
theorem mbg_l {L : sg_L} {g0 : sg_F} : ∀ (k i : Nat) (y : Int32) (g : sg_F), y.toInt = i → i ≤ 3 → 3 - i < k → (∀ p : Nat, p < i → g 12 p = g0 5 p) → (∀ q : Nat, q ≠ 12 → g q = g0 q) → ∃ g1 : sg_F, sX12_beginsWeek_l2 k y g L = sg_up (sg_up (sg_up g1 0 (sgu (g1 0) 29 0)) 0 (sgu (sg_up g1 0 (sgu (g1 0) 29 0) 0) 30 0)) 0 (sgu (sg_up (sg_up g1 0 (sgu (g1 0) 29 0)) 0 (sgu (sg_up g1 0 (sgu (g1 0) 29 0) 0) 30 0) 0) 31 0) ∧ (∀ p : Nat, p < 3 → g1 12 p = g0 5 p) ∧ ∀ q : Nat, q ≠ 12 → g1 q = g0 q := by
  intro k
  induction k with
  | zero => intro i y g _ _ h; exact absurd h (by omega)
  | succ k ih =>
    intro i y g ey hi hk h12 hfr
    have e9 : sX12_beginsWeek_l2 (k + 1) y g L = sX12_beginsWeek_h2 (sX12_beginsWeek_l2 k) y g L := rfl
    have cy := bn_clI (x := y) (by omega)
    rw [e9]
    unfold sX12_beginsWeek_h2; (repeat first | rw [spl_d] | rw [spl2_d])
    by_cases c : i < 3
    case neg => rw [if_neg (by omega)]; exact ⟨g, rfl, fun p hp => h12 p (by omega), hfr⟩
    rw [if_pos (by omega), show y.toNatClampNeg = i from by omega]
    refine ih (i + 1) (y + 1) _ (inc1 ey (by omega)) (by omega) (by omega) (fun p hp => ?_) (fun q hq => by rw [sg_up_n hq]; exact hfr q hq)
    rw [sg_up_s]
    by_cases z : p = i
    · rw [z, sgu_s, hfr 5 (by decide)]
    · rw [sgu_n z]; exact h12 p (by omega)
theorem mbg (g : sg_F) (L : sg_L) : (∀ p : Nat, p < 3 → sX12_beginsWeek g L 12 p = g 5 p) ∧ sX12_beginsWeek g L 0 29 = 0 ∧ sX12_beginsWeek g L 0 30 = 0 ∧ sX12_beginsWeek g L 0 31 = 0 ∧ mH g (sX12_beginsWeek g L) := by
  obtain ⟨g1, a1, a2, a3⟩ := mbg_l (L := L) (g0 := g) 4 0 0 g (by decide) (by decide) (by decide) (fun p hp => absurd hp (by omega)) (fun _ _ => rfl)
  have e0 : sX12_beginsWeek g L = sX12_beginsWeek_l2 4 0 g L := rfl
  rw [e0, a1]
  refine ⟨fun p hp => ?_, ?_, ?_, ?_, ?_⟩
  · rw [sg_up_n (by decide), sg_up_n (by decide), sg_up_n (by decide)]; exact a2 p hp
  · rw [sg_up_s, sgu_n (by decide), sg_up_s, sgu_n (by decide), sg_up_s, sgu_s]
  · rw [sg_up_s, sgu_n (by decide), sg_up_s, sgu_s]
  · rw [sg_up_s, sgu_s]
  · have h1 : mH g g1 := fun k j _ h12 _ _ => by rw [a3 k h12]
    exact ((h1.tr (mH.put (Or.inl rfl))).tr (mH.put (Or.inr (Or.inl rfl)))).tr (mH.put (Or.inr (Or.inr rfl)))
/-! THE WEEK of a row: both sides from their beginnings -/
/-- where the settings stand for both -/
def rSt (fX fM : sg_F) : Prop := ∀ p : Nat, p < 3 → fX 3 p = fM 5 p
/-- nothing is changed for the sake of a question between two calls -/
def rIdle (fX fM : sg_F) : Prop := fX 13 7 = -1 ∧ fX 13 9 = -1 ∧ fM 0 20 = -1 ∧ fM 0 22 = 0 ∧ fM 0 23 = 0 ∧ fM 0 24 = -1 ∧ ∀ j : Nat, fM 11 j = 0
theorem rSt.zero : rSt f0X f0M := by
  intro p hp
  have hz : ∀ q : Fin 3, f0X 3 q.1 = f0M 5 q.1 := by decide
  exact hz ⟨p, hp⟩
theorem rSt.fr {fX fX1 fM fM1 : sg_F} (h : rSt fX fM) (a : ∀ j : Nat, fX1 3 j = fX 3 j) (b : ∀ j : Nat, fM1 5 j = fM 5 j) : rSt fX1 fM1 := fun p hp => by
  rw [a, b]
  exact h p hp
theorem rIdle.zero : rIdle f0X f0M := ⟨rfl, rfl, rfl, rfl, rfl, rfl, fun _ => rfl⟩
theorem rIdle.fr {fX fX1 fM fM1 : sg_F} (h : rIdle fX fM) (a7 : fX1 13 7 = fX 13 7) (a9 : fX1 13 9 = fX 13 9) (b0 : fM1 0 20 = fM 0 20) (b2 : fM1 0 22 = fM 0 22) (b3 : fM1 0 23 = fM 0 23) (b4 : fM1 0 24 = fM 0 24) (c : ∀ j : Nat, fM1 11 j = fM 11 j) : rIdle fX1 fM1 := by
  unfold rIdle
  rw [a7, a9, b0, b2, b3, b4, show fM1 11 = fM 11 from funext c]
  exact h
theorem bt_0 (s : Int32) : bt 0 s = false := by
  unfold bt
  have e : (0 : Int32) >>> (s &&& 31) = 0 := Int32.zero_shiftRight
  rw [e]; decide
theorem spN_k0 {h : Nat → Int32} : ∀ n : Nat, spN 0 h n = 0 := by
  intro n
  induction n with
  | zero => rfl
  | succ n ih =>
    show spN 0 h n + (if bt 0 (Int32.ofNat n) = true then h n else 0) = 0
    rw [ih, bt_0, if_neg Bool.false_ne_true]; rfl
theorem rIdle.hF {f g : sg_F} (h : rIdle f g) : hF f g := by
  obtain ⟨a, b, c, d, e, i, -⟩ := h
  refine ⟨by rw [a, c], fun z => ?_, by rw [b, i], fun z => ?_, fun s z => by rw [e]; decide⟩
  · rw [a] at z; exact absurd z (by decide)
  · rw [b] at z; exact absurd z (by decide)
/-- a week begins on both sides -/
theorem wbeg {m : Nat → Int32} {f g : sg_F} (hs : ∀ p : Nat, p < 3 → f 3 p = g 5 p) (hb : ∀ p : Nat, p < 3 → 0 ≤ (f 3 p).toInt ∧ (f 3 p).toInt ≤ 60) (L LM : sg_L) : wR m 0 0 0 (sX4_begin f L) (sX12_beginsWeek g LM) ∧ xP f (sX4_begin f L) ∧ mH g (sX12_beginsWeek g LM) := by
  obtain ⟨x1, x2, x3, x4, x5, x6⟩ := xbg f L
  obtain ⟨y1, y2, y3, y4, y5⟩ := mbg g LM
  refine ⟨⟨fun p hp => ?_, fun p hp => ?_, ?_, ?_, ?_, ?_⟩, ⟨fun q _ _ a b c d => x6 q a b c d, x5⟩, y5⟩
  · rw [(x1 p hp).1, y1 p hp, hs p hp]
  · rw [(x1 p hp).1]; exact hb p hp
  · rw [y2, (x1 0 (by decide)).2, (x1 1 (by decide)).2, (x1 2 (by decide)).2]; rfl
  · rw [y3, x3]; rfl
  · rw [y4, (x1 0 (by decide)).2, (x1 1 (by decide)).2, (x1 2 (by decide)).2, spN_0 x2 8 (Nat.le_refl 8), Int32.zero_mul, Int32.zero_mul, Int32.zero_mul]
  · rw [x3, x4, (x1 0 (by decide)).2, (x1 1 (by decide)).2, (x1 2 (by decide)).2, Int32.zero_mul, Int32.zero_mul, Int32.zero_mul]; rfl
/-- the class lives so many shifts -/
theorem xlive {W : Nat → Int32} {f : sg_F} {L : sg_L} {x0 : Int32} {n : Nat} (hn : x0.toInt = n) (h21 : n ≤ 21) (h11 : ∀ j : Nat, j ≤ n → ∀ i : Nat, i < n → xSq W (sX4_begin f L) L j 11 i = W i) : sX4_live x0 f L = xSq W (sX4_begin f L) L n := by
  have go : ∀ (k i : Nat) (y : Int32), y.toInt = i → i ≤ n → n - i < k → sX4_live_l6 x0 k y (xSq W (sX4_begin f L) L i) L = xSq W (sX4_begin f L) L n := by
    intro k
    induction k with
    | zero => intro i y _ _ h; exact absurd h (by omega)
    | succ k ih =>
      intro i y ey hi hk
      have e9 : sX4_live_l6 x0 (k + 1) y (xSq W (sX4_begin f L) L i) L = sX4_live_h6 x0 (sX4_live_l6 x0 k) y (xSq W (sX4_begin f L) L i) L := rfl
      have cy := bn_clI (x := y) (by omega)
      rw [e9]
      unfold sX4_live_h6; (repeat first | rw [spl_d] | rw [spl2_d])
      by_cases c : i < n
      case neg =>
        rw [if_neg (by omega)]
        exact congrArg _ (show i = n by omega)
      rw [if_pos (by omega), show y.toNatClampNeg = i from by omega, h11 i hi i c]
      exact ih (i + 1) (y + 1) (inc1 ey (by omega)) (by omega) (by omega)
  unfold sX4_live; (repeat first | rw [spl_d] | rw [spl2_d])
  exact go 22 0 0 (by decide) (Nat.zero_le _) (by omega)
/-- the reference's week and the class's shifts -/
theorem wtwo {m : Nat → Int32} {S : Int} {hl : Bool} {T : Nat → Int32} {n : Nat} {x0 : Int32} {f g : sg_F} {W : Nat → Int32} {N : Nat} (L LM : sg_L) (hS : S ≤ 8) (hm : mOk m) (hq : pOk m) (hN : N ≤ 21) (hc : xCx m S hl T n f) (hC : mCx m hl T n g) (hs : ∀ p : Nat, p < 3 → f 3 p = g 5 p) (hb : ∀ p : Nat, p < 3 → 0 ≤ (f 3 p).toInt ∧ (f 3 p).toInt ≤ 60) (hf : hF f g) (hw : hWho W S N x0 g LM) (hsh : (sX12_shiftsOf x0 g LM).toInt = N) : ∃ g1 : sg_F, sX12_weekOf x0 g LM = (g1 0 31 + g1 0 30, g1) ∧ wR m 0 0 0 (xSq W (sX4_begin f L) L N) g1 ∧ mH g g1 ∧ hHs W (sX4_begin f L) L N g1 ∧ ∀ j : Nat, j ≤ N → xCx m S hl T n (xSq W (sX4_begin f L) L j) ∧ xP f (xSq W (sX4_begin f L) L j) ∧ ∀ p : Nat, p < 3 → 0 ≤ (xSq W (sX4_begin f L) L j 14 p).toInt ∧ (xSq W (sX4_begin f L) L j 14 p).toInt ≤ 60 := by
  obtain ⟨b1, b2, b3⟩ := wbeg (m := m) hs hb L LM
  obtain ⟨x1, x2, x3, x4, x5, x6⟩ := xbg f L
  have hc1 : xCx m S hl T n (sX4_begin f L) := hc.fr (x6 1 (by decide) (by decide) (by decide) (by decide)) (x6 2 (by decide) (by decide) (by decide) (by decide)) (x6 4 (by decide) (by decide) (by decide) (by decide)) (x6 7 (by decide) (by decide) (by decide) (by decide)) (x6 9 (by decide) (by decide) (by decide) (by decide))
  have k23 : sX12_beginsWeek g LM 23 = g 23 := funext fun j => b3 23 j (by decide) (by decide) (by decide) (Or.inl (by decide))
  obtain ⟨g1, a1, a2, a3, a4, a5⟩ := hweek (x0 := x0) (f := sX4_begin f L) (W := W) (N := N) (b1 := 0) (b2 := 0) (b3 := 0) L LM hS hm hq hN 22 0 0 (sX12_beginsWeek g LM) (by decide) (Nat.zero_le _) (by omega) (hC.H b3) hc1 b1 (hf.K b2 b3) (hw.H (b3 0 6 (by decide) (by decide) (by decide) (Or.inr (by decide))) (fun j => b3 11 j (by decide) (by decide) (by decide) (Or.inl (by decide)))) (by rw [shfM_fr k23]; exact hsh) (fun j h1 h2 => absurd h1 (by omega))
  refine ⟨g1, ?_, a2, b3.tr a3, a4, fun j hj => ?_⟩
  · unfold sX12_weekOf; (repeat first | rw [spl_d] | rw [spl2_d])
    exact a1
  · obtain ⟨u1, u2, u3⟩ := a5 j (Nat.zero_le _) hj
    exact ⟨u1, b2.tr u2, u3⟩
/-- costs without memories and marks -/
theorem wR.cost {m : Nat → Int32} {f g : sg_F} (h : wR m 0 0 0 f g) (h2 : g 0 22 = 0) (h3 : g 0 23 = 0) : f 13 6 = g 0 31 + g 0 30 ∧ f 13 5 = g 0 30 ∧ f 15 0 + f 15 1 + f 15 2 = g 0 29 := by
  obtain ⟨e1, e2, e3, e4, e5, e6⟩ := h
  rw [h2, spN_k0, Int32.add_zero, Int32.add_zero] at e5
  rw [Int32.add_zero] at e3 e4
  have q : ∀ p : Nat, mpr m g p = m (67 + p) := fun p => by
    unfold mpr
    rw [h3, if_pos (by decide)]
  rw [q, q, q] at e5
  refine ⟨?_, e4.symm, e3.symm⟩
  rw [e6, ← e5, ← e4, Int32.add_comm]
/-- how both answer for a row that is no week's -/
theorem xref (d : Int32) (f : sg_F) (L : sg_L) : sX11_refusalOf d f L = if (f (40 + 2 * d.toNatClampNeg) 1).toInt = -1 then -11 else if (f (40 + 2 * d.toNatClampNeg) 1).toInt = 0 then 0 else -12 := by
  unfold sX11_refusalOf; (repeat first | rw [spl_d] | rw [spl2_d])
theorem mbytes (d : Int32) (g : sg_F) (L : sg_L) : sX12_bytesIs d g L = if 0 ≤ d.toInt ∧ d.toInt ≤ 5 then (if (g 22 d.toNatClampNeg).toInt < 0 then -11 else if (g 22 d.toNatClampNeg).toInt = 50 then 1 else -12) else -1 := by
  unfold sX12_bytesIs; (repeat first | rw [spl_d] | rw [spl2_d])
  rw [pM_isShelf]
  by_cases c : 0 ≤ d.toInt ∧ d.toInt ≤ 5
  · rw [if_pos c, if_pos rfl, if_pos c]
  · rw [if_neg c, if_neg zk0, if_neg c]
theorem mshf (d : Int32) (g : sg_F) (L : sg_L) (h : 0 ≤ (g 23 d.toNatClampNeg).toInt) : (sX12_shiftsOf d g L).toInt = nsh (g 23 d.toNatClampNeg).toInt := by
  have k21 : (21 : Int32).toInt = 21 := by decide
  unfold sX12_shiftsOf nsh; (repeat first | rw [spl_d] | rw [spl2_d])
  by_cases c : (g 23 d.toNatClampNeg).toInt < 21
  · rw [if_pos c, if_pos c]; omega
  · rw [if_neg c, if_neg c]; omega
theorem mwho {d y : Int32} {i : Nat} {g : sg_F} {L : sg_L} (hd : 0 ≤ d.toInt ∧ d.toInt ≤ 5) (ey : y.toInt = i) (hi : i < 60) (hs : 0 ≤ (g 0 6).toInt ∧ (g 0 6).toInt ≤ 8) : sX12_whoSits d y g L = wh (g 0 6).toInt (L 24 (60 * d.toNatClampNeg + i)) := by
  have k60 : (60 : Int32).toInt = 60 := by decide
  have k0 : (0 : Int64).toInt = 0 := by decide
  have e1 : (60 * d).toInt = 60 * d.toInt := bn_mulJ k60 (by omega) (by omega)
  have e2 : (60 * d + y).toInt = (60 * d).toInt + y.toInt := bn_addI (by omega) (by omega)
  have c1 := bn_clI hd.1
  have c2 := bn_clI (x := 60 * d + y) (by omega)
  have k1 : (1 : Int32).toInt = 1 := by decide
  have e3 : (g 0 6 - 1).toInt = (g 0 6).toInt - 1 := (bn_subI (by omega) (by omega)).trans (by omega)
  have e4 := Int32.toInt_toInt64 (g 0 6 - 1)
  unfold sX12_whoSits sX12_isSitter; (repeat first | rw [spl_d] | rw [spl2_d])
  rw [pM_within, ite_b, show (60 * d + y).toNatClampNeg = 60 * d.toNatClampNeg + i from by omega, k0, e4, e3]
  unfold wh
  by_cases c : 0 ≤ (L 24 (60 * d.toNatClampNeg + i)).toInt ∧ (L 24 (60 * d.toNatClampNeg + i)).toInt < (g 0 6).toInt
  · rw [if_pos c, if_pos (show 0 ≤ (L 24 (60 * d.toNatClampNeg + i)).toInt ∧ (L 24 (60 * d.toNatClampNeg + i)).toInt ≤ (g 0 6).toInt - 1 from by omega), if_pos rfl]
  · rw [if_neg c, if_neg (show ¬ (0 ≤ (L 24 (60 * d.toNatClampNeg + i)).toInt ∧ (L 24 (60 * d.toNatClampNeg + i)).toInt ≤ (g 0 6).toInt - 1) from by omega), if_neg zk0]
/-- a row that a week is read from: what both find -/
theorem rweek {fX fM : sg_F} {LX LM : sg_L} {d : Int32} (hn : rNum fX fM) (hs : rShelf fX fM) (he : rEl fX LX LM) (hy : rByte fX LX) (hi : rIdle fX fM) (hI : sgI loX hiX fX) (hd : 0 ≤ d.toInt ∧ d.toInt ≤ 5) (h9 : (fX 36 2).toInt ≤ 50) : ((fX (40 + 2 * d.toNatClampNeg) 1).toInt = -1 ∧ sX11_readWeek d fX LX = (-11, fX) ∧ sX12_bytesIs d fM LM = -11) ∨ ((fX (40 + 2 * d.toNatClampNeg) 1).toInt ≠ -1 ∧ (fX (40 + 2 * d.toNatClampNeg) 1).toInt ≠ 0 ∧ sX11_readWeek d fX LX = (-12, fX) ∧ sX12_bytesIs d fM LM = -12) ∨ ((fX (40 + 2 * d.toNatClampNeg) 1).toInt = 0 ∧ sX12_bytesIs d fM LM = 1 ∧ ∃ (W : Nat → Int32) (N : Nat) (f1 : sg_F), sX11_readWeek d fX LX = (0, f1) ∧ N ≤ 21 ∧ xRd W N fX f1 ∧ hWho W (fX 1 3).toInt N d fM LM ∧ (sX12_shiftsOf d fM LM).toInt = N ∧ (N : Int) ≤ (fX (40 + 2 * d.toNatClampNeg) 2).toInt ∧ (fX (40 + 2 * d.toNatClampNeg) 2).toInt = (fM 23 d.toNatClampNeg).toInt ∧ (∀ i : Nat, W i = wh (fX 1 3).toInt (LX (41 + 2 * d.toNatClampNeg) i)) ∧ N = nsh (fX (40 + 2 * d.toNatClampNeg) 2).toInt) := by
  have hb : 0 ≤ (fX 1 3).toInt ∧ (fX 1 3).toInt ≤ 8 := hI 1 3
  obtain ⟨hs1, hs2⟩ := shB hI
  have cd := bn_clI hd.1
  have kb := hs2 d.toNatClampNeg (by omega)
  have e13 : (fX 1 3).toInt = (fM 0 6).toInt := hn.1
  have xr : ∀ r : Int32, sX11_refusalOf d fX LX = r → r.toInt ≠ 0 → sX11_readWeek d fX LX = (r, fX) := fun r er h0 => by
    unfold sX11_readWeek; (repeat first | rw [spl_d] | rw [spl2_d])
    rw [er, if_neg h0]
  have k0 : (0 : Int32).toInt = 0 := by decide
  rcases hs.at hd.1 hd.2 with ⟨a, b⟩ | ⟨a, b, c1, c2⟩ | ⟨a, a4, b, c⟩
  · exact Or.inl ⟨a, xr (-11) (by rw [xref, if_pos a]) (by decide), by rw [mbytes, if_pos hd, if_pos (show (fM 22 d.toNatClampNeg).toInt < 0 from by omega)]⟩
  · exact Or.inr (Or.inl ⟨by omega, by omega, xr (-12) (by rw [xref, if_neg (show ¬ (fX (40 + 2 * d.toNatClampNeg) 1).toInt = -1 from by omega), if_neg (show ¬ (fX (40 + 2 * d.toNatClampNeg) 1).toInt = 0 from by omega)]) (by decide), by rw [mbytes, if_pos hd, if_neg (show ¬ (fM 22 d.toNatClampNeg).toInt < 0 from by omega), if_neg (show ¬ (fM 22 d.toNatClampNeg).toInt = 50 from by omega)]⟩)
  · by_cases z : (fX (40 + 2 * d.toNatClampNeg) 1).toInt = 0
    case neg => exact Or.inr (Or.inl ⟨by omega, z, xr (-12) (by rw [xref, if_neg (show ¬ (fX (40 + 2 * d.toNatClampNeg) 1).toInt = -1 from by omega), if_neg z]) (by decide), by rw [mbytes, if_pos hd, if_neg (show ¬ (fM 22 d.toNatClampNeg).toInt < 0 from by omega), if_neg (show ¬ (fM 22 d.toNatClampNeg).toInt = 50 from by omega)]⟩)
    have hby := hy d.toNatClampNeg (by omega) z
    have hel := he d.toNatClampNeg (by omega) a
    refine Or.inr (Or.inr ⟨z, by rw [mbytes, if_pos hd, if_neg (show ¬ (fM 22 d.toNatClampNeg).toInt < 0 from by omega), if_pos (show (fM 22 d.toNatClampNeg).toInt = 50 from by omega)], _, _, sX10_reads d.toNatClampNeg (fX 1 3) fX LX, ?_, nsh_le _, xrd kb.1 hb hby, fun y i ey hi' => ?_, ?_, ?_, c, fun _ => rfl, rfl⟩)
    · unfold sX11_readWeek; (repeat first | rw [spl_d] | rw [spl2_d])
      have er : sX11_refusalOf d fX LX = 0 := by rw [xref, if_neg (show ¬ (fX (40 + 2 * d.toNatClampNeg) 1).toInt = -1 from by omega), if_pos z]
      rw [er, if_pos k0]
    · have hil := nsh_lt hi'
      rw [mwho hd ey (by omega) (by omega), ← hel i hil, ← e13]
      obtain ⟨w, ew⟩ : ∃ v : Int32, v = wh (fX 1 3).toInt (LX (41 + 2 * d.toNatClampNeg) i) := ⟨_, rfl⟩
      have wb := wh_b (w := LX (41 + 2 * d.toNatClampNeg) i) hb.2
      dsimp only
      rw [← ew] at wb ⊢
      rcases wb with wb | ⟨w1, w2, w3⟩
      · exact Or.inl ⟨wb, Or.inl (by omega)⟩
      · exact Or.inr ⟨w1, w2, rfl, by rw [hi.2.2.2.2.2.2 i]; decide⟩
    · rw [mshf d fM LM (by omega), ← c]
    · unfold nsh
      by_cases q : (fX (40 + 2 * d.toNatClampNeg) 2).toInt < 21
      · rw [if_pos q]; omega
      · rw [if_neg q]; omega
