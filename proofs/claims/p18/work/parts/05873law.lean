/-! THE LAW: lines, the whole text -/
abbrev pL : Type := Nat × Bool × List Int32 × ((Nat → Int32) → Bool) × pV
noncomputable def pE (T : Nat → Int32) (n : Nat) : Nat → pR := pExp (pO T n 6) T n
theorem pE_G {T : Nat → Int32} {n : Nat} (a : Nat) : pG n (pE T n a) a := pExp_G (pO_G 6) a
theorem xO_E {T : Nat → Int32} {n : Nat} : xO T n sX5_either_0 (pE T n) := xO_e0
theorem mO_E {T N : Nat → Int32} {n : Nat} : mO T N n 0 sX12_either_0 (pE T n) := mO_e0
def pLn1 (r : pR) : pL := (r.1, r.2.1, r.2.2.1 ++ [59], fun _ => true, r.2.2.2)
def pLn2 (r w : pR) : pL := (w.1, w.2.1, r.2.2.1 ++ [63] ++ w.2.2.1 ++ [59], fun N => decide ((r.2.2.2 N).toInt ≠ 0), w.2.2.2)
noncomputable def pLine (T : Nat → Int32) (n a : Nat) : pL := if (pE T n a).2.1 = true ∧ pnx T n (pE T n a).1 = 63 then pLn2 (pE T n a) (pE T n ((pE T n a).1 + 1)) else pLn1 (pE T n a)
def pH (h : (Nat → Int32) → Bool) (l : pL) : (Nat → Int32) → Bool := fun N => h N || l.2.2.2.1 N
def pV1 (h : (Nat → Int32) → Bool) (g : pV) (l : pL) : pV := fun N => if h N = true then g N else if l.2.2.2.1 N = true then l.2.2.2.2 N else g N
noncomputable def pLs (T : Nat → Int32) (n : Nat) : Nat → Nat → ((Nat → Int32) → Bool) → pV → List Int32 → pR
  | 0, a, _, g, c => (a, true, c, g)
  | q + 1, a, h, g, c => if (pLine T n a).2.1 = true then (if pnx T n (pLine T n a).1 = 59 then pLs T n q ((pLine T n a).1 + 1) (pH h (pLine T n a)) (pV1 h g (pLine T n a)) (c ++ (pLine T n a).2.2.1) else if (pLine T n a).1 < n then pbad (pLine T n a).1 else ((pLine T n a).1, true, c ++ (pLine T n a).2.2.1, pV1 h g (pLine T n a))) else pbad (pLine T n a).1
/-- behind a line that ended at p -/
noncomputable def pT (T : Nat → Int32) (n q p : Nat) (h : (Nat → Int32) → Bool) (g : pV) (c : List Int32) : pR := if pnx T n p = 59 then pLs T n q (p + 1) h g c else if p < n then pbad p else (p, true, c, g)
theorem pLs_s {T : Nat → Int32} {n q a : Nat} {h : (Nat → Int32) → Bool} {g : pV} {c : List Int32} : pLs T n (q + 1) a h g c = if (pLine T n a).2.1 = true then pT T n q (pLine T n a).1 (pH h (pLine T n a)) (pV1 h g (pLine T n a)) (c ++ (pLine T n a).2.2.1) else pbad (pLine T n a).1 := rfl
theorem pLine_G {T : Nat → Int32} {n a : Nat} (h : (pLine T n a).2.1 = true) : a < (pLine T n a).1 ∧ (pLine T n a).1 ≤ n ∧ (pLine T n a).2.2.1.length + a ≤ (pLine T n a).1 + 1 := by
  unfold pLine at h ⊢
  have G := pE_G (T := T) (n := n) a
  have k : [(59 : Int32)].length = 1 := rfl
  have k2 : [(63 : Int32)].length = 1 := rfl
  by_cases c : (pE T n a).2.1 = true ∧ pnx T n (pE T n a).1 = 63
  · rw [if_pos c] at h ⊢
    obtain ⟨g1, g2, g3, -, -⟩ := G c.1
    obtain ⟨w1, w2, w3, -, -⟩ := pE_G (T := T) (n := n) ((pE T n a).1 + 1) h
    refine ⟨by show a < (pE T n ((pE T n a).1 + 1)).1; omega, w2, ?_⟩
    show ((pE T n a).2.2.1 ++ [63] ++ (pE T n ((pE T n a).1 + 1)).2.2.1 ++ [59]).length + a ≤ (pE T n ((pE T n a).1 + 1)).1 + 1
    rw [List.length_append, List.length_append, List.length_append]
    omega
  · rw [if_neg c] at h ⊢
    obtain ⟨g1, g2, g3, -, -⟩ := G h
    refine ⟨g1, g2, ?_⟩
    show ((pE T n a).2.2.1 ++ [59]).length + a ≤ (pE T n a).1 + 1
    rw [List.length_append]
    omega
/-! the class -/
/-- as xS, behind a line's last sign -/
def xE (T : Nat → Int32) (n a d : Nat) (f : sg_F) : Prop := (f 4 6).toInt = a ∧ (f 4 1).toInt = n ∧ (f 4 7).toInt = -1 ∧ (f 4 8).toInt = d ∧ (∀ i : Nat, i < n → f 5 i = T i) ∧ n ≤ 120 ∧ a ≤ n ∧ d ≤ a + 1
theorem xwrE {T : Nat → Int32} {n a d : Nat} {f : sg_F} (h : xS T n a d f) (s : Int32) (L : sg_L) : xE T n a (d + 1) (sX5_write s f L) ∧ xC (f 6) d [s] (sX5_write s f L) := by
  obtain ⟨h1, h2, h3, h4, h5, h6, h7, h8⟩ := h
  have k1 : (1 : Int32).toInt = 1 := by decide
  have e := bn_clI (x := f 4 8) (by omega)
  have e1 : (f 4 8 + 1).toInt = (f 4 8).toInt + 1 := (bn_addI (by omega) (by omega)).trans (by omega)
  unfold sX5_write; (repeat first | rw [spl_d] | rw [spl2_d])
  rw [if_pos (show (f 4 8).toInt < 121 from by omega), show (f 4 8).toNatClampNeg = d from by omega]
  refine ⟨⟨?_, ?_, ?_, ?_, fun i hi => ?_, h6, h7, by omega⟩, fun i hi => ?_, ?_, trivial⟩
  · rw [sg_up_s, sgu_n (show (6 : Nat) ≠ 8 by decide), sg_up_n (show (4 : Nat) ≠ 6 by decide)]; exact h1
  · rw [sg_up_s, sgu_n (show (1 : Nat) ≠ 8 by decide), sg_up_n (show (4 : Nat) ≠ 6 by decide)]; exact h2
  · rw [sg_up_s, sgu_n (show (7 : Nat) ≠ 8 by decide), sg_up_n (show (4 : Nat) ≠ 6 by decide)]; exact h3
  · rw [sg_up_s, sgu_s]; omega
  · rw [sg_up_n (show (5 : Nat) ≠ 4 by decide), sg_up_n (show (5 : Nat) ≠ 6 by decide)]; exact h5 i hi
  · rw [sg_up_n (show (6 : Nat) ≠ 4 by decide), sg_up_s, sgu_n (by omega)]
  · rw [sg_up_n (show (6 : Nat) ≠ 4 by decide), sg_up_s, sgu_s]
theorem xnextE {T : Nat → Int32} {n a d : Nat} {f : sg_F} (h : xE T n a d f) (L : sg_L) : (sX5_next f L).toInt = pnx T n a := by
  obtain ⟨h1, h2, h3, h4, h5, h6, h7, h8⟩ := h
  unfold sX5_next pnx; (repeat first | rw [spl_d] | rw [spl2_d])
  rw [if_pos (show (f 4 7).toInt < 0 from by omega)]
  by_cases c : a < n
  · have e := bn_clI (x := f 4 6) (by omega)
    rw [if_pos c, if_pos (show (f 4 6).toInt < (f 4 1).toInt from by omega), show (f 4 6).toNatClampNeg = a from by omega, h5 a c]
  · rw [if_neg c, if_neg (show ¬ (f 4 6).toInt < (f 4 1).toInt from by omega)]; decide
theorem xadvE {T : Nat → Int32} {n a d : Nat} {f : sg_F} (h : xE T n a d f) (c : a < n) : xS T n (a + 1) d (xad f) ∧ xad f 6 = f 6 := by
  obtain ⟨h1, h2, h3, h4, h5, h6, h7, h8⟩ := h
  have k1 : (1 : Int32).toInt = 1 := by decide
  have e1 : (f 4 6 + 1).toInt = (f 4 6).toInt + 1 := (bn_addI (by omega) (by omega)).trans (by omega)
  unfold xad
  refine ⟨⟨?_, ?_, ?_, ?_, fun i hi => ?_, h6, by omega, h8⟩, ?_⟩
  · rw [sg_up_s, sgu_s]; omega
  · rw [sg_up_s, sgu_n (show (1 : Nat) ≠ 6 by decide)]; exact h2
  · rw [sg_up_s, sgu_n (show (7 : Nat) ≠ 6 by decide)]; exact h3
  · rw [sg_up_s, sgu_n (show (8 : Nat) ≠ 6 by decide)]; exact h4
  · rw [sg_up_n (show (5 : Nat) ≠ 4 by decide)]; exact h5 i hi
  · exact sg_up_n (by decide)
theorem xfailE {T : Nat → Int32} {n a d : Nat} {f : sg_F} (h : xE T n a d f) (L : sg_L) : xF n a (sX5_fail f L) := by
  obtain ⟨h1, h2, h3, h4, h5, h6, h7, h8⟩ := h
  unfold sX5_fail; (repeat first | rw [spl_d] | rw [spl2_d])
  rw [if_pos (show (f 4 7).toInt < 0 from by omega)]
  refine ⟨?_, ?_, ?_⟩
  · rw [sg_up_s, sgu_n (show (6 : Nat) ≠ 7 by decide)]; exact h1
  · rw [sg_up_s, sgu_n (show (1 : Nat) ≠ 7 by decide)]; exact h2
  · rw [sg_up_s, sgu_s]; exact ⟨h1, by omega⟩
theorem xline_K (f : sg_F) (L : sg_L) : xK f (sX5_line f L) := by
  have E : ∀ (f : sg_F) (L : sg_L), xK f (sX5_either_0 f L) := (xO_E (T := fun _ => 0) (n := 0)).2.2
  unfold sX5_line sX5_line_b35; (repeat first | rw [spl_d] | rw [spl2_d])
  by_cases c : (sX5_next (sX5_either_0 f L) L).toInt = 63
  · rw [if_pos c]
    exact ((((E f L).tr (xadK _)).tr (xwrK _ _ L)).tr (E _ L)).tr (xwrK _ _ L)
  · rw [if_neg c]
    exact (E f L).tr (xwrK _ _ L)
theorem xline {T : Nat → Int32} {n a d : Nat} {f : sg_F} (h : xS T n a d f) (L : sg_L) : ((pLine T n a).2.1 = true → xE T n (pLine T n a).1 (d + (pLine T n a).2.2.1.length) (sX5_line f L) ∧ xC (f 6) d (pLine T n a).2.2.1 (sX5_line f L)) ∧ ((pLine T n a).2.1 = false → xF n (pLine T n a).1 (sX5_line f L)) := by
  have w := xO_E.1 f L a d h
  have G := pE_G (T := T) (n := n) a
  have hb := h.2.2.2.2.2
  unfold sX5_line sX5_line_b35 pLine; (repeat first | rw [spl_d] | rw [spl2_d])
  obtain ⟨f1, e1⟩ : ∃ z : sg_F, z = sX5_either_0 f L := ⟨_, rfl⟩
  rw [← e1] at w ⊢
  obtain ⟨r, er⟩ : ∃ z : pR, z = pE T n a := ⟨_, rfl⟩
  rw [← er] at w G ⊢
  obtain ⟨p, r2, s, v⟩ := r
  cases r2 with
  | true =>
    obtain ⟨w1, w2⟩ := w.1 rfl
    obtain ⟨g1, g2, g3, -, -⟩ := G rfl
    have w1 : xS T n p (d + s.length) f1 := w1
    have w2 : xC (f 6) d s f1 := w2
    have g3 : s.length + a ≤ p := g3
    rw [xnext w1 L]
    by_cases c : pnx T n p = 63
    · obtain ⟨k1, k2⟩ := pnx_lt (T := T) (n := n) (a := p) (by omega)
      rw [if_pos c, if_pos (show ((p, true, s, v) : pR).2.1 = true ∧ pnx T n ((p, true, s, v) : pR).1 = 63 from ⟨rfl, c⟩)]
      obtain ⟨u1, u2⟩ := xadv w1 k1
      obtain ⟨x1, x2⟩ := xwr u1 (by omega) 63 L
      rw [u2] at x2
      have y := xO_E.1 _ L (p + 1) _ x1
      have G2 := pE_G (T := T) (n := n) (p + 1)
      obtain ⟨f2, e2⟩ : ∃ z : sg_F, z = sX5_either_0 (sX5_write 63 (xad f1) L) L := ⟨_, rfl⟩
      rw [← e2] at y ⊢
      show ((pLn2 (p, true, s, v) (pE T n (p + 1))).2.1 = true → _) ∧ _
      obtain ⟨t, et⟩ : ∃ z : pR, z = pE T n (p + 1) := ⟨_, rfl⟩
      show ((pLn2 (p, true, s, v) (pE T n (p + 1))).2.1 = true → xE T n (pLn2 (p, true, s, v) (pE T n (p + 1))).1 (d + (pLn2 (p, true, s, v) (pE T n (p + 1))).2.2.1.length) (sX5_write 59 f2 L) ∧ xC (f 6) d (pLn2 (p, true, s, v) (pE T n (p + 1))).2.2.1 (sX5_write 59 f2 L)) ∧ ((pLn2 (p, true, s, v) (pE T n (p + 1))).2.1 = false → xF n (pLn2 (p, true, s, v) (pE T n (p + 1))).1 (sX5_write 59 f2 L))
      rw [← et] at y G2 ⊢
      obtain ⟨p2, t2, s2, v2⟩ := t
      cases t2 with
      | true =>
        obtain ⟨y1, y2⟩ := y.1 rfl
        have y1 : xS T n p2 (d + s.length + 1 + s2.length) f2 := y1
        obtain ⟨z1, z2⟩ := xwrE y1 59 L
        have q1 := w2.app rfl x2
        have q2 := q1.app (by rw [List.length_append]; show d + s.length + 1 = d + (s.length + 1); omega) y2
        have q3 := q2.app (by rw [List.length_append, List.length_append]; show d + s.length + 1 + s2.length = d + (s.length + 1 + s2.length); omega) z2
        refine ⟨fun _ => ⟨?_, q3⟩, fun z => (by cases z)⟩
        have e : d + s.length + 1 + s2.length + 1 = d + (s ++ [63] ++ s2 ++ [59]).length := by
          rw [List.length_append, List.length_append, List.length_append]
          show d + s.length + 1 + s2.length + 1 = d + (s.length + 1 + s2.length + 1)
          omega
        show xE T n p2 (d + (s ++ [63] ++ s2 ++ [59]).length) _
        rw [← e]; exact z1
      | false => exact ⟨fun z => (by cases z), fun _ => xwrF (y.2 rfl) 59 L⟩
    · rw [if_neg c, if_neg (fun z => c z.2)]
      obtain ⟨z1, z2⟩ := xwrE w1 59 L
      refine ⟨fun _ => ⟨?_, w2.app rfl z2⟩, fun z => (by cases z)⟩
      have e : d + s.length + 1 = d + (s ++ [59]).length := by
        rw [List.length_append]
        show d + s.length + 1 = d + (s.length + 1)
        omega
      show xE T n p (d + (s ++ [59]).length) _
      rw [← e]; exact z1
  | false =>
    have w1 : xF n p f1 := w.2 rfl
    rw [xnextF w1 L, if_neg (show ¬ (-1 : Int) = 63 by decide), if_neg (show ¬ (((p, false, s, v) : pR).2.1 = true ∧ pnx T n ((p, false, s, v) : pR).1 = 63) from fun z => absurd z.1 Bool.false_ne_true)]
    exact ⟨fun z => (by cases z), fun _ => xwrF w1 59 L⟩
/-- how the text's reading ends -/
def xR (T : Nat → Int32) (n : Nat) (r : pR) (f : sg_F) : Prop := (r.2.1 = true → xE T n r.1 r.2.2.1.length f ∧ trL (f 6) 0 r.2.2.1) ∧ (r.2.1 = false → xF n r.1 f)
theorem xb41F {n p : Nat} {f : sg_F} (h : xF n p f) (L : sg_L) : xF n p (sX5_lines_b41 f L) := by
  unfold sX5_lines_b41; (repeat first | rw [spl_d] | rw [spl2_d])
  by_cases c : (f 4 6).toInt < (f 4 1).toInt
  · rw [if_pos c]; exact xfailF h L
  · rw [if_neg c]; exact h
theorem xb41K (f : sg_F) (L : sg_L) : xK f (sX5_lines_b41 f L) := by
  unfold sX5_lines_b41; (repeat first | rw [spl_d] | rw [spl2_d])
  by_cases c : (f 4 6).toInt < (f 4 1).toInt
  · rw [if_pos c]; exact xfailK f L
  · rw [if_neg c]; exact xK.rf
theorem xlines_K (L : sg_L) : ∀ (m : Nat) (i : Int32) (f : sg_F), xK f (sX5_lines_l6 m i f L) := by
  intro m
  induction m with
  | zero => intro i f; exact xK.rf
  | succ m ih =>
    intro i f
    show xK f (sX5_lines_h6 (sX5_lines_l6 m) i f L)
    unfold sX5_lines_h6; (repeat first | rw [spl_d] | rw [spl2_d])
    by_cases c1 : i.toInt < 120
    · rw [if_pos c1]
      by_cases c2 : (sX5_next f L).toInt = 59
      · rw [if_pos c2]; exact ((xadK f).tr (xline_K _ L)).tr (ih _ _)
      · rw [if_neg c2]; exact xb41K f L
    · rw [if_neg c1]; exact xb41K f L
theorem xlines_F {n p : Nat} (L : sg_L) : ∀ (m : Nat) (i : Int32) (f : sg_F), xF n p f → xF n p (sX5_lines_l6 m i f L) := by
  intro m i f h
  cases m with
  | zero => exact h
  | succ m =>
    show xF n p (sX5_lines_h6 (sX5_lines_l6 m) i f L)
    unfold sX5_lines_h6; (repeat first | rw [spl_d] | rw [spl2_d])
    by_cases c1 : i.toInt < 120
    · rw [if_pos c1, xnextF h L, if_neg (by decide)]; exact xb41F h L
    · rw [if_neg c1]; exact xb41F h L
theorem xlines_S {T : Nat → Int32} {n : Nat} (L : sg_L) : ∀ (m q : Nat) (i : Int32) (f : sg_F) (p : Nat) (c : List Int32) (h : (Nat → Int32) → Bool) (g : pV), xE T n p c.length f → trL (f 6) 0 c → 0 ≤ i.toInt → i.toInt ≤ (p : Int) → 120 - i.toInt < (m : Int) → n - p < q + 1 → xR T n (pT T n q p h g c) (sX5_lines_l6 m i f L) := by
  intro m
  induction m with
  | zero => intro q i f p c h g hE hc h0 h1 h2 h3; exact absurd h2 (by have := hE.2.2.2.2.2; omega)
  | succ m ih =>
    intro q i f p c h g hE hc h0 h1 h2 h3
    have hb := hE.2.2.2.2.2
    have hy := xnextE hE L
    show xR T n (pT T n q p h g c) (sX5_lines_h6 (sX5_lines_l6 m) i f L)
    unfold sX5_lines_h6 pT; (repeat first | rw [spl_d] | rw [spl2_d])
    by_cases s : pnx T n p = 59
    · obtain ⟨g1, g2⟩ := pnx_lt (T := T) (n := n) (a := p) (by omega)
      rw [if_pos s, if_pos (show i.toInt < 120 from by omega), if_pos (by rw [hy]; exact s)]
      obtain ⟨u1, u2⟩ := xadvE hE g1
      have w := xline u1 L
      rw [u2] at w
      have G := pLine_G (T := T) (n := n) (a := p + 1)
      obtain ⟨f2, e2⟩ : ∃ z : sg_F, z = sX5_line (xad f) L := ⟨_, rfl⟩
      have k1 : (1 : Int32).toInt = 1 := by decide
      have ei : (i + 1).toInt = i.toInt + 1 := (bn_addI (by omega) (by omega)).trans (by omega)
      cases q with
      | zero => exact absurd h3 (by omega)
      | succ q =>
        rw [pLs_s]
        show xR T n _ (sX5_lines_l6 m (i + 1) (sX5_line (xad f) L) L)
        rw [← e2] at w ⊢
        cases hl : (pLine T n (p + 1)).2.1 with
        | true =>
          rw [if_pos rfl]
          obtain ⟨w1, w2⟩ := w.1 hl
          obtain ⟨G1, G2, G3⟩ := G hl
          refine ih q (i + 1) f2 _ _ _ _ ?_ ?_ (by omega) (by omega) (by omega) (by omega)
          · rw [List.length_append]; exact w1
          · have hc0 : xC (f 6) 0 c f := ⟨fun _ hi => absurd hi (by omega), hc⟩
            exact (hc0.app (Nat.zero_add _).symm w2).2
        | false =>
          rw [if_neg Bool.false_ne_true]
          exact ⟨fun z => (by cases z), fun _ => xlines_F L _ _ _ (w.2 hl)⟩
    · have e : (if i.toInt < 120 then (if (sX5_next f L).toInt = 59 then sX5_lines_l6 m (i + 1) (sX5_line (xad f) L) L else sX5_lines_b41 f L) else sX5_lines_b41 f L) = sX5_lines_b41 f L := by
        by_cases c1 : i.toInt < 120
        · rw [if_pos c1, if_neg (by rw [hy]; exact s)]
        · rw [if_neg c1]
      rw [if_neg s, e]
      unfold sX5_lines_b41; (repeat first | rw [spl_d] | rw [spl2_d])
      have b1 := hE.1
      have b2 := hE.2.1
      by_cases c1 : p < n
      · rw [if_pos c1, if_pos (show (f 4 6).toInt < (f 4 1).toInt from by omega)]
        exact ⟨fun z => (by cases z), fun _ => xfailE hE L⟩
      · rw [if_neg c1, if_neg (show ¬ (f 4 6).toInt < (f 4 1).toInt from by omega)]
        exact ⟨fun _ => ⟨hE, hc⟩, fun z => (by cases z)⟩
noncomputable abbrev pLaw (T : Nat → Int32) (n : Nat) : pR := pLs T n 122 0 (fun _ => false) (fun _ => 0) []
theorem xlines {T : Nat → Int32} {n : Nat} {f : sg_F} (h : xS T n 0 0 f) (L : sg_L) : xR T n (pLaw T n) (sX5_lines f L) := by
  have k0 : (0 : Int32).toInt = 0 := by decide
  have w := xline h L
  have hb := h.2.2.2.2.2
  have G := pLine_G (T := T) (n := n) (a := 0)
  unfold pLaw sX5_lines; (repeat first | rw [spl_d] | rw [spl2_d])
  rw [pLs_s]
  cases hl : (pLine T n 0).2.1 with
  | true =>
    rw [if_pos rfl]
    obtain ⟨w1, w2⟩ := w.1 hl
    obtain ⟨G1, G2, G3⟩ := G hl
    refine xlines_S L 121 121 0 _ _ _ _ _ ?_ ?_ (by omega) (by omega) (by omega) (by omega)
    · rw [List.nil_append]; rw [Nat.zero_add] at w1; exact w1
    · rw [List.nil_append]; exact w2.2
  | false =>
    rw [if_neg Bool.false_ne_true]
    exact ⟨fun z => (by cases z), fun _ => xlines_F L _ _ _ (w.2 hl)⟩
/-! the reference -/
theorem mtk63 {T N : Nat → Int32} {n a : Nat} {k : Int} {g : sg_F} (h : mS T N n a k g) (L : sg_L) : (pnx T n a = 63 ∧ sX12_takes_63 g L = (1, mad g)) ∨ (pnx T n a ≠ 63 ∧ sX12_takes_63 g L = (0, g)) := by
  unfold sX12_takes_63; (repeat first | rw [spl_d] | rw [spl2_d])
  rw [if_pos h.lt]
  have e := mbS h L 63 (by decide)
  by_cases c : (sX12_byteAt g L).toInt = 63
  · rw [if_pos c]; exact Or.inl ⟨e.mp c, rfl⟩
  · rw [if_neg c]; exact Or.inr ⟨fun z => c (e.mpr z), rfl⟩
theorem mtk59 {T N : Nat → Int32} {n a : Nat} {k : Int} {g : sg_F} (h : mS T N n a k g) (L : sg_L) : (pnx T n a = 59 ∧ sX12_takes_59 g L = (1, mad g)) ∨ (pnx T n a ≠ 59 ∧ sX12_takes_59 g L = (0, g)) := by
  unfold sX12_takes_59; (repeat first | rw [spl_d] | rw [spl2_d])
  rw [if_pos h.lt]
  have e := mbS h L 59 (by decide)
  by_cases c : (sX12_byteAt g L).toInt = 59
  · rw [if_pos c]; exact Or.inl ⟨e.mp c, rfl⟩
  · rw [if_neg c]; exact Or.inr ⟨fun z => c (e.mpr z), rfl⟩
theorem mtk63F {n p : Nat} {g : sg_F} (h : mF n p g) (L : sg_L) : sX12_takes_63 g L = (0, g) := by
  unfold sX12_takes_63; (repeat first | rw [spl_d] | rw [spl2_d])
  rw [if_neg h.nlt]
theorem mtk59F {n p : Nat} {g : sg_F} (h : mF n p g) (L : sg_L) : sX12_takes_59 g L = (0, g) := by
  unfold sX12_takes_59; (repeat first | rw [spl_d] | rw [spl2_d])
  rw [if_neg h.nlt]
theorem mtk63K (g : sg_F) (L : sg_L) : mK g (sX12_takes_63 g L).2 := by
  unfold sX12_takes_63; (repeat first | rw [spl_d] | rw [spl2_d])
  by_cases c : (g 0 15).toInt < 0
  · rw [if_pos c]
    by_cases d : (sX12_byteAt g L).toInt = 63
    · rw [if_pos d]; exact madK g
    · rw [if_neg d]; exact mK.rf
  · rw [if_neg c]; exact mK.rf
theorem mtk59K (g : sg_F) (L : sg_L) : mK g (sX12_takes_59 g L).2 := by
  unfold sX12_takes_59; (repeat first | rw [spl_d] | rw [spl2_d])
  by_cases c : (g 0 15).toInt < 0
  · rw [if_pos c]
    by_cases d : (sX12_byteAt g L).toInt = 59
    · rw [if_pos d]; exact madK g
    · rw [if_neg d]; exact mK.rf
  · rw [if_neg c]; exact mK.rf
/-- how the text's working out ends -/
def mR (N : Nat → Int32) (r : pR) (o : Int32 × sg_F) : Prop := (r.2.1 = true → o.1 = r.2.2.2 N ∧ (o.2 0 15).toInt = -1) ∧ (r.2.1 = false → (o.2 0 15).toInt = r.1)
theorem b10 (b : Bool) : (if b = true then (1 : Int32) else 0).toInt = 0 ↔ b = false := by cases b <;> decide
/-- behind a line: y: whether a line had given, v: what; w, z: this line's value, whether it counts -/
theorem mb74 (x0 x1 : Int32) (rec : Int32 → Int32 → Int32 → sg_F → sg_L → Int32 × sg_F) (b : Bool) (z : Bool) (v w : Int32) (g : sg_F) (L : sg_L) (hg : (g 0 15).toInt < 0) : sX12_workOut_b74 rec x0 x1 (if b = true then 1 else 0) v w (if z = true then 1 else 0) g L = sX12_workOut_b96 rec x0 x1 (if (b || z) = true then 1 else 0) (if b = true then v else if z = true then w else v) g L := by
  unfold sX12_workOut_b74; (repeat first | rw [spl_d] | rw [spl2_d])
  rw [if_pos hg]
  cases b <;> cases z <;> rfl
theorem mb96 {T N : Nat → Int32} {n p : Nat} {g : sg_F} (h : mS T N n p 0 g) (x0 x1 : Int32) (rec : Int32 → Int32 → Int32 → sg_F → sg_L → Int32 × sg_F) (y v : Int32) (L : sg_L) : (pnx T n p = 59 ∧ sX12_workOut_b96 rec x0 x1 y v g L = rec y v 1 (mad g) L) ∨ (pnx T n p ≠ 59 ∧ sX12_workOut_b96 rec x0 x1 y v g L = rec y v 0 g L) := by
  unfold sX12_workOut_b96; (repeat first | rw [spl_d] | rw [spl2_d])
  rcases mtk59 h L with ⟨a, b⟩ | ⟨a, b⟩
  · rw [b, if_pos rfl]; exact Or.inl ⟨a, rfl⟩
  · rw [b, if_neg zk0]; exact Or.inr ⟨a, rfl⟩
theorem mb74F {n p : Nat} {g : sg_F} (h : mF n p g) (x0 x1 : Int32) (rec : Int32 → Int32 → Int32 → sg_F → sg_L → Int32 × sg_F) (y v w z : Int32) (L : sg_L) : sX12_workOut_b74 rec x0 x1 y v w z g L = rec y v 0 g L := by
  unfold sX12_workOut_b74 sX12_workOut_b96; (repeat first | rw [spl_d] | rw [spl2_d])
  rw [if_neg h.nlt, mtk59F h L, if_neg zk0]
/-- no line more -/
theorem mend0 {T N : Nat → Int32} {n p : Nat} {g : sg_F} (h : mS T N n p 0 g) (x0 x1 : Int32) (m : Nat) (y : Int32) (v : pV) (c : List Int32) (L : sg_L) : mR N (if p < n then pbad p else (p, true, c, v)) (sX12_workOut_l33 x0 x1 (m + 1) y (v N) 0 g L) := by
  show mR N _ (sX12_workOut_h33 x0 x1 (sX12_workOut_l33 x0 x1 m) y (v N) 0 g L)
  unfold sX12_workOut_h33; (repeat first | rw [spl_d] | rw [spl2_d])
  have b1 := h.1
  have b2 := h.2.1
  rw [if_pos (show (0 : Int32).toInt = 0 from by decide), if_pos h.lt]
  by_cases c1 : p < n
  · rw [if_pos c1, if_pos (show (g 0 13).toInt < (g 0 14).toInt from by omega)]
    exact ⟨fun z => (by cases z), fun _ => (mwr h L).2.2⟩
  · rw [if_neg c1, if_neg (show ¬ (g 0 13).toInt < (g 0 14).toInt from by omega)]
    exact ⟨fun _ => ⟨rfl, h.2.2.1⟩, fun z => (by cases z)⟩
theorem mend0F {N : Nat → Int32} {n p : Nat} {g : sg_F} (h : mF n p g) (x0 x1 : Int32) (m : Nat) (y v : Int32) (L : sg_L) : mR N (pbad p) (sX12_workOut_l33 x0 x1 (m + 1) y v 0 g L) := by
  show mR N _ (sX12_workOut_h33 x0 x1 (sX12_workOut_l33 x0 x1 m) y v 0 g L)
  unfold sX12_workOut_h33; (repeat first | rw [spl_d] | rw [spl2_d])
  rw [if_pos (show (0 : Int32).toInt = 0 from by decide), if_neg h.nlt]
  exact ⟨fun z => (by cases z), fun _ => h.2.2⟩
theorem mwork_S {T N : Nat → Int32} {n : Nat} (x0 x1 : Int32) (L : sg_L) : ∀ (m q : Nat) (g : sg_F) (a : Nat) (h : (Nat → Int32) → Bool) (v : pV) (c : List Int32), mS T N n a 0 g → n - a + 1 < m → n - a < q → mR N (pLs T n q a h v c) (sX12_workOut_l33 x0 x1 m (if h N = true then 1 else 0) (v N) 1 g L) := by
  intro m
  induction m with
  | zero => intro q g a h v c hS h1 h2; exact absurd h1 (by omega)
  | succ m ih =>
    intro q g a h v c hS h1 h2
    have hm : ∃ m' : Nat, m = m' + 1 := ⟨m - 1, by omega⟩
    have hbn := hS.2.2.2.2.2.2
    cases q with
    | zero => exact absurd h2 (by omega)
    | succ q =>
      rw [pLs_s]
      show mR N _ (sX12_workOut_h33 x0 x1 (sX12_workOut_l33 x0 x1 m) (if h N = true then 1 else 0) (v N) 1 g L)
      unfold sX12_workOut_h33; (repeat first | rw [spl_d] | rw [spl2_d])
      rw [if_neg (show ¬ (1 : Int32).toInt = 0 from by decide)]
      have w := mO_E.1 g L a hS
      have G := pE_G (T := T) (n := n) a
      obtain ⟨o, eo⟩ : ∃ z : Int32 × sg_F, z = sX12_either_0 g L := ⟨_, rfl⟩
      rw [← eo] at w ⊢
      -- what comes behind a line that ended well
      have tail : ∀ (g2 : sg_F) (l : pL) (hl : l.2.1 = true), mS T N n l.1 0 g2 → a < l.1 → mR N (pT T n q l.1 (pH h l) (pV1 h v l) (c ++ l.2.2.1)) (sX12_workOut_b74 (sX12_workOut_l33 x0 x1 m) x0 x1 (if h N = true then 1 else 0) (v N) (l.2.2.2.2 N) (if l.2.2.2.1 N = true then 1 else 0) g2 L) := by
        intro g2 l hl h2S hlt
        rw [mb74 _ _ _ _ _ _ _ _ _ h2S.lt]
        unfold pT
        rcases mb96 h2S x0 x1 (sX12_workOut_l33 x0 x1 m) (if (h N || l.2.2.2.1 N) = true then 1 else 0) (if h N = true then v N else if l.2.2.2.1 N = true then l.2.2.2.2 N else v N) L with ⟨t1, t2⟩ | ⟨t1, t2⟩
        · have k := (pnx_lt (T := T) (n := n) (a := l.1) (by omega)).1
          rw [if_pos t1, t2]
          exact ih q (mad g2) (l.1 + 1) (pH h l) (pV1 h v l) _ (madv h2S k h2S.i1) (by omega) (by omega)
        · obtain ⟨m', em⟩ := hm
          rw [if_neg t1, t2, em]
          exact mend0 h2S x0 x1 m' _ (pV1 h v l) _ L
      have tailF : ∀ (g2 : sg_F) (p : Nat) (y z : Int32), mF n p g2 → mR N (pbad p) (sX12_workOut_b74 (sX12_workOut_l33 x0 x1 m) x0 x1 (if h N = true then 1 else 0) (v N) y z g2 L) := by
        intro g2 p y z hF
        obtain ⟨m', em⟩ := hm
        rw [mb74F hF, em]
        exact mend0F hF x0 x1 m' _ _ L
      unfold pLine
      obtain ⟨r, er⟩ : ∃ z : pR, z = pE T n a := ⟨_, rfl⟩
      rw [← er] at w G ⊢
      obtain ⟨p, r2, s, u⟩ := r
      cases r2 with
      | true =>
        obtain ⟨w1, w2⟩ := w.1 rfl
        obtain ⟨g1, g2, g3, -, -⟩ := G rfl
        have w1 : o.1 = u N := w1
        have w2 : mS T N n p 0 o.2 := w2
        have g1 : a < p := g1
        rcases mtk63 w2 L with ⟨t1, t2⟩ | ⟨t1, t2⟩
        · have k := (pnx_lt (T := T) (n := n) (a := p) (by omega)).1
          rw [t2, if_pos rfl, if_pos (show ((p, true, s, u) : pR).2.1 = true ∧ pnx T n ((p, true, s, u) : pR).1 = 63 from ⟨rfl, t1⟩)]
          have x := mO_E.1 (mad o.2) L (p + 1) (madv w2 k w2.i1)
          have G2 := pE_G (T := T) (n := n) (p + 1)
          obtain ⟨o2, eo2⟩ : ∃ z : Int32 × sg_F, z = sX12_either_0 (mad o.2) L := ⟨_, rfl⟩
          show mR N (if (pLn2 (p, true, s, u) (pE T n (p + 1))).2.1 = true then pT T n q (pLn2 (p, true, s, u) (pE T n (p + 1))).1 (pH h (pLn2 (p, true, s, u) (pE T n (p + 1)))) (pV1 h v (pLn2 (p, true, s, u) (pE T n (p + 1)))) (c ++ (pLn2 (p, true, s, u) (pE T n (p + 1))).2.2.1) else pbad (pLn2 (p, true, s, u) (pE T n (p + 1))).1) (if o.1.toInt = 0 then sX12_workOut_b74 (sX12_workOut_l33 x0 x1 m) x0 x1 (if h N = true then 1 else 0) (v N) (sX12_either_0 (mad o.2) L).1 0 (sX12_either_0 (mad o.2) L).2 L else sX12_workOut_b74 (sX12_workOut_l33 x0 x1 m) x0 x1 (if h N = true then 1 else 0) (v N) (sX12_either_0 (mad o.2) L).1 1 (sX12_either_0 (mad o.2) L).2 L)
          rw [← eo2] at x ⊢
          obtain ⟨t, et⟩ : ∃ z : pR, z = pE T n (p + 1) := ⟨_, rfl⟩
          rw [← et] at x G2 ⊢
          obtain ⟨p2, t2', s2, u2⟩ := t
          cases t2' with
          | true =>
            obtain ⟨x1, x2⟩ := x.1 rfl
            have x1 : o2.1 = u2 N := x1
            have x2 : mS T N n p2 0 o2.2 := x2
            have lt2 : p + 1 < p2 := (G2 rfl).1
            have y := tail o2.2 (pLn2 (p, true, s, u) (p2, true, s2, u2)) rfl x2 (by show a < p2; omega)
            rw [if_pos (show (pLn2 (p, true, s, u) (p2, true, s2, u2)).2.1 = true from rfl), x1, w1]
            by_cases d : (u N).toInt = 0
            · rw [if_pos d]
              have ed : (pLn2 (p, true, s, u) (p2, true, s2, u2)).2.2.2.1 N = false := decide_eq_false (fun z => z d)
              rw [ed] at y
              exact y
            · rw [if_neg d]
              have ed : (pLn2 (p, true, s, u) (p2, true, s2, u2)).2.2.2.1 N = true := decide_eq_true d
              rw [ed] at y
              exact y
          | false =>
            have x1 : mF n p2 o2.2 := x.2 rfl
            rw [if_neg (show ¬ (pLn2 (p, true, s, u) (p2, false, s2, u2)).2.1 = true from Bool.false_ne_true)]
            by_cases d : o.1.toInt = 0
            · rw [if_pos d]; exact tailF _ _ _ _ x1
            · rw [if_neg d]; exact tailF _ _ _ _ x1
        · rw [t2, if_neg zk0, if_neg (show ¬ (((p, true, s, u) : pR).2.1 = true ∧ pnx T n ((p, true, s, u) : pR).1 = 63) from fun z => t1 z.2)]
          have y := tail o.2 (pLn1 (p, true, s, u)) rfl w2 g1
          rw [if_pos (show (pLn1 (p, true, s, u)).2.1 = true from rfl), w1]
          exact y
      | false =>
        have w1 : mF n p o.2 := w.2 rfl
        rw [mtk63F w1 L, if_neg zk0, if_neg (show ¬ (((p, false, s, u) : pR).2.1 = true ∧ pnx T n ((p, false, s, u) : pR).1 = 63) from fun z => absurd z.1 Bool.false_ne_true), if_neg (show ¬ (pLn1 (p, false, s, u)).2.1 = true from Bool.false_ne_true)]
        exact tailF _ _ _ _ w1
/-- all but what reading uses is as it was -/
def mW (g g1 : sg_F) : Prop := ∀ k j : Nat, (k ≠ 0 ∨ (j ≠ 12 ∧ j ≠ 13 ∧ j ≠ 14 ∧ j ≠ 15 ∧ j ≠ 16)) → g1 k j = g k j
theorem mK.W {g g1 : sg_F} (h : mK g g1) : mW g g1 := fun k j hk => h k j (by omega)
theorem mW.tr {g g1 g2 : sg_F} (h : mW g g1) (h1 : mW g1 g2) : mW g g2 := fun k j hk => (h1 k j hk).trans (h k j hk)
theorem mW.put {g : sg_F} {j : Nat} {x : Int32} (hj : j = 12 ∨ j = 13 ∨ j = 14 ∨ j = 15 ∨ j = 16) : mW g (sg_up g 0 (sgu (g 0) j x)) := by
  intro k i hk
  by_cases c : k = 0
  · subst c
    rw [sg_up_s, sgu_n (by omega)]
  · rw [sg_up_n c]
theorem mwork_K (x0 x1 : Int32) (L : sg_L) : ∀ (m : Nat) (y v z : Int32) (g : sg_F), mK g (sX12_workOut_l33 x0 x1 m y v z g L).2 := by
  have E : ∀ (g : sg_F) (L : sg_L), mK g (sX12_either_0 g L).2 := (mO_E (T := fun _ => 0) (N := fun _ => 0) (n := 0)).2.2
  intro m
  induction m with
  | zero => intro y v z g; exact mK.rf
  | succ m ih =>
    intro y v z g
    have b96 : ∀ (y v : Int32) (g : sg_F), mK g (sX12_workOut_b96 (sX12_workOut_l33 x0 x1 m) x0 x1 y v g L).2 := by
      intro y v g
      unfold sX12_workOut_b96; (repeat first | rw [spl_d] | rw [spl2_d])
      by_cases c : (sX12_takes_59 g L).1 = 1
      · rw [if_pos c]; exact (mtk59K g L).tr (ih _ _ _ _)
      · rw [if_neg c]; exact (mtk59K g L).tr (ih _ _ _ _)
    have b74 : ∀ (y v w z : Int32) (g : sg_F), mK g (sX12_workOut_b74 (sX12_workOut_l33 x0 x1 m) x0 x1 y v w z g L).2 := by
      intro y v w z g
      unfold sX12_workOut_b74; (repeat first | rw [spl_d] | rw [spl2_d])
      (repeat' split) <;> exact b96 _ _ _
    show mK g (sX12_workOut_h33 x0 x1 (sX12_workOut_l33 x0 x1 m) y v z g L).2
    unfold sX12_workOut_h33; (repeat first | rw [spl_d] | rw [spl2_d])
    by_cases c1 : z.toInt = 0
    · rw [if_pos c1]
      by_cases c2 : (g 0 15).toInt < 0
      · rw [if_pos c2]
        by_cases c3 : (g 0 13).toInt < (g 0 14).toInt
        · rw [if_pos c3]; exact mwrK g L
        · rw [if_neg c3]; exact mK.rf
      · rw [if_neg c2]; exact mK.rf
    · rw [if_neg c1]
      have a := (E g L).tr (mtk63K (sX12_either_0 g L).2 L)
      by_cases c2 : (sX12_takes_63 (sX12_either_0 g L).2 L).1 = 1
      · rw [if_pos c2]
        by_cases c3 : (sX12_either_0 g L).1.toInt = 0
        · rw [if_pos c3]; exact (a.tr (E _ L)).tr (b74 _ _ _ _ _)
        · rw [if_neg c3]; exact (a.tr (E _ L)).tr (b74 _ _ _ _ _)
      · rw [if_neg c2]; exact a.tr (b74 _ _ _ _ _)
theorem mwork_W (x0 x1 : Int32) (g : sg_F) (L : sg_L) : mW g (sX12_workOut x0 x1 g L).2 := by
  unfold sX12_workOut; (repeat first | rw [spl_d] | rw [spl2_d])
  exact (((((mW.put (Or.inl rfl)).tr (mW.put (Or.inr (Or.inl rfl)))).tr (mW.put (Or.inr (Or.inr (Or.inl rfl))))).tr (mW.put (Or.inr (Or.inr (Or.inr (Or.inl rfl)))))).tr (mW.put (Or.inr (Or.inr (Or.inr (Or.inr rfl)))))).tr (mwork_K _ _ L _ _ _ _ _).W
theorem mwork {T N : Nat → Int32} {n : Nat} {x0 x1 : Int32} {g : sg_F} (L : sg_L) (hn : x1.toInt = n) (h120 : n ≤ 120) (ht : (x0.toInt < 0 ∧ ∀ i : Nat, i < n → g 6 i = T i) ∨ (x0.toInt = 0 ∧ ∀ i : Nat, i < n → g 7 i = T i)) (hN : ∀ i : Nat, i < 6 → g 8 i = N i) : mR N (pLaw T n) (sX12_workOut x0 x1 g L) := by
  unfold sX12_workOut; (repeat first | rw [spl_d] | rw [spl2_d])
  obtain ⟨g5, e5⟩ : ∃ z : sg_F, z = sg_up (sg_up (sg_up (sg_up (sg_up g 0 (sgu (g 0) 12 x0)) 0 (sgu (sg_up g 0 (sgu (g 0) 12 x0) 0) 13 0)) 0 (sgu (sg_up (sg_up g 0 (sgu (g 0) 12 x0)) 0 (sgu (sg_up g 0 (sgu (g 0) 12 x0) 0) 13 0) 0) 14 x1)) 0 (sgu (sg_up (sg_up (sg_up g 0 (sgu (g 0) 12 x0)) 0 (sgu (sg_up g 0 (sgu (g 0) 12 x0) 0) 13 0)) 0 (sgu (sg_up (sg_up g 0 (sgu (g 0) 12 x0)) 0 (sgu (sg_up g 0 (sgu (g 0) 12 x0) 0) 13 0) 0) 14 x1) 0) 15 (-1))) 0 (sgu (sg_up (sg_up (sg_up (sg_up g 0 (sgu (g 0) 12 x0)) 0 (sgu (sg_up g 0 (sgu (g 0) 12 x0) 0) 13 0)) 0 (sgu (sg_up (sg_up g 0 (sgu (g 0) 12 x0)) 0 (sgu (sg_up g 0 (sgu (g 0) 12 x0) 0) 13 0) 0) 14 x1)) 0 (sgu (sg_up (sg_up (sg_up g 0 (sgu (g 0) 12 x0)) 0 (sgu (sg_up g 0 (sgu (g 0) 12 x0) 0) 13 0)) 0 (sgu (sg_up (sg_up g 0 (sgu (g 0) 12 x0)) 0 (sgu (sg_up g 0 (sgu (g 0) 12 x0) 0) 13 0) 0) 14 x1) 0) 15 (-1)) 0) 16 0) := ⟨_, rfl⟩
  rw [← e5]
  have q13 : g5 0 13 = 0 := by rw [e5]; rfl
  have q14 : g5 0 14 = x1 := by rw [e5]; rfl
  have q15 : g5 0 15 = -1 := by rw [e5]; rfl
  have q16 : g5 0 16 = 0 := by rw [e5]; rfl
  have q12 : g5 0 12 = x0 := by rw [e5]; rfl
  have qk : ∀ k : Nat, k ≠ 0 → g5 k = g k := fun k hk => by rw [e5, sg_up_n hk, sg_up_n hk, sg_up_n hk, sg_up_n hk, sg_up_n hk]
  have hS : mS T N n 0 0 g5 := by
    refine ⟨by rw [q13]; decide, by rw [q14]; exact hn, by rw [q15]; decide, by rw [q16]; decide, ?_, fun i hi => by rw [qk 8 (by decide)]; exact hN i hi, h120, Nat.zero_le _⟩
    rw [q12, qk 6 (by decide), qk 7 (by decide)]; exact ht
  have w := mwork_S x0 x1 L 300 122 g5 0 (fun _ => false) (fun _ => 0) [] hS (by omega) (by omega)
  exact w
