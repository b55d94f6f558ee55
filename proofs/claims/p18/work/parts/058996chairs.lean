/-! CHAIRS keeps the class's losses right -/
theorem xCx.K {m : Nat → Int32} {S : Int} {hl : Bool} {T : Nat → Int32} {n : Nat} {W : List (Nat × Nat × Option Nat)} {f f1 : sg_F} (h : xCx m S hl T n f) (k : sgK W f f1) (e1 : ∀ j : Nat, sgin W 1 j = false) (e2 : ∀ j : Nat, sgin W 2 j = false) (e4 : ∀ j : Nat, sgin W 4 j = false) (e7 : ∀ j : Nat, sgin W 7 j = false) (e9 : ∀ j : Nat, sgin W 9 j = false) : xCx m S hl T n f1 := h.fr (funext fun j => k 1 j (e1 j)) (funext fun j => k 2 j (e2 j)) (funext fun j => k 4 j (e4 j)) (funext fun j => k 7 j (e7 j)) (funext fun j => k 9 j (e9 j))
/-- the chairs' sitters are sitters -/
def kG (m : Nat → Int32) (S : Int) (hl : Bool) (T : Nat → Int32) (n : Nat) (f : sg_F) : Prop := xCx m S hl T n f ∧ (0 ≤ (f 17 9).toInt ∧ (f 17 9).toInt ≤ 8) ∧ ∀ j : Nat, (j : Int) < (f 17 9).toInt → 0 ≤ (f 20 j).toInt ∧ (f 20 j).toInt < S
theorem kG.K {m : Nat → Int32} {S : Int} {hl : Bool} {T : Nat → Int32} {n : Nat} {f f1 : sg_F} (h : kG m S hl T n f) (k : sgK [(21, 21, none), (22, 22, none)] f f1) : kG m S hl T n f1 := by
  refine ⟨h.1.K k (fun _ => rfl) (fun _ => rfl) (fun _ => rfl) (fun _ => rfl) (fun _ => rfl), ?_⟩
  rw [k 17 9 rfl, show f1 20 = f 20 from funext fun j => k 20 j rfl]
  exact h.2
theorem kG.gather {m : Nat → Int32} {S : Int} {hl : Bool} {T : Nat → Int32} {n N : Nat} {W : Nat → Int32} {f : sg_F} (hc : xCx m S hl T n f) (hS : S ≤ 8) (hN : N ≤ 21) (hW : ∀ j : Nat, j < N → (W j).toInt = -1 ∨ (0 ≤ (W j).toInt ∧ (W j).toInt < S)) (h12 : ∀ s : Nat, s < 8 → f 12 s = tms W s N) (L : sg_L) : kG m S hl T n (sX8_gather f L) := by
  have go : ∀ (q i : Nat) (y : Int32) (f : sg_F), y.toInt = i → i ≤ 8 → 8 - i < q → kG m S hl T n f → (f 17 9).toInt ≤ i → (∀ s : Nat, s < 8 → f 12 s = tms W s N) → kG m S hl T n (sX8_gather_l7 q y f L) := by
    intro q
    induction q with
    | zero => intro i y f _ _ h; exact absurd h (by omega)
    | succ q ih =>
      intro i y f ey hi hq h h9 h12
      have e9 : sX8_gather_l7 (q + 1) y f L = sX8_gather_h7 (sX8_gather_l7 q) y f L := rfl
      have cy := bn_clI (x := y) (by omega)
      have eyn : y.toNatClampNeg = i := by omega
      have ey1 := inc1 ey (by omega)
      rw [e9]
      unfold sX8_gather_h7 sX8_gather_b45; (repeat first | rw [spl_d] | rw [spl2_d])
      by_cases c : i < 8
      case neg => rw [if_neg (show ¬ y.toInt < 8 from by omega)]; exact h
      rw [if_pos (show y.toInt < 8 from by omega), eyn, h12 i c]
      by_cases z : 0 < (tms W i N).toInt
      · obtain ⟨j, j1, j2⟩ := tms_ex (W := W) (s := i) N hN z
        have hyS : 0 ≤ y.toInt ∧ y.toInt < S := by
          rcases hW j j1 with w | ⟨w1, w2⟩ <;> omega
        rw [if_pos z]
        obtain ⟨h1, h2, h3⟩ := h
        have cc := bn_clI h2.1
        have k1 : (1 : Int32).toInt = 1 := by decide
        obtain ⟨u, eu⟩ : ∃ x : Int32, x = f 17 9 := ⟨_, rfl⟩
        rw [← eu] at h2 h3 h9 cc ⊢
        have e1 : (u + 1).toInt = u.toInt + 1 := (bn_addI (by omega) (by omega)).trans (by omega)
        obtain ⟨g1, eg1⟩ : ∃ x : sg_F, x = sg_up f 20 (sgu (f 20) u.toNatClampNeg y) := ⟨_, rfl⟩
        rw [← eg1]
        obtain ⟨g2, eg2⟩ : ∃ x : sg_F, x = sg_up g1 17 (sgu (g1 17) 9 (u + 1)) := ⟨_, rfl⟩
        rw [← eg2]
        have gk : ∀ r : Nat, r ≠ 17 → r ≠ 20 → g2 r = f r := fun r a b => by rw [eg2, sg_up_n a, eg1, sg_up_n b]
        have g17 : g2 17 9 = u + 1 := by rw [eg2, sg_up_s, sgu_s]
        have g20 : g2 20 = sgu (f 20) u.toNatClampNeg y := by rw [eg2, sg_up_n (show (20 : Nat) ≠ 17 by decide), eg1, sg_up_s]
        have hg : kG m S hl T n g2 := by
          refine ⟨h1.fr (gk 1 (by decide) (by decide)) (gk 2 (by decide) (by decide)) (gk 4 (by decide) (by decide)) (gk 7 (by decide) (by decide)) (gk 9 (by decide) (by decide)), by rw [g17]; omega, fun k hk => ?_⟩
          rw [g17] at hk
          rw [g20]
          by_cases w : k = u.toNatClampNeg
          · rw [w, sgu_s]; exact hyS
          · rw [sgu_n w]; exact h3 k (by omega)
        exact ih (i + 1) (y + 1) g2 ey1 (by omega) (by omega) hg (by rw [g17]; omega) (fun s hs => by rw [gk 12 (by decide) (by decide)]; exact h12 s hs)
      · rw [if_neg z]
        exact ih (i + 1) (y + 1) f ey1 (by omega) (by omega) h (by omega) h12
  unfold sX8_gather; (repeat first | rw [spl_d] | rw [spl2_d])
  have k0 : (0 : Int32).toInt = 0 := by decide
  obtain ⟨g2, eg2⟩ : ∃ x : sg_F, x = sg_up f 17 (sgu (f 17) 9 0) := ⟨_, rfl⟩
  rw [← eg2]
  have gk : ∀ r : Nat, r ≠ 17 → g2 r = f r := fun r a => by rw [eg2, sg_up_n a]
  have g17 : g2 17 9 = 0 := by rw [eg2, sg_up_s, sgu_s]
  refine go 9 0 0 g2 (by decide) (by decide) (by decide) ⟨hc.fr (gk 1 (by decide)) (gk 2 (by decide)) (gk 4 (by decide)) (gk 7 (by decide)) (gk 9 (by decide)), by rw [g17]; exact ⟨by decide, by decide⟩, fun j hj => ?_⟩ (by rw [g17]; decide) (fun s hs => by rw [gk 12 (by decide)]; exact h12 s hs)
  rw [g17] at hj
  exact absurd hj (by omega)
/-- the sums of groups up to one: by its number -/
noncomputable def upTo (k : Nat) (x1 x2 : Int32) (f : sg_F) (L : sg_L) : sg_F :=
  match k with
  | 0 => sX8_sumGroupsUpTo_0 x1 x2 f L
  | 1 => sX8_sumGroupsUpTo_1 x1 x2 f L
  | 2 => sX8_sumGroupsUpTo_2 x1 x2 f L
  | 3 => sX8_sumGroupsUpTo_3 x1 x2 f L
  | 4 => sX8_sumGroupsUpTo_4 x1 x2 f L
  | 5 => sX8_sumGroupsUpTo_5 x1 x2 f L
  | 6 => sX8_sumGroupsUpTo_6 x1 x2 f L
  | _ => sX8_sumGroupsUpTo_7 x1 x2 f L
theorem upTo_K (k : Nat) (x1 x2 : Int32) (f : sg_F) (L : sg_L) : sgK [(21, 21, none), (22, 22, none)] f (upTo k x1 x2 f L) := by
  unfold upTo
  split
  · exact fk_sX8_sumGroupsUpTo_0 _ _ _ _
  · exact fk_sX8_sumGroupsUpTo_1 _ _ _ _
  · exact fk_sX8_sumGroupsUpTo_2 _ _ _ _
  · exact fk_sX8_sumGroupsUpTo_3 _ _ _ _
  · exact fk_sX8_sumGroupsUpTo_4 _ _ _ _
  · exact fk_sX8_sumGroupsUpTo_5 _ _ _ _
  · exact fk_sX8_sumGroupsUpTo_6 _ _ _ _
  · exact fk_sX8_sumGroupsUpTo_7 _ _ _ _
theorem sgh_end (rec_2 : Int32 → sg_F → sg_L → sg_F) (p : Int32) (rec_10 : Int32 → Int32 → sg_F → sg_L → sg_F) (y z : Int32) (f : sg_F) (L : sg_L) (hd : ¬ z.toInt < (f 17 9).toInt) : sX8_sumGroups_h10 rec_2 p rec_10 y z f L = rec_2 (y + 1) f L := by
  unfold sX8_sumGroups_h10
  rw [spl_d, if_neg hd, spl_d]
theorem sgh_at (rec_2 : Int32 → sg_F → sg_L → sg_F) (p : Int32) (rec_10 : Int32 → Int32 → sg_F → sg_L → sg_F) (y z : Int32) (f : sg_F) (L : sg_L) (k : Nat) (hz : z.toInt = k) (hk : k ≤ 7) (hd : z.toInt < (f 17 9).toInt) : sX8_sumGroups_h10 rec_2 p rec_10 y z f L = rec_10 y (z + 1) (upTo k (f 12 (f 20 z.toNatClampNeg).toNatClampNeg * (sX0_lossAt (f 20 z.toNatClampNeg) p y f L).1) (if y.toInt = 0 then 1 else 0) (sX0_lossAt (f 20 z.toNatClampNeg) p y f L).2 L) L := by
  unfold sX8_sumGroups_h10
  rw [spl_d, if_pos hd, spl_d, spl_d, spl2_d, spl_d]
  obtain ⟨o, eo⟩ : ∃ w : Int32 × sg_F, w = sX0_lossAt (f 20 z.toNatClampNeg) p y f L := ⟨_, rfl⟩
  rw [← eo]
  obtain ⟨v, ev⟩ : ∃ w : Int32, w = f 12 (f 20 z.toNatClampNeg).toNatClampNeg * o.1 := ⟨_, rfl⟩
  rw [← ev]
  clear ev eo
  have hk8 : k = 0 ∨ k = 1 ∨ k = 2 ∨ k = 3 ∨ k = 4 ∨ k = 5 ∨ k = 6 ∨ k = 7 := by omega
  by_cases hy : y.toInt = 0
  · rw [if_pos hy, if_pos hy]
    rcases hk8 with rfl | rfl | rfl | rfl | rfl | rfl | rfl | rfl
    · rw [if_pos (show z.toInt = 0 from by omega), spl_d, spl_d]; rfl
    · rw [if_neg (show ¬ z.toInt = 0 from by omega), if_pos (show z.toInt = 1 from by omega), spl_d, spl_d]; rfl
    · rw [if_neg (show ¬ z.toInt = 0 from by omega), if_neg (show ¬ z.toInt = 1 from by omega), if_pos (show z.toInt = 2 from by omega), spl_d, spl_d]; rfl
    · rw [if_neg (show ¬ z.toInt = 0 from by omega), if_neg (show ¬ z.toInt = 1 from by omega), if_neg (show ¬ z.toInt = 2 from by omega), if_pos (show z.toInt = 3 from by omega), spl_d, spl_d]; rfl
    · rw [if_neg (show ¬ z.toInt = 0 from by omega), if_neg (show ¬ z.toInt = 1 from by omega), if_neg (show ¬ z.toInt = 2 from by omega), if_neg (show ¬ z.toInt = 3 from by omega), if_pos (show z.toInt = 4 from by omega), spl_d, spl_d]; rfl
    · rw [if_neg (show ¬ z.toInt = 0 from by omega), if_neg (show ¬ z.toInt = 1 from by omega), if_neg (show ¬ z.toInt = 2 from by omega), if_neg (show ¬ z.toInt = 3 from by omega), if_neg (show ¬ z.toInt = 4 from by omega), if_pos (show z.toInt = 5 from by omega), spl_d, spl_d]; rfl
    · rw [if_neg (show ¬ z.toInt = 0 from by omega), if_neg (show ¬ z.toInt = 1 from by omega), if_neg (show ¬ z.toInt = 2 from by omega), if_neg (show ¬ z.toInt = 3 from by omega), if_neg (show ¬ z.toInt = 4 from by omega), if_neg (show ¬ z.toInt = 5 from by omega), if_pos (show z.toInt = 6 from by omega), spl_d, spl_d]; rfl
    · rw [if_neg (show ¬ z.toInt = 0 from by omega), if_neg (show ¬ z.toInt = 1 from by omega), if_neg (show ¬ z.toInt = 2 from by omega), if_neg (show ¬ z.toInt = 3 from by omega), if_neg (show ¬ z.toInt = 4 from by omega), if_neg (show ¬ z.toInt = 5 from by omega), if_neg (show ¬ z.toInt = 6 from by omega), spl_d, spl_d]; rfl
  · rw [if_neg hy, if_neg hy]
    rcases hk8 with rfl | rfl | rfl | rfl | rfl | rfl | rfl | rfl
    · rw [if_pos (show z.toInt = 0 from by omega), spl_d, spl_d]; rfl
    · rw [if_neg (show ¬ z.toInt = 0 from by omega), if_pos (show z.toInt = 1 from by omega), spl_d, spl_d]; rfl
    · rw [if_neg (show ¬ z.toInt = 0 from by omega), if_neg (show ¬ z.toInt = 1 from by omega), if_pos (show z.toInt = 2 from by omega), spl_d, spl_d]; rfl
    · rw [if_neg (show ¬ z.toInt = 0 from by omega), if_neg (show ¬ z.toInt = 1 from by omega), if_neg (show ¬ z.toInt = 2 from by omega), if_pos (show z.toInt = 3 from by omega), spl_d, spl_d]; rfl
    · rw [if_neg (show ¬ z.toInt = 0 from by omega), if_neg (show ¬ z.toInt = 1 from by omega), if_neg (show ¬ z.toInt = 2 from by omega), if_neg (show ¬ z.toInt = 3 from by omega), if_pos (show z.toInt = 4 from by omega), spl_d, spl_d]; rfl
    · rw [if_neg (show ¬ z.toInt = 0 from by omega), if_neg (show ¬ z.toInt = 1 from by omega), if_neg (show ¬ z.toInt = 2 from by omega), if_neg (show ¬ z.toInt = 3 from by omega), if_neg (show ¬ z.toInt = 4 from by omega), if_pos (show z.toInt = 5 from by omega), spl_d, spl_d]; rfl
    · rw [if_neg (show ¬ z.toInt = 0 from by omega), if_neg (show ¬ z.toInt = 1 from by omega), if_neg (show ¬ z.toInt = 2 from by omega), if_neg (show ¬ z.toInt = 3 from by omega), if_neg (show ¬ z.toInt = 4 from by omega), if_neg (show ¬ z.toInt = 5 from by omega), if_pos (show z.toInt = 6 from by omega), spl_d, spl_d]; rfl
    · rw [if_neg (show ¬ z.toInt = 0 from by omega), if_neg (show ¬ z.toInt = 1 from by omega), if_neg (show ¬ z.toInt = 2 from by omega), if_neg (show ¬ z.toInt = 3 from by omega), if_neg (show ¬ z.toInt = 4 from by omega), if_neg (show ¬ z.toInt = 5 from by omega), if_neg (show ¬ z.toInt = 6 from by omega), spl_d, spl_d]; rfl
theorem kG.sum {m : Nat → Int32} {S : Int} {hl : Bool} {T : Nat → Int32} {n : Nat} {f : sg_F} {p : Int32} (h : kG m S hl T n f) (hS : S ≤ 8) (hp : 0 ≤ p.toInt ∧ p.toInt ≤ 2) (L : sg_L) : kG m S hl T n (sX8_sumGroups p f L) := by
  have l2 : ∀ (q i : Nat) (y : Int32) (f : sg_F), y.toInt = i → kG m S hl T n f → kG m S hl T n (sX8_sumGroups_l2 p q y f L) := by
    intro q
    induction q with
    | zero => intro i y f _ h; exact h
    | succ q ih =>
      intro i y f ey h
      have e9 : sX8_sumGroups_l2 p (q + 1) y f L = sX8_sumGroups_h2 p (sX8_sumGroups_l2 p q) y f L := rfl
      rw [e9]
      unfold sX8_sumGroups_h2
      by_cases c : 60 < y.toInt
      · rw [if_pos c]; exact h
      rw [if_neg c]
      have l10 : ∀ (r j : Nat) (z : Int32) (g : sg_F), z.toInt = j → kG m S hl T n g → kG m S hl T n (sX8_sumGroups_l10 (sX8_sumGroups_l2 p q) p r y z g L) := by
        intro r
        induction r with
        | zero => intro j z g _ hg; exact hg
        | succ r ihr =>
          intro j z g ez hg
          have e8 : sX8_sumGroups_l10 (sX8_sumGroups_l2 p q) p (r + 1) y z g L = sX8_sumGroups_h10 (sX8_sumGroups_l2 p q) p (sX8_sumGroups_l10 (sX8_sumGroups_l2 p q) p r) y z g L := rfl
          by_cases d : z.toInt < (g 17 9).toInt
          case neg => rw [e8, sgh_end _ _ _ _ _ _ _ d]; exact ih (i + 1) (y + 1) g (inc1 ey (by omega)) hg
          obtain ⟨h1, h2, h3⟩ := hg
          rw [e8, sgh_at _ _ _ _ _ _ _ j ez (by omega) d]
          have cz := bn_clI (x := z) (by omega)
          obtain ⟨x1, x2, x3⟩ := xloss h1 hS (h3 z.toNatClampNeg (by omega)) hp (v := y) ⟨by omega, by omega⟩ L
          obtain ⟨o, eo⟩ : ∃ w : Int32 × sg_F, w = sX0_lossAt (g 20 z.toNatClampNeg) p y g L := ⟨_, rfl⟩
          rw [← eo] at x1 x2 x3 ⊢
          have hk : kG m S hl T n o.2 := ⟨x2, by rw [x3 17 (by decide) (by decide)]; exact h2, fun k hk => by
            rw [x3 17 (by decide) (by decide)] at hk
            rw [x3 20 (by decide) (by decide)]; exact h3 k hk⟩
          exact ihr (j + 1) (z + 1) _ (inc1 ez (by omega)) (hk.K (upTo_K _ _ _ _ _))
      exact l10 9 0 0 f (by decide) h
  exact l2 62 0 0 f (by decide) h
theorem k_chairs {fX fX1 fM : sg_F} {LX LM : sg_L} {hl : Bool} {T : Nat → Int32} {n : Nat} {d p k r1 : Int32} (h : rAll fX fM LX LM) (hc : xCx (fX 2) (fX 1 3).toInt hl T n fX) (hC : mCx (fX 2) hl T n fM) (e1 : (r1, fX1) = sX11_chairs d p k fX LX) : xLo (fX 2) (fX 1 3).toInt hl T n (fX1 9) := by
  have hb : 0 ≤ (fX 1 3).toInt ∧ (fX 1 3).toInt ≤ 8 := h.2.2.2.2.2.2 1 3
  have no : ∀ x : Int32, (r1, fX1) = (x, fX) → xLo (fX 2) (fX 1 3).toInt hl T n (fX1 9) := fun x e1 => by
    obtain ⟨a1, b1⟩ := Prod.mk.inj e1
    rw [b1]; exact hc.2.2.2
  unfold sX11_chairs at e1; (repeat first | rw [spl_d] at e1 | rw [spl2_d] at e1)
  rw [pX_isShelf, pX_isPart, has_X] at e1
  by_cases q1 : 0 ≤ d.toInt ∧ d.toInt ≤ 5
  case neg => rw [if_neg q1, if_neg zk0] at e1; exact no _ e1
  rw [if_pos q1, if_pos rfl] at e1
  by_cases q2 : p.toInt < 0
  · rw [if_pos q2] at e1; exact no _ e1
  rw [if_neg q2] at e1
  by_cases q3 : 0 ≤ (p / 10).toInt ∧ (p / 10).toInt ≤ 2
  case neg => rw [if_neg q3, if_neg zk0] at e1; exact no _ e1
  rw [if_pos q3, if_pos rfl] at e1
  by_cases q4 : (p - p / 10 * 10).toInt < 1
  · rw [if_pos q4] at e1; exact no _ e1
  rw [if_neg q4] at e1
  by_cases q5 : 3 < (p - p / 10 * 10).toInt
  · rw [if_pos q5] at e1; exact no _ e1
  rw [if_neg q5] at e1
  have main : (r1, fX1) = sX11_chairs_b59 d p k (p - p / 10 * 10) fX LX → xLo (fX 2) (fX 1 3).toInt hl T n (fX1 9) := by
    intro e1
    unfold sX11_chairs_b59 at e1; (repeat first | rw [spl_d] at e1 | rw [spl2_d] at e1)
    rcases h.week (LM := LM) hc hC q1 with ⟨a, b⟩ | ⟨a, b⟩ | ⟨b, W, N, f1, a, hN, hw, e, hr, -⟩
    · rw [a] at e1; dsimp only at e1; rw [if_neg (by decide)] at e1; exact no _ e1
    · rw [a] at e1; dsimp only at e1; rw [if_neg (by decide)] at e1; exact no _ e1
    · rw [a] at e1; dsimp only at e1; rw [if_pos (by decide)] at e1
      have hg := kG.sum (p := p / 10) (kG.gather hw.1 hb.2 hN (hw.2.2.2.2.2.1.W hN) hr.2.2.2.1 LX) hb.2 q3 LX
      unfold sX8_parted at e1; (repeat first | rw [spl_d] at e1 | rw [spl2_d] at e1)
      obtain ⟨F, eF⟩ : ∃ z : sg_F, z = sX8_sumGroups (p / 10) (sX8_gather f1 LX) LX := ⟨_, rfl⟩
      rw [← eF] at e1 hg
      obtain ⟨G, eG⟩ : ∃ z : sg_F, z = sg_up (sg_up F 17 (sgu (F 17) 12 0)) 17 (sgu (sg_up F 17 (sgu (F 17) 12 0) 17) 10 (p - p / 10 * 10)) := ⟨_, rfl⟩
      rw [← eG] at e1
      have hG : xCx (fX 2) (fX 1 3).toInt hl T n G := by
        rw [eG]
        exact hg.1.fr (by rw [sg_up_n (by decide), sg_up_n (by decide)]) (by rw [sg_up_n (by decide), sg_up_n (by decide)]) (by rw [sg_up_n (by decide), sg_up_n (by decide)]) (by rw [sg_up_n (by decide), sg_up_n (by decide)]) (by rw [sg_up_n (by decide), sg_up_n (by decide)])
      have hP : xCx (fX 2) (fX 1 3).toInt hl T n (sX8_part_0 G LX) := hG.K (fk_sX8_part_0 G LX) (fun _ => rfl) (fun _ => rfl) (fun _ => rfl) (fun _ => rfl) (fun _ => rfl)
      by_cases z : k.toInt = -1
      · rw [if_pos z] at e1
        obtain ⟨a1, b1⟩ := Prod.mk.inj e1
        rw [b1]; exact hP.2.2.2
      · rw [if_neg z] at e1
        obtain ⟨a1, b1⟩ := Prod.mk.inj e1
        rw [b1]; exact hP.2.2.2
  by_cases q6 : k.toInt = -1
  · rw [if_pos q6] at e1; exact main e1
  rw [if_neg q6] at e1
  by_cases q7 : 0 ≤ k.toInt ∧ k.toInt < (fX 1 3).toInt
  · rw [if_pos q7, if_pos rfl] at e1; exact main e1
  · rw [if_neg q7, if_neg zk0] at e1; exact no _ e1
theorem rIm.by_ {fX fX1 fM fM1 : sg_F} (h : rIm fX fM) (a : fX1 29 0 = fM1 0 38) (b : fX1 28 5 = fX 28 5) (c : fX1 30 0 = fX 30 0) (d : ∀ j : Nat, fX1 31 j = fX 31 j) (i : fM1 0 43 = fM 0 43) (k : ∀ j : Nat, fM1 19 j = fM 19 j) : rIm fX1 fM1 := by
  refine ⟨a, ?_⟩
  rw [b, c, i, show fX1 31 = fX 31 from funext d, show fM1 19 = fM 19 from funext k]
  exact h.2
