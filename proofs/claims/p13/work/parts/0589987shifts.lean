/-! SHIFT BY SHIFT, to the reference, and the call -/
def mY (g g1 : sg_F) : Prop := ∀ k j : Nat, k ≠ 8 → k ≠ 9 → k ≠ 10 → (k ≠ 0 ∨ (j ≠ 12 ∧ j ≠ 13 ∧ j ≠ 14 ∧ j ≠ 15 ∧ j ≠ 16)) → g1 k j = g k j
theorem mY.rf {g : sg_F} : mY g g := fun _ _ _ _ _ _ => rfl
theorem mY.tr {g g1 g2 : sg_F} (h : mY g g1) (h1 : mY g1 g2) : mY g g2 := fun k j a b c d => (h1 k j a b c d).trans (h k j a b c d)
theorem mX.Y {g g1 : sg_F} (h : mX g g1) : mY g g1 := fun k j a _ _ d => h k j a d
theorem mY.p9 {g : sg_F} {x : Nat → Int32} : mY g (sg_up g 9 x) := fun k j _ b _ _ => by rw [sg_up_n b]
theorem mY.p10 {g : sg_F} {x : Nat → Int32} : mY g (sg_up g 10 x) := fun k j _ _ c _ => by rw [sg_up_n c]
def mWk (m : Nat → Int32) (S : Int) (hl : Bool) (T : Nat → Int32) (n : Nat) (W : Nat → Int32) (N : Nat) (d : Int32) (LM : sg_L) (g : sg_F) : Prop := mCx m hl T n g ∧ hWho W S N d g LM ∧ (sX12_shiftsOf d g LM).toInt = N ∧ ∀ j : Nat, g 11 j = 0
theorem mWk.K {m : Nat → Int32} {S : Int} {hl : Bool} {T : Nat → Int32} {n : Nat} {W : Nat → Int32} {N : Nat} {d : Int32} {LM : sg_L} {g g1 : sg_F} (h : mWk m S hl T n W N d LM g) (k : mY g g1) : mWk m S hl T n W N d LM g1 := by
  obtain ⟨h1, h2, h3, h4⟩ := h
  have k0 : ∀ j : Nat, j < 12 → g1 0 j = g 0 j := fun j hj => k 0 j (by decide) (by decide) (by decide) (Or.inr ⟨by omega, by omega, by omega, by omega, by omega⟩)
  have ko : ∀ r j : Nat, r ≠ 8 → r ≠ 9 → r ≠ 10 → r ≠ 0 → g1 r j = g r j := fun r j a b c d => k r j a b c (Or.inl d)
  refine ⟨h1.fr (fun j => ko 1 j (by decide) (by decide) (by decide) (by decide)) (fun j => ko 7 j (by decide) (by decide) (by decide) (by decide)) (k0 11 (by decide)), h2.H (k0 6 (by decide)) (fun j => ko 11 j (by decide) (by decide) (by decide) (by decide)), ?_, fun j => ?_⟩
  · rw [shfM_fr (show g1 23 = g 23 from funext fun j => ko 23 j (by decide) (by decide) (by decide) (by decide))]; exact h3
  · rw [ko 11 j (by decide) (by decide) (by decide) (by decide)]; exact h4 j
/-- all losses are asked for -/
def mL (m : Nat → Int32) (hl : Bool) (T : Nat → Int32) (n : Nat) (W : Nat → Int32) (p : Int32) (i j : Nat) (g : sg_F) : Prop := (∀ t v : Nat, t < i → v ≤ 60 → rw_ (g 9) t v = loI m hl T n W p t v) ∧ ∀ v : Nat, v < j → rw_ (g 9) i v = loI m hl T n W p i v
theorem mask {m : Nat → Int32} {S : Int} {hl : Bool} {T : Nat → Int32} {n : Nat} {W : Nat → Int32} {N : Nat} {d p : Int32} {LM : sg_L} {g : sg_F} (h : mWk m S hl T n W N d LM g) (hm : mOk m) (hS : S ≤ 8) (hN : N ≤ 21) (hp : 0 ≤ p.toInt ∧ p.toInt ≤ 2) : mWk m S hl T n W N d LM (sX12_asksLosses d p g LM) ∧ mL m hl T n W p N 0 (sX12_asksLosses d p g LM) ∧ mY g (sX12_asksLosses d p g LM) := by
  have k61 : (61 : Int32).toInt = 61 := by decide
  have k0 : (0 : Int32).toInt = 0 := by decide
  have go : ∀ (q i : Nat) (y : Int32) (g1 : sg_F), y.toInt = (i : Int) → i ≤ N → N - i < q → mWk m S hl T n W N d LM g1 → mL m hl T n W p i 0 g1 → mY g g1 → mWk m S hl T n W N d LM (sX12_asksLosses_l2 d p q y g1 LM) ∧ mL m hl T n W p N 0 (sX12_asksLosses_l2 d p q y g1 LM) ∧ mY g (sX12_asksLosses_l2 d p q y g1 LM) := by
    intro q
    induction q with
    | zero => intro i y g1 _ _ h; exact absurd h (by omega)
    | succ q ih =>
      intro i y g1 ey hi hq hr hl1 hy
      have e9 : sX12_asksLosses_l2 d p (q + 1) y g1 LM = sX12_asksLosses_h2 d p (sX12_asksLosses_l2 d p q) y g1 LM := rfl
      have hsh := hr.2.2.1
      rw [e9]
      unfold sX12_asksLosses_h2; (repeat first | rw [spl_d] | rw [spl2_d])
      by_cases c : i < N
      case neg =>
        rw [if_neg (show ¬ y.toInt < (sX12_shiftsOf d g1 LM).toInt from by omega)]
        have : i = N := by omega
        subst this
        exact ⟨hr, hl1, hy⟩
      rw [if_pos (show y.toInt < (sX12_shiftsOf d g1 LM).toInt from by omega)]
      have e61 : (61 * y).toInt = 61 * (i : Int) := (bn_mulJ k61 (by omega) (by omega)).trans (by omega)
      have inn : ∀ (r j : Nat) (z : Int32) (g2 : sg_F), z.toInt = (j : Int) → j ≤ 61 → 61 - j < r → mWk m S hl T n W N d LM g2 → mL m hl T n W p i j g2 → mY g g2 → mWk m S hl T n W N d LM (sX12_asksLosses_l14 (sX12_asksLosses_l2 d p q) d p r y z g2 LM) ∧ mL m hl T n W p N 0 (sX12_asksLosses_l14 (sX12_asksLosses_l2 d p q) d p r y z g2 LM) ∧ mY g (sX12_asksLosses_l14 (sX12_asksLosses_l2 d p q) d p r y z g2 LM) := by
        intro r
        induction r with
        | zero => intro j z g2 _ _ h; exact absurd h (by omega)
        | succ r ihr =>
          intro j z g2 ez hj hr' hg hgl hgy
          have e8 : sX12_asksLosses_l14 (sX12_asksLosses_l2 d p q) d p (r + 1) y z g2 LM = sX12_asksLosses_h14 (sX12_asksLosses_l2 d p q) d p (sX12_asksLosses_l14 (sX12_asksLosses_l2 d p q) d p r) y z g2 LM := rfl
          have ez1 := inc1 ez (by omega)
          rw [e8]
          unfold sX12_asksLosses_h14; (repeat first | rw [spl_d] | rw [spl2_d])
          by_cases x : j ≤ 60
          case neg =>
            rw [if_neg (show ¬ z.toInt < 61 from by omega)]
            refine ih (i + 1) (y + 1) g2 (inc1 ey (by omega)) (by omega) (by omega) hg ⟨fun t v ht hv => ?_, fun v hv => absurd hv (by omega)⟩ hgy
            by_cases w : t = i
            · rw [w]; exact hgl.2 v (by omega)
            · exact hgl.1 t v (by omega) hv
          have hz : 0 ≤ z.toInt ∧ z.toInt ≤ 60 := by omega
          have cz := bn_clI hz.1
          have ezn : z.toNatClampNeg = j := by omega
          have eo : Int32.ofNat j = z := by rw [← ezn]; exact ofNn hz.1
          have i2 := (ixr (i := i) (v := j) e61 (by omega) ez (by omega)).2
          rw [if_pos (show z.toInt < 61 from by omega), i2]
          have put : ∀ (g3 : sg_F) (w : Int32), mWk m S hl T n W N d LM g3 → mL m hl T n W p i j g3 → mY g g3 → w.toInt = loI m hl T n W p i j → mWk m S hl T n W N d LM (sX12_asksLosses_l14 (sX12_asksLosses_l2 d p q) d p r y (z + 1) (sg_up g3 9 (sgu (g3 9) (61 * i + j) w)) LM) ∧ mL m hl T n W p N 0 (sX12_asksLosses_l14 (sX12_asksLosses_l2 d p q) d p r y (z + 1) (sg_up g3 9 (sgu (g3 9) (61 * i + j) w)) LM) ∧ mY g (sX12_asksLosses_l14 (sX12_asksLosses_l2 d p q) d p r y (z + 1) (sg_up g3 9 (sgu (g3 9) (61 * i + j) w)) LM) := by
            intro g3 w hg3 hgl3 hgy3 ew
            refine ihr (j + 1) (z + 1) _ ez1 (by omega) (by omega) (hg3.K mY.p9) ⟨fun t v ht hv => ?_, fun v hv => ?_⟩ (hgy3.tr mY.p9)
            · unfold rw_; rw [sg_up_s, sgu_n (by omega)]; exact hgl3.1 t v ht hv
            · unfold rw_; rw [sg_up_s]
              by_cases b : v = j
              · rw [b, sgu_s]; exact ew
              · rw [sgu_n (by omega)]; exact hgl3.2 v (by omega)
          rcases hg.2.1 y i ey c with ⟨w1, w2⟩ | ⟨w1, w2, w3, w4⟩
          · have w2 : (sX12_whoSits d y g2 LM).toInt < 0 := w2.resolve_right (fun z => z (by rw [hg.2.2.2]; decide))
            rw [if_pos w2]
            exact put g2 0 hg hgl hgy (by unfold loI; rw [if_neg (by omega)])
          · rw [w3, if_neg (show ¬ (W i).toInt < 0 from by omega)]
            obtain ⟨y1, y2⟩ := mloss (s := W i) hg.1 hm (by omega) hp hz LM
            have h9 : (sX12_lossOf (W i) p z g2 LM).2 9 = g2 9 := funext fun t => y2 9 t (by decide) (Or.inl (by decide))
            refine put _ _ (hg.K y2.Y) ⟨fun t v ht hv => ?_, fun v hv => ?_⟩ (hgy.tr y2.Y) (by rw [y1]; unfold loI; rw [if_pos w1, eo])
            · rw [h9]; exact hgl.1 t v ht hv
            · rw [h9]; exact hgl.2 v hv
      exact inn 62 0 0 g1 (by decide) (by decide) (by decide) hr hl1 hy
  exact go 22 0 0 g (by decide) (Nat.zero_le _) (by omega) h ⟨fun t v ht => absurd ht (by omega), fun v hv => absurd hv (by omega)⟩ mY.rf
/-- one way to go on -/
theorem mcost {m : Nat → Int32} {S : Int} {hl : Bool} {T : Nat → Int32} {n : Nat} {W : Nat → Int32} {N : Nat} {d p x1 x2 x3 : Int32} {LM : sg_L} {g : sg_F} {i : Nat} (h : mWk m S hl T n W N d LM g) (hq : pOk m) (hN : N ≤ 21) (hp : 0 ≤ p.toInt ∧ p.toInt ≤ 2) (e1 : x1.toInt = (i : Int)) (hi : i < N) (h2 : 0 ≤ x2.toInt ∧ x2.toInt ≤ 60) (h3 : 0 ≤ x3.toInt ∧ x3.toInt ≤ 60) (hl1 : rw_ (g 9) i x3.toNatClampNeg = loI m hl T n W p i x3.toNatClampNeg) (hv : 0 ≤ rw_ (g 10) (i + 1) (slN m p.toNatClampNeg x3.toNatClampNeg) ∧ rw_ (g 10) (i + 1) (slN m p.toNatClampNeg x3.toNatClampNeg) ≤ 1000000) : (sX12_costBy p x1 x2 x3 g LM).toInt = loI m hl T n W p i x3.toNatClampNeg + rw_ (g 10) (i + 1) (slN m p.toNatClampNeg x3.toNatClampNeg) + dst (m (67 + p.toNatClampNeg)).toInt x3.toNatClampNeg x2.toNatClampNeg := by
  have k61 : (61 : Int32).toInt = 61 := by decide
  have cp := bn_clI hp.1
  have c2 := bn_clI h2.1
  have c3 := bn_clI h3.1
  have hpr := hq (67 + p.toNatClampNeg) (by omega) (by omega)
  have lb := loI_b (m := m) (hl := hl) (T := T) (n := n) (W := W) (p := p) (i := i) (v := x3.toNatClampNeg)
  obtain ⟨s1, s2, s3⟩ := slN_I (p := p.toNatClampNeg) hq (by omega) h3
  have a := ab_le h3 h2
  have e61 : (61 * x1).toInt = 61 * (i : Int) := (bn_mulJ k61 (by omega) (by omega)).trans (by omega)
  have e11 := inc1 e1 (by omega)
  have e611 : (61 * (x1 + 1)).toInt = 61 * ((i + 1 : Nat) : Int) := (bn_mulJ k61 (by omega) (by omega)).trans (by omega)
  have g1 : g 1 (67 + p.toNatClampNeg) = m (67 + p.toNatClampNeg) := h.1.2.1 _ (by omega) (by omega)
  have gs : g 1 (64 + p.toNatClampNeg) = m (64 + p.toNatClampNeg) := h.1.2.1 _ (by omega) (by omega)
  have es : sX12_slipped p x3 g LM = slp (m (64 + p.toNatClampNeg)) x3 := by
    rw [slpM (k := p.toNatClampNeg) (by omega) (by omega) (by rw [gs]; exact hq _ (by omega) (by omega)) h3, gs]
  have ds := dsI (c := m (67 + p.toNatClampNeg)) h3 h2 hpr
  have db := dst_b hpr (u := x3.toNatClampNeg) (v := x2.toNatClampNeg) (by omega) (by omega)
  unfold sX12_costBy; (repeat first | rw [spl_d] | rw [spl2_d])
  rw [siz_ab (x := x3 - x2) (by omega), adI (k := 67) (by decide) (by decide) cp.symm (by omega), g1, es]
  have cs := bn_clI s2
  obtain ⟨w, ew⟩ : ∃ z : Int32, z = slp (m (64 + p.toNatClampNeg)) x3 := ⟨_, rfl⟩
  rw [← ew] at s1 s2 s3 cs ⊢
  have i2 := (ixr (i := i) (v := x3.toNatClampNeg) e61 (by omega) c3.symm (by omega)).2
  have i4 := (ixr (i := i + 1) (v := w.toNatClampNeg) e611 (by omega) cs.symm (by omega)).2
  rw [i2, i4]
  rw [s1] at hv ⊢
  have l2 : (g 9 (61 * i + x3.toNatClampNeg)).toInt = loI m hl T n W p i x3.toNatClampNeg := hl1
  have v2 : (g 10 (61 * (i + 1) + w.toNatClampNeg)).toInt = rw_ (g 10) (i + 1) w.toNatClampNeg := rfl
  clear e61 e11 e611 i2 i4 es cs s1 s2 s3 ew a e1 hi cp
  have a1 : (ab (x3 - x2) * m (67 + p.toNatClampNeg) + g 9 (61 * i + x3.toNatClampNeg)).toInt = (ab (x3 - x2) * m (67 + p.toNatClampNeg)).toInt + (g 9 (61 * i + x3.toNatClampNeg)).toInt := bn_addI (by omega) (by omega)
  have a2 : (ab (x3 - x2) * m (67 + p.toNatClampNeg) + g 9 (61 * i + x3.toNatClampNeg) + g 10 (61 * (i + 1) + w.toNatClampNeg)).toInt = (ab (x3 - x2) * m (67 + p.toNatClampNeg) + g 9 (61 * i + x3.toNatClampNeg)).toInt + (g 10 (61 * (i + 1) + w.toNatClampNeg)).toInt := bn_addI (by omega) (by omega)
  rw [a2, a1, ds, l2, v2]
  omega
/-- rows from one on are worked out -/
def mT (m : Nat → Int32) (S : Int) (hl : Bool) (T : Nat → Int32) (n : Nat) (W : Nat → Int32) (N : Nat) (d p : Int32) (LM : sg_L) (i : Nat) (g : sg_F) : Prop := mWk m S hl T n W N d LM g ∧ mL m hl T n W p N 0 g ∧ ∀ j v : Nat, i ≤ j → j ≤ N → v ≤ 60 → rw_ (g 10) j v = Vc true (loI m hl T n W p) (slN m p.toNatClampNeg) (m (67 + p.toNatClampNeg)).toInt N (N - j) v
/-- what a shift and all behind it cost, by the setting -/
noncomputable def xOf (m : Nat → Int32) (hl : Bool) (T : Nat → Int32) (n : Nat) (W : Nat → Int32) (N : Nat) (p : Int32) (i : Nat) (u : Nat) : Int := loI m hl T n W p i u + Vc true (loI m hl T n W p) (slN m p.toNatClampNeg) (m (67 + p.toNatClampNeg)).toInt N (N - (i + 1)) (slN m p.toNatClampNeg u)
theorem Vb {m : Nat → Int32} {hl : Bool} {T : Nat → Int32} {n : Nat} {W : Nat → Int32} {N : Nat} {p : Int32} {e : Bool} (hq : pOk m) (hN : N ≤ 21) (hp : 0 ≤ p.toInt ∧ p.toInt ≤ 2) (r v : Nat) (hr : r ≤ N) (hv : v ≤ 60) : 0 ≤ Vc e (loI m hl T n W p) (slN m p.toNatClampNeg) (m (67 + p.toNatClampNeg)).toInt N r v ∧ Vc e (loI m hl T n W p) (slN m p.toNatClampNeg) (m (67 + p.toNatClampNeg)).toInt N r v ≤ 209979 := by
  have cp := bn_clI hp.1
  have hpr := hq (67 + p.toNatClampNeg) (by omega) (by omega)
  have a := Vc_b (e := e) (lo := loI m hl T n W p) (sl := slN m p.toNatClampNeg) (q := (m (67 + p.toNatClampNeg)).toInt) (N := N) hpr.1 (fun i v _ => loI_b) (fun v hv => slN_b hq (by omega) hv) r v hv
  omega
theorem mT.cost {m : Nat → Int32} {S : Int} {hl : Bool} {T : Nat → Int32} {n : Nat} {W : Nat → Int32} {N : Nat} {d p x1 x2 x3 : Int32} {LM : sg_L} {g : sg_F} {i : Nat} (h : mT m S hl T n W N d p LM (i + 1) g) (hq : pOk m) (hN : N ≤ 21) (hp : 0 ≤ p.toInt ∧ p.toInt ≤ 2) (e1 : x1.toInt = (i : Int)) (hi : i < N) (h2 : 0 ≤ x2.toInt ∧ x2.toInt ≤ 60) (h3 : 0 ≤ x3.toInt ∧ x3.toInt ≤ 60) : (sX12_costBy p x1 x2 x3 g LM).toInt = xOf m hl T n W N p i x3.toNatClampNeg + dst (m (67 + p.toNatClampNeg)).toInt x3.toNatClampNeg x2.toNatClampNeg := by
  have c3 := bn_clI h3.1
  have cp := bn_clI hp.1
  have sb := slN_b (m := m) (p := p.toNatClampNeg) (v := x3.toNatClampNeg) hq (by omega) (by omega)
  have hv := h.2.2 (i + 1) (slN m p.toNatClampNeg x3.toNatClampNeg) (Nat.le_refl _) (by omega) sb
  have b := Vb (m := m) (hl := hl) (T := T) (n := n) (W := W) (N := N) (e := true) hq hN hp (N - (i + 1)) _ (by omega) sb
  rw [mcost h.1 hq hN hp e1 hi h2 h3 (h.2.1.1 i _ hi (by omega)) (by rw [hv]; omega), hv]
  rfl
/-- the rows, from the last on -/
theorem mrows {m : Nat → Int32} {S : Int} {hl : Bool} {T : Nat → Int32} {n : Nat} {W : Nat → Int32} {N : Nat} {d p k y4 : Int32} {LM : sg_L} (hq : pOk m) (hN : N ≤ 21) (hp : 0 ≤ p.toInt ∧ p.toInt ≤ 2) (e4 : y4.toInt = (N : Int)) : ∀ (q i : Nat) (y : Int32) (g : sg_F), y.toInt = (i : Int) - 1 → i ≤ N → i < q → mT m S hl T n W N d p LM i g → ∃ g1 : sg_F, sX12_shifts_l86 d p k q y4 y g LM = sX12_shifts_h86 d p k (fun _ _ f _ => ((0 : Int32), f)) y4 (-1) g1 LM ∧ mT m S hl T n W N d p LM 0 g1 ∧ g1 5 = g 5 := by
  have k1 : (1 : Int32).toInt = 1 := by decide
  have km : (-1 : Int32).toInt = -1 := by decide
  have k61 : (61 : Int32).toInt = 61 := by decide
  have cp := bn_clI hp.1
  have hpr := hq (67 + p.toNatClampNeg) (by omega) (by omega)
  intro q
  induction q with
  | zero => intro i y g _ _ h; exact absurd h (by omega)
  | succ q ih =>
    intro i y g ey hi hq' hg
    have e9 : sX12_shifts_l86 d p k (q + 1) y4 y g LM = sX12_shifts_h86 d p k (sX12_shifts_l86 d p k q) y4 y g LM := rfl
    by_cases c : i = 0
    · subst c
      refine ⟨g, ?_, hg, rfl⟩
      rw [e9]
      unfold sX12_shifts_h86
      rw [if_pos (show y.toInt < 0 from by omega), if_pos (show (-1 : Int32).toInt < 0 from by decide)]
    obtain ⟨i, rfl⟩ : ∃ t : Nat, i = t + 1 := ⟨i - 1, by omega⟩
    have ey2 : y.toInt = (i : Int) := by omega
    -- one cell
    have l116 : ∀ (rec : Int32 → Int32 → Int32 → sg_F → sg_L → Int32 × sg_F) (rec2 : Int32 → Int32 → sg_F → sg_L → Int32 × sg_F) (z : Int32) (g : sg_F), 0 ≤ z.toInt ∧ z.toInt ≤ 60 → mT m S hl T n W N d p LM (i + 1) g → ∀ (r j : Nat) (w a : Int32), w.toInt = (j : Int) → 1 ≤ j → j ≤ 61 → 61 - j < r → ((∀ u : Nat, u < j → a.toInt ≤ xOf m hl T n W N p i u + dst (m (67 + p.toNatClampNeg)).toInt u z.toNatClampNeg) ∧ ∃ u : Nat, u < j ∧ a.toInt = xOf m hl T n W N p i u + dst (m (67 + p.toNatClampNeg)).toInt u z.toNatClampNeg) → ∃ b : Int32, sX12_shifts_l116 rec2 rec d p k r y4 y z a w g LM = rec y4 y (z + 1) (sg_up g 10 (sgu (g 10) (61 * i + z.toNatClampNeg) b)) LM ∧ isM (xOf m hl T n W N p i) (m (67 + p.toNatClampNeg)).toInt z.toNatClampNeg b.toInt := by
      intro rec rec2 z g hz hg r
      have cz := bn_clI hz.1
      induction r with
      | zero => intro j w a _ _ _ h; exact absurd h (by omega)
      | succ r ihr =>
        intro j w a ew hj1 hj hr ha
        have e8 : sX12_shifts_l116 rec2 rec d p k (r + 1) y4 y z a w g LM = sX12_shifts_h116 rec2 rec d p k (sX12_shifts_l116 rec2 rec d p k r) y4 y z a w g LM := rfl
        rw [e8]
        unfold sX12_shifts_h116; (repeat first | rw [spl_d] | rw [spl2_d])
        by_cases x : j ≤ 60
        case neg =>
          rw [if_neg (show ¬ w.toInt < 61 from by omega)]
          have i2 := (ixr (i := i) (v := z.toNatClampNeg) (w61 ey2 (by omega)) (by omega) cz.symm (by omega)).2
          rw [i2]
          refine ⟨a, rfl, fun u hu => ha.1 u (by omega), ?_⟩
          obtain ⟨u, u1, u2⟩ := ha.2
          exact ⟨u, by omega, u2⟩
        have cw := bn_clI (x := w) (by omega)
        have ewn : w.toNatClampNeg = j := by omega
        have ct := hg.cost hq hN hp ey2 (by omega) hz (x3 := w) ⟨by omega, by omega⟩
        rw [ewn] at ct
        rw [if_pos (show w.toInt < 61 from by omega)]
        by_cases b : (sX12_costBy p y z w g LM).toInt < a.toInt
        · rw [if_pos b]
          refine ihr (j + 1) (w + 1) _ (inc1 ew (by omega)) (by omega) (by omega) (by omega) ⟨fun u hu => ?_, j, by omega, ct⟩
          by_cases t : u = j
          · rw [t, ct]; exact Int.le_refl _
          · have := ha.1 u (by omega); omega
        · rw [if_neg b]
          refine ihr (j + 1) (w + 1) a (inc1 ew (by omega)) (by omega) (by omega) (by omega) ⟨fun u hu => ?_, ?_⟩
          · by_cases t : u = j
            · rw [t]; omega
            · exact ha.1 u (by omega)
          · obtain ⟨u, u1, u2⟩ := ha.2
            exact ⟨u, by omega, u2⟩
    -- a row
    have l94 : ∀ (rec2 : Int32 → Int32 → sg_F → sg_L → Int32 × sg_F) (r j : Nat) (z : Int32) (g : sg_F), z.toInt = (j : Int) → j ≤ 61 → 61 - j < r → mT m S hl T n W N d p LM (i + 1) g → (∀ v : Nat, v < j → rw_ (g 10) i v = Vc true (loI m hl T n W p) (slN m p.toNatClampNeg) (m (67 + p.toNatClampNeg)).toInt N (N - i) v) → ∃ g1 : sg_F, sX12_shifts_l94 rec2 d p k r y4 y z g LM = rec2 y4 (y + (-1)) g1 LM ∧ mT m S hl T n W N d p LM i g1 ∧ g1 5 = g 5 := by
      intro rec2 r
      induction r with
      | zero => intro j z g _ _ h; exact absurd h (by omega)
      | succ r ihr =>
        intro j z g ez hj hr hg hrow
        have e8 : sX12_shifts_l94 rec2 d p k (r + 1) y4 y z g LM = sX12_shifts_h94 rec2 d p k (sX12_shifts_l94 rec2 d p k r) y4 y z g LM := rfl
        rw [e8]
        unfold sX12_shifts_h94; (repeat first | rw [spl_d] | rw [spl2_d])
        by_cases x : j ≤ 60
        case neg =>
          rw [if_neg (show ¬ z.toInt < 61 from by omega)]
          refine ⟨g, rfl, ⟨hg.1, hg.2.1, fun t v a b hv => ?_⟩, rfl⟩
          by_cases w : t = i
          · rw [w]; exact hrow v (by omega)
          · exact hg.2.2 t v (by omega) b hv
        have hz : 0 ≤ z.toInt ∧ z.toInt ≤ 60 := by omega
        have cz := bn_clI hz.1
        have ezn : z.toNatClampNeg = j := by omega
        rw [if_pos (show z.toInt < 61 from by omega)]
        have ct := hg.cost hq hN hp ey2 (by omega) hz (x3 := 0) ⟨by decide, by decide⟩
        rw [show (0 : Int32).toNatClampNeg = 0 from by decide] at ct
        obtain ⟨b, b1, b2⟩ := l116 (sX12_shifts_l94 rec2 d p k r) rec2 z g hz hg 61 1 1 _ (by decide) (by decide) (by decide) (by decide) ⟨fun u hu => by rw [show u = 0 from by omega, ct]; exact Int.le_refl _, 0, by decide, ct⟩
        rw [b1]
        have bv : b.toInt = Vc true (loI m hl T n W p) (slN m p.toNatClampNeg) (m (67 + p.toNatClampNeg)).toInt N (N - i) j := by
          rw [Vc_1 (by omega), if_pos rfl, ← ezn]
          exact b2.eq
        rw [ezn]
        obtain ⟨g2, eg2⟩ : ∃ t : sg_F, t = sg_up g 10 (sgu (g 10) (61 * i + j) b) := ⟨_, rfl⟩
        rw [← eg2]
        have gk : ∀ t : Nat, t ≠ 10 → g2 t = g t := fun t a => by rw [eg2, sg_up_n a]
        have g10 : g2 10 = sgu (g 10) (61 * i + j) b := by rw [eg2, sg_up_s]
        obtain ⟨g3, u1, u2, u3⟩ := ihr (j + 1) (z + 1) g2 (inc1 ez (by omega)) (by omega) (by omega) ⟨hg.1.K (by rw [eg2]; exact mY.p10), by unfold mL; rw [gk 9 (by decide)]; exact hg.2.1, fun t v a c hv => by
          have t2 := hg.2.2 t v a c hv
          unfold rw_ at t2 ⊢
          rw [g10, sgu_n (by omega)]; exact t2⟩ (fun v hv => by
          unfold rw_
          rw [g10]
          by_cases w : v = j
          · rw [w, sgu_s]; exact bv
          · rw [sgu_n (by omega)]; exact hrow v (by omega))
        exact ⟨g3, u1, u2, u3.trans (gk 5 (by decide))⟩
    rw [e9]
    unfold sX12_shifts_h86
    rw [if_neg (show ¬ y.toInt < 0 from by omega)]
    obtain ⟨g1, u1, u2, u3⟩ := l94 (sX12_shifts_l86 d p k q) 62 0 0 g (by decide) (by decide) (by decide) hg (fun v hv => absurd hv (by omega))
    rw [u1]
    obtain ⟨g2, w1, w2, w3⟩ := ih i (y + (-1)) g1 (dec1 ey2 (by omega)) (by omega) (by omega) u2
    refine ⟨g2, ?_, w2, w3.trans u3⟩
    rw [w1]
    unfold sX12_shifts_h86
    rfl
theorem mrow0 {m : Nat → Int32} {S : Int} {hl : Bool} {T : Nat → Int32} {n : Nat} {W : Nat → Int32} {N : Nat} {d p k y4 : Int32} {LM : sg_L} {g : sg_F} (h : mWk m S hl T n W N d LM g) (hl1 : mL m hl T n W p N 0 g) (hq : pOk m) (hN : N ≤ 21) (hp : 0 ≤ p.toInt ∧ p.toInt ≤ 2) (e4 : y4.toInt = (N : Int)) : ∃ g1 : sg_F, sX12_shifts_l53 d p k 62 y4 0 g LM = sX12_shifts_h86 d p k (fun _ _ f _ => ((0 : Int32), f)) y4 (-1) g1 LM ∧ mT m S hl T n W N d p LM 0 g1 ∧ g1 5 = g 5 := by
  have k1 : (1 : Int32).toInt = 1 := by decide
  have k61 : (61 : Int32).toInt = 61 := by decide
  have k0 : (0 : Int32).toInt = 0 := by decide
  have e61 : (61 * y4).toInt = 61 * (N : Int) := (bn_mulJ k61 (by omega) (by omega)).trans (by omega)
  have go : ∀ (q j : Nat) (z : Int32) (g1 : sg_F), z.toInt = (j : Int) → j ≤ 61 → 61 - j < q → mWk m S hl T n W N d LM g1 → mL m hl T n W p N 0 g1 → (∀ v : Nat, v < j → rw_ (g1 10) N v = 0) → g1 5 = g 5 → ∃ g2 : sg_F, sX12_shifts_l53 d p k q y4 z g1 LM = sX12_shifts_h86 d p k (fun _ _ f _ => ((0 : Int32), f)) y4 (-1) g2 LM ∧ mT m S hl T n W N d p LM 0 g2 ∧ g2 5 = g 5 := by
    intro q
    induction q with
    | zero => intro j z g1 _ _ h; exact absurd h (by omega)
    | succ q ih =>
      intro j z g1 ez hj hq' hg hgl h0 h5
      have e9 : sX12_shifts_l53 d p k (q + 1) y4 z g1 LM = sX12_shifts_h53 d p k (sX12_shifts_l53 d p k q) y4 z g1 LM := rfl
      rw [e9]
      unfold sX12_shifts_h53; (repeat first | rw [spl_d] | rw [spl2_d])
      by_cases x : j ≤ 60
      case neg =>
        rw [if_neg (show ¬ z.toInt < 61 from by omega)]
        obtain ⟨g2, u1, u2, u3⟩ := mrows (S := S) (d := d) (p := p) (k := k) (LM := LM) hq hN hp e4 22 N (y4 - 1) g1 (dec2 e4 (by omega)) (Nat.le_refl N) (by omega) ⟨hg, hgl, fun t v a b hv => by
          have : t = N := by omega
          subst this
          rw [h0 v (by omega), show t - t = 0 from by omega]
          rfl⟩
        exact ⟨g2, u1, u2, u3.trans h5⟩
      have i2 := (ixr (i := N) (v := j) e61 (by omega) ez (by omega)).2
      rw [if_pos (show z.toInt < 61 from by omega), i2]
      refine ih (j + 1) (z + 1) _ (inc1 ez (by omega)) (by omega) (by omega) (hg.K mY.p10) (by unfold mL; rw [sg_up_n (by decide)]; exact hgl) (fun v hv => ?_) (by rw [sg_up_n (by decide)]; exact h5)
      unfold rw_
      rw [sg_up_s]
      by_cases w : v = j
      · rw [w, sgu_s]; exact k0
      · rw [sgu_n (by omega)]; exact h0 v (by omega)
  exact go 62 0 0 g (by decide) (by decide) (by decide) h hl1 (fun v hv => absurd hv (by omega)) rfl
/-- the setting of a shift, to the reference -/
theorem mset {m : Nat → Int32} {S : Int} {hl : Bool} {T : Nat → Int32} {n : Nat} {W : Nat → Int32} {N : Nat} {d p k y4 y7 st : Int32} {LM : sg_L} {g : sg_F} {i : Nat} (rec : Int32 → Int32 → Int32 → Int32 → sg_F → sg_L → Int32 × sg_F) (h : mT m S hl T n W N d p LM 0 g) (hq : pOk m) (hN : N ≤ 21) (hp : 0 ≤ p.toInt ∧ p.toInt ≤ 2) (e7 : y7.toInt = (i : Int)) (hi : i < N) (hst : 0 ≤ st.toInt ∧ st.toInt ≤ 60) : ∃ r : Int32, sX12_shifts_l235 rec d p k 62 y4 st (-1) y7 0 g LM = rec y4 (slp (m (64 + p.toNatClampNeg)) r) r (y7 + 1) g LM ∧ (0 ≤ r.toInt ∧ r.toInt ≤ 60) ∧ fstV (xOf m hl T n W N p i) (m (67 + p.toNatClampNeg)).toInt st.toNatClampNeg (Vc true (loI m hl T n W p) (slN m p.toNatClampNeg) (m (67 + p.toNatClampNeg)).toInt N (N - i) st.toNatClampNeg) r.toNatClampNeg := by
  have k61 : (61 : Int32).toInt = 61 := by decide
  have km : (-1 : Int32).toInt = -1 := by decide
  have cp := bn_clI hp.1
  have cst := bn_clI hst.1
  have e61 : (61 * y7).toInt = 61 * (i : Int) := (bn_mulJ k61 (by omega) (by omega)).trans (by omega)
  have i2 := (ixr (i := i) (v := st.toNatClampNeg) e61 (by omega) cst.symm (by omega)).2
  have hg1 : mT m S hl T n W N d p LM (i + 1) g := ⟨h.1, h.2.1, fun j v a b hv => h.2.2 j v (by omega) b hv⟩
  have due : (g 10 (61 * i + st.toNatClampNeg)).toInt = Vc true (loI m hl T n W p) (slN m p.toNatClampNeg) (m (67 + p.toNatClampNeg)).toInt N (N - i) st.toNatClampNeg := h.2.2 i st.toNatClampNeg (Nat.zero_le _) (by omega) (by omega)
  obtain ⟨D, eD⟩ : ∃ z : Int, z = Vc true (loI m hl T n W p) (slN m p.toNatClampNeg) (m (67 + p.toNatClampNeg)).toInt N (N - i) st.toNatClampNeg := ⟨_, rfl⟩
  have att : ∃ u : Nat, u ≤ 60 ∧ D = xOf m hl T n W N p i u + dst (m (67 + p.toNatClampNeg)).toInt u st.toNatClampNeg := by
    rw [eD, Vc_1 hi, if_pos rfl]
    exact (lstO_M (xOf m hl T n W N p i) (m (67 + p.toNatClampNeg)).toInt st.toNatClampNeg).2
  rw [← eD] at due ⊢
  have gs : g 1 (64 + p.toNatClampNeg) = m (64 + p.toNatClampNeg) := h.1.1.2.1 _ (by omega) (by omega)
  have go : ∀ (q j : Nat) (z : Int32), z.toInt = (j : Int) → j ≤ 60 → 62 - j ≤ q → (∀ u : Nat, u < j → xOf m hl T n W N p i u + dst (m (67 + p.toNatClampNeg)).toInt u st.toNatClampNeg ≠ D) → ∃ r : Int32, sX12_shifts_l235 rec d p k q y4 st (-1) y7 z g LM = rec y4 (slp (m (64 + p.toNatClampNeg)) r) r (y7 + 1) g LM ∧ (0 ≤ r.toInt ∧ r.toInt ≤ 60) ∧ fstV (xOf m hl T n W N p i) (m (67 + p.toNatClampNeg)).toInt st.toNatClampNeg D r.toNatClampNeg := by
    intro q
    induction q with
    | zero => intro j z _ _ h; exact absurd h (by omega)
    | succ q ih =>
      intro j z ez hj hq' hno
      have e9 : sX12_shifts_l235 rec d p k (q + 1) y4 st (-1) y7 z g LM = sX12_shifts_h235 rec d p k (sX12_shifts_l235 rec d p k q) y4 st (-1) y7 z g LM := rfl
      have hz : 0 ≤ z.toInt ∧ z.toInt ≤ 60 := by omega
      have cz := bn_clI hz.1
      have ezn : z.toNatClampNeg = j := by omega
      have ct := hg1.cost hq hN hp e7 hi hst hz
      rw [ezn] at ct
      rw [e9]
      unfold sX12_shifts_h235; (repeat first | rw [spl_d] | rw [spl2_d])
      rw [if_pos (show z.toInt < 61 from by omega), if_pos (show (-1 : Int32).toInt < 0 from by decide), i2]
      by_cases c : (sX12_costBy p y7 st z g LM).toInt = (g 10 (61 * i + st.toNatClampNeg)).toInt
      · rw [if_pos c]
        -- found: the loop ends
        obtain ⟨q, rfl⟩ : ∃ t : Nat, q = t + 1 := ⟨q - 1, by omega⟩
        have e8 : sX12_shifts_l235 rec d p k (q + 1) y4 st z y7 (z + 1) g LM = sX12_shifts_h235 rec d p k (sX12_shifts_l235 rec d p k q) y4 st z y7 (z + 1) g LM := rfl
        have es : sX12_slipped p z g LM = slp (m (64 + p.toNatClampNeg)) z := by
          rw [slpM (k := p.toNatClampNeg) (by omega) (by omega) (by rw [gs]; exact hq _ (by omega) (by omega)) hz, gs]
        have fin : sX12_shifts_l235 rec d p k (q + 1) y4 st z y7 (z + 1) g LM = rec y4 (slp (m (64 + p.toNatClampNeg)) z) z (y7 + 1) g LM := by
          rw [e8]
          unfold sX12_shifts_h235 sX12_shifts_b288; (repeat first | rw [spl_d] | rw [spl2_d])
          rw [es, if_neg (show ¬ z.toInt < 0 from by omega)]
          by_cases x : (z + 1).toInt < 61
          · rw [if_pos x]
          · rw [if_neg x]
        refine ⟨z, fin, hz, by omega, ?_, fun u hu => hno u (by omega)⟩
        rw [ezn]; omega
      · rw [if_neg c]
        have nj : xOf m hl T n W N p i j + dst (m (67 + p.toNatClampNeg)).toInt j st.toNatClampNeg ≠ D := by omega
        have hj1 : j + 1 ≤ 60 := by
          obtain ⟨u, u1, u2⟩ := att
          by_cases x : u ≤ j
          · by_cases w : u = j
            · rw [w] at u2; exact absurd u2.symm nj
            · exact absurd u2.symm (hno u (by omega))
          · omega
        refine ih (j + 1) (z + 1) (inc1 ez (by omega)) hj1 (by omega) (fun u hu => ?_)
        by_cases w : u = j
        · rw [w]; exact nj
        · exact hno u (by omega)
  exact go 62 0 0 (by decide) (by decide) (by decide) (fun u hu => absurd hu (by omega))
/-- and to the class -/
theorem xset {m : Nat → Int32} {S : Int} {hl : Bool} {T : Nat → Int32} {n N : Nat} {W : Nat → Int32} {p x st : Int32} {f : sg_F} {i : Nat} (h : uR m S hl T n N W true p 0 f) (hS : S ≤ 8) (hW : wOk S N W) (hq : pOk m) (hN : N ≤ 21) (hp : 0 ≤ p.toInt ∧ p.toInt ≤ 2) (ex : x.toInt = (i : Int)) (hi : i < N) (hst : 0 ≤ st.toInt ∧ st.toInt ≤ 60) (L : sg_L) : ∃ (r : Int32) (f1 : sg_F), sX9_leastSetting p x st f L = (r, f1) ∧ uR m S hl T n N W true p 0 f1 ∧ (0 ≤ r.toInt ∧ r.toInt ≤ 60) ∧ fstV (xOf m hl T n W N p i) (m (67 + p.toNatClampNeg)).toInt st.toNatClampNeg (Vc true (loI m hl T n W p) (slN m p.toNatClampNeg) (m (67 + p.toNatClampNeg)).toInt N (N - i) st.toNatClampNeg) r.toNatClampNeg := by
  have k61 : (61 : Int32).toInt = 61 := by decide
  have cp := bn_clI hp.1
  have cst := bn_clI hst.1
  have hpr := hq (67 + p.toNatClampNeg) (by omega) (by omega)
  have e61 : (x * 61).toInt = 61 * (i : Int) := (bn_mulI k61 (by omega) (by omega)).trans (by omega)
  have i2 := (ixr (i := i) (v := st.toNatClampNeg) e61 (by omega) cst.symm (by omega)).2
  have due : (f 26 (61 * i + st.toNatClampNeg)).toInt = Vc true (loI m hl T n W p) (slN m p.toNatClampNeg) (m (67 + p.toNatClampNeg)).toInt N (N - i) st.toNatClampNeg := h.2 i st.toNatClampNeg (Nat.zero_le _) (by omega) (by omega)
  obtain ⟨D, eD⟩ : ∃ z : Int, z = Vc true (loI m hl T n W p) (slN m p.toNatClampNeg) (m (67 + p.toNatClampNeg)).toInt N (N - i) st.toNatClampNeg := ⟨_, rfl⟩
  have att : ∃ u : Nat, u ≤ 60 ∧ D = xOf m hl T n W N p i u + dst (m (67 + p.toNatClampNeg)).toInt u st.toNatClampNeg := by
    rw [eD, Vc_1 hi, if_pos rfl]
    exact (lstO_M (xOf m hl T n W N p i) (m (67 + p.toNatClampNeg)).toInt st.toNatClampNeg).2
  rw [← eD] at due ⊢
  have go : ∀ (q j : Nat) (z a b : Int32) (g : sg_F), z.toInt = (j : Int) → j ≤ 60 → 61 - j ≤ q → a = m (67 + p.toNatClampNeg) → b.toInt = D → uR m S hl T n N W true p 0 g → (∀ u : Nat, u < j → xOf m hl T n W N p i u + dst (m (67 + p.toNatClampNeg)).toInt u st.toNatClampNeg ≠ D) → ∃ (r : Int32) (f1 : sg_F), sX9_leastSetting_l26 p x st q a b z g L = (r, f1) ∧ uR m S hl T n N W true p 0 f1 ∧ (0 ≤ r.toInt ∧ r.toInt ≤ 60) ∧ fstV (xOf m hl T n W N p i) (m (67 + p.toNatClampNeg)).toInt st.toNatClampNeg D r.toNatClampNeg := by
    intro q
    induction q with
    | zero => intro j z a b g _ _ h; exact absurd h (by omega)
    | succ q ih =>
      intro j z a b g ez hj hq' ea eb hg hno
      have e9 : sX9_leastSetting_l26 p x st (q + 1) a b z g L = sX9_leastSetting_h26 p x st (sX9_leastSetting_l26 p x st q) a b z g L := rfl
      have hz : 0 ≤ z.toInt ∧ z.toInt ≤ 60 := by omega
      have cz := bn_clI hz.1
      have ezn : z.toNatClampNeg = j := by omega
      have sb := slN_b (m := m) (p := p.toNatClampNeg) (v := z.toNatClampNeg) hq (by omega) (by omega)
      have hv := hg.2 (i + 1) (slN m p.toNatClampNeg z.toNatClampNeg) (Nat.zero_le _) (by omega) sb
      have vb := Vb (m := m) (hl := hl) (T := T) (n := n) (W := W) (N := N) (e := true) hq hN hp (N - (i + 1)) _ (by omega) sb
      have lb := loI_b (m := m) (hl := hl) (T := T) (n := n) (W := W) (p := p) (i := i) (v := z.toNatClampNeg)
      obtain ⟨u1, u2, u3⟩ := hg.1.unturned hS hW hq hN hp ex hi hz (by rw [hv]; omega) L
      rw [hv] at u1
      have hg2 : uR m S hl T n N W true p 0 (sX9_unturned p x z g L).2 := ⟨u2, fun t v a b hv => by rw [u3 26 (by decide) (by decide)]; exact hg.2 t v a b hv⟩
      have ds := dsI (c := m (67 + p.toNatClampNeg)) hz hst hpr
      have db := dst_b hpr (u := z.toNatClampNeg) (v := st.toNatClampNeg) (by omega) (by omega)
      rw [e9]
      unfold sX9_leastSetting_h26; (repeat first | rw [spl_d] | rw [spl2_d])
      rw [if_neg (show ¬ 60 < z.toInt from by omega), ea, show (if (0 : Int32) ≤ z - st then z - st else 0 - (z - st)) = ab (z - st) from rfl]
      obtain ⟨o, eo⟩ : ∃ t : Int32 × sg_F, t = sX9_unturned p x z g L := ⟨_, rfl⟩
      rw [← eo] at u1 hg2 ⊢
      have ct : (ab (z - st) * m (67 + p.toNatClampNeg) + o.1).toInt = xOf m hl T n W N p i j + dst (m (67 + p.toNatClampNeg)).toInt j st.toNatClampNeg := by
        have a1 : (ab (z - st) * m (67 + p.toNatClampNeg) + o.1).toInt = (ab (z - st) * m (67 + p.toNatClampNeg)).toInt + o.1.toInt := bn_addI (by omega) (by omega)
        rw [a1, ds, u1, ezn]
        unfold xOf
        omega
      by_cases c : (ab (z - st) * m (67 + p.toNatClampNeg) + o.1).toInt = b.toInt
      · rw [if_pos c]
        exact ⟨z, o.2, rfl, hg2, hz, by omega, by rw [ezn]; omega, fun u hu => hno u (by omega)⟩
      · rw [if_neg c]
        have nj : xOf m hl T n W N p i j + dst (m (67 + p.toNatClampNeg)).toInt j st.toNatClampNeg ≠ D := by omega
        have hj1 : j + 1 ≤ 60 := by
          obtain ⟨u, u1, u2⟩ := att
          by_cases x : u ≤ j
          · by_cases w : u = j
            · rw [w] at u2; exact absurd u2.symm nj
            · exact absurd u2.symm (hno u (by omega))
          · omega
        refine ih (j + 1) (z + 1) _ b o.2 (inc1 ez (by omega)) hj1 (by omega) rfl eb hg2 (fun u hu => ?_)
        by_cases w : u = j
        · rw [w]; exact nj
        · exact hno u (by omega)
  have epr : sX0_priceOf p f L = m (67 + p.toNatClampNeg) := by
    unfold sX0_priceOf; (repeat first | rw [spl_d] | rw [spl2_d])
    rw [adI (k := 67) (by decide) (by decide) cp.symm (by omega), h.1.1.1]
  unfold sX9_leastSetting; (repeat first | rw [spl_d] | rw [spl2_d])
  rw [epr, i2]
  exact go 62 0 0 _ _ f (by decide) (by decide) (by decide) rfl due h (fun u hu => absurd hu (by omega))
/-- shift by shift, both -/
theorem both {m : Nat → Int32} {S : Int} {hl : Bool} {T : Nat → Int32} {n N : Nat} {W : Nat → Int32} {d p k y4 : Int32} {LX LM : sg_L} {g : sg_F} (hS : S ≤ 8) (hW : wOk S N W) (hq : pOk m) (hN : N ≤ 21) (hp : 0 ≤ p.toInt ∧ p.toInt ≤ 2) (e4 : y4.toInt = (N : Int)) (hk : 0 ≤ k.toInt ∧ k.toInt < N) (hg : mT m S hl T n W N d p LM 0 g) : ∀ (q i : Nat) (y st b y6 : Int32) (f : sg_F), y.toInt = (i : Int) → (i : Int) ≤ k.toInt + 1 → 22 - i ≤ q → (0 ≤ st.toInt ∧ st.toInt ≤ 60) → (1 ≤ i → b = y6) → uR m S hl T n N W true p 0 f → (sX9_shiftByShift_l33 p k q st b y f LX).1 = (sX12_shifts_l216 d p k q y4 st y6 y g LM).1 := by
  have cp := bn_clI hp.1
  intro q
  induction q with
  | zero => intro i y st b y6 f ey hi h; exact absurd h (by omega)
  | succ q ih =>
    intro i y st b y6 f ey hi hq' hst hb hf
    have e9 : sX9_shiftByShift_l33 p k (q + 1) st b y f LX = sX9_shiftByShift_h33 p k (sX9_shiftByShift_l33 p k q) st b y f LX := rfl
    have e8 : sX12_shifts_l216 d p k (q + 1) y4 st y6 y g LM = sX12_shifts_h216 d p k (sX12_shifts_l216 d p k q) y4 st y6 y g LM := rfl
    rw [e9, e8]
    unfold sX9_shiftByShift_h33 sX12_shifts_h216 sX12_shifts_b303; (repeat first | rw [spl_d] | rw [spl2_d])
    by_cases c : k.toInt < (i : Int)
    · rw [if_pos (show k.toInt < y.toInt from by omega), if_pos (show k.toInt < y.toInt from by omega), if_pos (show k.toInt < y4.toInt from by omega), hb (by omega)]
      by_cases x : y.toInt < y4.toInt
      · rw [if_pos x]
      · rw [if_neg x]
    rw [if_neg (show ¬ k.toInt < y.toInt from by omega), if_neg (show ¬ k.toInt < y.toInt from by omega), if_pos (show y.toInt < y4.toInt from by omega)]
    obtain ⟨r, f1, a1, a2, a3, a4⟩ := xset hf hS hW hq hN hp ey (by omega) hst LX
    obtain ⟨w, b1, b2, b3⟩ := mset (k := k) (y4 := y4) (sX12_shifts_l216 d p k q) hg hq hN hp ey (by omega) hst
    have cr := bn_clI a3.1
    have cw := bn_clI b2.1
    have e := a4.one b3
    have erw : r = w := Int32.toInt_inj.mp (by omega)
    subst erw
    rw [a1, b1]
    dsimp only
    have es : sX0_slipped p r f1 LX = slp (m (64 + p.toNatClampNeg)) r := by
      rw [slpX (k := p.toNatClampNeg) (by omega) (by omega), a2.1.1.1]
    rw [es]
    have sb := slp_b (hq (64 + p.toNatClampNeg) (by omega) (by omega)) a3
    exact ih (i + 1) (y + 1) _ r r f1 (inc1 ey (by omega)) (by omega) (by omega) ⟨sb.1, sb.2.1⟩ (fun _ => rfl) a2
theorem t_shifts {fX fX1 fM fM1 : sg_F} {LX LM : sg_L} {hl : Bool} {T : Nat → Int32} {n : Nat} {d p k r1 r2 : Int32} (h : rAll fX fM LX LM) (hm : mOk (fX 2)) (hq : pOk (fX 2)) (hc : xCx (fX 2) (fX 1 3).toInt hl T n fX) (hC : mCx (fX 2) hl T n fM) (e1 : (r1, fX1) = sX11_shifts d p k fX LX) (e2 : (r2, fM1) = sX12_shifts d p k fM LM) : r1 = r2 := by
  have hb : 0 ≤ (fX 1 3).toInt ∧ (fX 1 3).toInt ≤ 8 := h.2.2.2.2.2.2 1 3
  have hid := h.2.2.2.2.2.1
  have hst := h.2.2.2.2.1
  have no : ∀ x : Int32, (r1, fX1) = (x, fX) → (r2, fM1) = (x, fM) → r1 = r2 := fun x e1 e2 => by
    obtain ⟨a1, b1⟩ := Prod.mk.inj e1
    obtain ⟨a2, b2⟩ := Prod.mk.inj e2
    rw [a1, a2]
  unfold sX11_shifts at e1; (repeat first | rw [spl_d] at e1 | rw [spl2_d] at e1)
  unfold sX12_shifts at e2; (repeat first | rw [spl_d] at e2 | rw [spl2_d] at e2)
  rw [pX_isShelf, pX_isPart] at e1
  rw [pM_isPart] at e2
  by_cases q1 : 0 ≤ d.toInt ∧ d.toInt ≤ 5
  case neg =>
    rw [if_neg q1, if_neg zk0] at e1
    rw [mbytes, if_neg q1, if_neg (by decide), if_pos rfl] at e2
    exact no _ e1 e2
  rw [if_pos q1, if_pos rfl] at e1
  have e2n : (¬ (0 ≤ p.toInt ∧ p.toInt ≤ 2) ∨ k.toInt < -1) → (r2, fM1) = (-1, fM) := fun z => by
    have inner : ∀ x : Int32 × sg_F, (if (if 0 ≤ p.toInt ∧ p.toInt ≤ 2 then (1 : Int32) else 0) = 1 then (if k.toInt < -1 then (-1, fM) else x) else (-1, fM)) = (-1, fM) := fun x => by
      by_cases z1 : 0 ≤ p.toInt ∧ p.toInt ≤ 2
      · have z2 : k.toInt < -1 := z.resolve_left (fun w => w z1)
        rw [if_pos z1, if_pos rfl, if_pos z2]
      · rw [if_neg z1, if_neg zk0]
    by_cases y : sX12_bytesIs d fM LM = 1
    · rw [if_pos y, inner] at e2; exact e2
    · rw [if_neg y] at e2
      by_cases y2 : sX12_bytesIs d fM LM = -1
      · rw [if_pos y2] at e2; exact e2
      · rw [if_neg y2, inner] at e2; exact e2
  by_cases q2 : 0 ≤ p.toInt ∧ p.toInt ≤ 2
  case neg => rw [if_neg q2, if_neg zk0] at e1; exact no _ e1 (e2n (Or.inl q2))
  rw [if_pos q2, if_pos rfl] at e1
  by_cases q3 : k.toInt < -1
  · rw [if_pos q3] at e1; exact no _ e1 (e2n (Or.inr q3))
  rw [if_neg q3] at e1
  rw [if_pos q2, if_neg q3, if_pos rfl, if_neg q3, if_pos rfl] at e2
  rcases h.week hc hC q1 with ⟨a, b⟩ | ⟨a, b⟩ | ⟨b, W, N, f1, a, hN, hw, e, hr, -⟩
  · rw [a] at e1; dsimp only at e1; rw [if_neg (by decide)] at e1
    rw [b, if_neg (by decide), if_neg (by decide)] at e2
    exact no _ e1 e2
  · rw [a] at e1; dsimp only at e1; rw [if_neg (by decide)] at e1
    rw [b, if_neg (by decide), if_neg (by decide)] at e2
    exact no _ e1 e2
  · have hl1 := rl_s hid hw hr
    have hW := hw.2.2.2.2.2.1.W hN
    have hv : (f1 10 2).toInt = N := hw.2.2.2.2.2.2.2.2
    have hsh := hw.2.2.2.2.2.2.1
    rw [a] at e1; dsimp only at e1; rw [if_pos (by decide)] at e1
    rw [b, if_pos rfl] at e2
    have hu : uC (fX 2) (fX 1 3).toInt hl T n N W f1 := ⟨hw.1, hv, hw.2.2.2.2.2.2.2.1, hw.2.2.2.1⟩
    have hR : mWk (fX 2) (fX 1 3).toInt hl T n W N d LM fM := ⟨hC, hl1.2.2.2.1, hsh, hid.2.2.2.2.2.2⟩
    obtain ⟨s1, s2, s3⟩ := mask (p := p) hR hm hb.2 hN q2
    obtain ⟨g1, t1, t2, t3⟩ := mrow0 (k := k) s1 s2 hq hN q2 hsh
    rw [t1] at e2
    have g5 : g1 5 = fM 5 := t3.trans (funext fun j => s3 5 j (by decide) (by decide) (by decide) (Or.inl (by decide)))
    have cp := bn_clI q2.1
    have est : f1 3 p.toNatClampNeg = fM 5 p.toNatClampNeg := hw.2.2.1 _ (by omega)
    have bst := hw.2.2.2.1 p.toNatClampNeg (by omega)
    have cst := bn_clI bst.1
    obtain ⟨xp, xp3⟩ := xpay (e := true) (k := 1) hu hb.2 hW hq hN q2 (Or.inl ⟨rfl, by decide⟩) LX
    unfold sX12_shifts_h86 at e2; (repeat first | rw [spl_d] at e2 | rw [spl2_d] at e2)
    rw [if_pos (show (-1 : Int32).toInt < 0 from by decide), g5] at e2
    by_cases c : k.toInt < (f1 10 2).toInt
    case neg =>
      -- as many shifts aren't there
      rw [if_neg c] at e1
      rw [if_neg (show ¬ k.toInt < 0 from by omega)] at e2
      obtain ⟨a1, b1⟩ := Prod.mk.inj e1
      have go : ∀ (q i : Nat) (y st y6 : Int32), y.toInt = (i : Int) → i ≤ N → N - i < q → (0 ≤ st.toInt ∧ st.toInt ≤ 60) → (sX12_shifts_l216 d p k q (sX12_shiftsOf d fM LM) st y6 y g1 LM).1 = -2 := by
        intro q
        induction q with
        | zero => intro i y st y6 _ _ h; exact absurd h (by omega)
        | succ q ih =>
          intro i y st y6 ey hi hq' hst
          have e8 : sX12_shifts_l216 d p k (q + 1) (sX12_shiftsOf d fM LM) st y6 y g1 LM = sX12_shifts_h216 d p k (sX12_shifts_l216 d p k q) (sX12_shiftsOf d fM LM) st y6 y g1 LM := rfl
          rw [e8]
          unfold sX12_shifts_h216 sX12_shifts_b303
          by_cases x : i < N
          · rw [if_pos (show y.toInt < (sX12_shiftsOf d fM LM).toInt from by omega), if_neg (show ¬ k.toInt < y.toInt from by omega)]
            obtain ⟨w, b1, b2, b3⟩ := mset (k := k) (y4 := sX12_shiftsOf d fM LM) (sX12_shifts_l216 d p k q) t2 hq hN q2 ey x hst
            rw [b1]
            have sb := slp_b (hq (64 + p.toNatClampNeg) (by omega) (by omega)) b2
            exact ih (i + 1) (y + 1) _ w (inc1 ey (by omega)) (by omega) (by omega) ⟨sb.1, sb.2.1⟩
          · rw [if_neg (show ¬ y.toInt < (sX12_shiftsOf d fM LM).toInt from by omega), if_neg (show ¬ k.toInt < (sX12_shiftsOf d fM LM).toInt from by omega)]
      have z := go 22 0 0 (fM 5 p.toNatClampNeg) (-2) (by decide) (Nat.zero_le _) (by omega) (by rw [← est]; exact bst)
      rw [a1, ← z, ← e2]
    rw [if_pos c] at e1
    unfold sX9_shiftByShift at e1; (repeat first | rw [spl_d] at e1 | rw [spl2_d] at e1)
    rw [xp3, est] at e1
    by_cases x : k.toInt < 0
    · rw [if_pos x] at e1 e2
      obtain ⟨a1, b1⟩ := Prod.mk.inj e1
      obtain ⟨a2, b2⟩ := Prod.mk.inj e2
      rw [a1, a2]
      have y1 := xp.2 0 (fM 5 p.toNatClampNeg).toNatClampNeg (Nat.le_refl _) (Nat.zero_le _) (by rw [← est]; omega)
      have y2 := t2.2.2 0 (fM 5 p.toNatClampNeg).toNatClampNeg (Nat.le_refl _) (Nat.zero_le _) (by rw [← est]; omega)
      unfold rw_ at y1 y2
      rw [show 61 * 0 + (fM 5 p.toNatClampNeg).toNatClampNeg = (fM 5 p.toNatClampNeg).toNatClampNeg from by omega] at y1 y2
      exact Int32.toInt_inj.mp (by rw [y1, y2])
    · rw [if_neg x] at e1 e2
      have z := both (LX := LX) hb.2 hW hq hN q2 hsh (k := k) ⟨by omega, by omega⟩ t2 22 0 0 (fM 5 p.toNatClampNeg) 0 (-2) _ (by decide) (by omega) (by decide) (by rw [← est]; exact bst) (fun w => absurd w (by decide)) xp
      obtain ⟨a1, b1⟩ := Prod.mk.inj e1
      rw [a1, z, ← e2]
