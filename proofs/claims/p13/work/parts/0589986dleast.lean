/-! LEAST COSTS, the class's rows -/
theorem xpay {m : Nat → Int32} {S : Int} {hl : Bool} {T : Nat → Int32} {n N : Nat} {W : Nat → Int32} {e : Bool} {p k : Int32} {f : sg_F} (h : uC m S hl T n N W f) (hS : S ≤ 8) (hW : wOk S N W) (hq : pOk m) (hN : N ≤ 21) (hp : 0 ≤ p.toInt ∧ p.toInt ≤ 2) (hk : (e = true ∧ k.toInt = 1) ∨ (e = false ∧ k.toInt = 0)) (L : sg_L) : uR m S hl T n N W e p 0 (sX9_pay p k f L) ∧ sX9_pay p k f L 3 = f 3 := by
  have k1 : (1 : Int32).toInt = 1 := by decide
  have km : (-1 : Int32).toInt = -1 := by decide
  have k61 : (61 : Int32).toInt = 61 := by decide
  have k0 : (0 : Int32).toInt = 0 := by decide
  have cp := bn_clI hp.1
  have hpr := hq (67 + p.toNatClampNeg) (by omega) (by omega)
  have vb := fun r v (hv : v ≤ 60) => Vc_b (e := e) (lo := loI m hl T n W p) (sl := slN m p.toNatClampNeg) (q := (m (67 + p.toNatClampNeg)).toInt) (N := N) hpr.1 (fun i v _ => loI_b) (fun v hv => slN_b hq (by omega) hv) r v hv
  have sb := fun v (hv : v ≤ 60) => slN_b (m := m) (p := p.toNatClampNeg) (v := v) hq (by omega) hv
  -- the shifts, from the last on
  have l48 : ∀ (q i : Nat) (y : Int32) (g : sg_F), y.toInt = (i : Int) - 1 → i ≤ N → i < q → uR m S hl T n N W e p i g → g 3 = f 3 → uR m S hl T n N W e p 0 (sX9_pay_l48 p k q y g L) ∧ sX9_pay_l48 p k q y g L 3 = f 3 := by
    intro q
    induction q with
    | zero => intro i y g _ _ h; exact absurd h (by omega)
    | succ q ih =>
      intro i y g ey hi hq' hg h3
      have e9 : sX9_pay_l48 p k (q + 1) y g L = sX9_pay_h48 p k (sX9_pay_l48 p k q) y g L := rfl
      rw [e9]
      unfold sX9_pay_h48
      by_cases c : i = 0
      · subst c
        rw [if_pos (show y.toInt < 0 from by omega)]
        exact ⟨hg, h3⟩
      obtain ⟨i, rfl⟩ : ∃ t : Nat, i = t + 1 := ⟨i - 1, by omega⟩
      rw [if_neg (show ¬ y.toInt < 0 from by omega)]
      have ey2 : y.toInt = (i : Int) := by omega
      have l56 : ∀ (r j : Nat) (z : Int32) (g : sg_F), z.toInt = (j : Int) → j ≤ 61 → 61 - j < r → uR m S hl T n N W e p (i + 1) g → g 3 = f 3 → (∀ v : Nat, v < j → rw_ (g 26) i v = loI m hl T n W p i v + Vc e (loI m hl T n W p) (slN m p.toNatClampNeg) (m (67 + p.toNatClampNeg)).toInt N (N - (i + 1)) (slN m p.toNatClampNeg v)) → uR m S hl T n N W e p 0 (sX9_pay_l56 (sX9_pay_l48 p k q) p k r y z g L) ∧ sX9_pay_l56 (sX9_pay_l48 p k q) p k r y z g L 3 = f 3 := by
        intro r
        induction r with
        | zero => intro j z g _ _ h; exact absurd h (by omega)
        | succ r ihr =>
          intro j z g ez hj hr hg h3 hrow
          have e8 : sX9_pay_l56 (sX9_pay_l48 p k q) p k (r + 1) y z g L = sX9_pay_h56 (sX9_pay_l48 p k q) p k (sX9_pay_l56 (sX9_pay_l48 p k q) p k r) y z g L := rfl
          rw [e8]
          unfold sX9_pay_h56 sX9_pay_b112; (repeat first | rw [spl_d] | rw [spl2_d])
          by_cases d : j ≤ 60
          case neg =>
            rw [if_pos (show 60 < z.toInt from by omega)]
            rcases hk with ⟨e1, e2⟩ | ⟨e1, e2⟩
            · rw [if_neg (show ¬ k.toInt = 0 from by omega)]
              have epr : sX0_priceOf p g L = m (67 + p.toNatClampNeg) := by
                unfold sX0_priceOf; (repeat first | rw [spl_d] | rw [spl2_d])
                rw [adI (k := 67) (by decide) (by decide) cp.symm (by omega), hg.1.1.1]
              rw [epr]
              obtain ⟨s1, s2⟩ := xspread (i := i) (a := y * 61) (b := m (67 + p.toNatClampNeg)) (f := g) (x := fun u => loI m hl T n W p i u + Vc e (loI m hl T n W p) (slN m p.toNatClampNeg) (m (67 + p.toNatClampNeg)).toInt N (N - (i + 1)) (slN m p.toNatClampNeg u)) (m61 ey2 (by omega)) (by omega) hpr (fun v hv => by
                have a := loI_b (m := m) (hl := hl) (T := T) (n := n) (W := W) (p := p) (i := i) (v := v)
                have b := vb (N - (i + 1)) (slN m p.toNatClampNeg v) (sb v hv)
                exact ⟨hrow v (by omega), by omega, by omega⟩) L
              refine ih i (y + (-1)) _ (dec1 ey2 (by omega)) (by omega) (by omega) ⟨hg.1.on s1.1, fun j v a b hv => ?_⟩ (by rw [s1.1 3 (by decide)]; exact h3)
              by_cases x : j = i
              · subst x
                rw [Vc_1 (by omega), if_pos e1]
                exact (s2 v hv).eq
              · have t := hg.2 j v (by omega) b hv
                unfold rw_ at t ⊢
                rw [s1.2 _ (by omega)]; exact t
            · rw [if_pos e2]
              refine ih i (y + (-1)) g (dec1 ey2 (by omega)) (by omega) (by omega) ⟨hg.1, fun j v a b hv => ?_⟩ h3
              by_cases x : j = i
              · subst x
                rw [Vc_1 (by omega), if_neg (by rw [e1]; decide)]
                exact hrow v (by omega)
              · exact hg.2 j v (by omega) b hv
          rw [if_neg (show ¬ 60 < z.toInt from by omega)]
          have hz : 0 ≤ z.toInt ∧ z.toInt ≤ 60 := by omega
          have cz := bn_clI hz.1
          have ezn : z.toNatClampNeg = j := by omega
          have hnx := hg.2 (i + 1) (slN m p.toNatClampNeg z.toNatClampNeg) (Nat.le_refl _) (by omega) (sb _ (by omega))
          have hvb := vb (N - (i + 1)) (slN m p.toNatClampNeg z.toNatClampNeg) (sb _ (by omega))
          obtain ⟨u1, u2, u3⟩ := hg.1.unturned hS hW hq hN hp ey2 (by omega) hz (by rw [hnx]; omega) L
          obtain ⟨o, eo⟩ : ∃ t : Int32 × sg_F, t = sX9_unturned p y z g L := ⟨_, rfl⟩
          rw [← eo] at u1 u2 u3 ⊢
          have i2 := (ixr (i := i) (v := j) (m61 ey2 (by omega)) (by omega) ez (by omega)).2
          rw [i2]
          obtain ⟨g2, eg2⟩ : ∃ t : sg_F, t = sg_up o.2 26 (sgu (o.2 26) (61 * i + j) o.1) := ⟨_, rfl⟩
          rw [← eg2]
          have gk : ∀ t : Nat, t ≠ 26 → g2 t = o.2 t := fun t a => by rw [eg2, sg_up_n a]
          have g26 : g2 26 = sgu (g 26) (61 * i + j) o.1 := by rw [eg2, sg_up_s, u3 26 (by decide) (by decide)]
          refine ihr (j + 1) (z + 1) g2 (inc1 ez (by omega)) (by omega) (by omega) ⟨u2.on gk, fun t v a b hv => ?_⟩ (by rw [gk 3 (by decide), u3 3 (by decide) (by decide)]; exact h3) (fun v hv => ?_)
          · have t2 := hg.2 t v a b hv
            unfold rw_ at t2 ⊢
            rw [g26, sgu_n (by omega)]; exact t2
          · unfold rw_
            rw [g26]
            by_cases x : v = j
            · rw [x, sgu_s, u1, hnx, ezn]
            · rw [sgu_n (by omega)]; exact hrow v (by omega)
      exact l56 62 0 0 g (by decide) (by decide) (by decide) hg h3 (fun v hv => absurd hv (by omega))
  have l14 : ∀ (q j : Nat) (a z : Int32) (g : sg_F), a.toInt = 61 * (N : Int) → z.toInt = (j : Int) → j ≤ 61 → 61 - j < q → uC m S hl T n N W g → g 3 = f 3 → (∀ v : Nat, v < j → rw_ (g 26) N v = 0) → uR m S hl T n N W e p 0 (sX9_pay_l14 p k q a z g L) ∧ sX9_pay_l14 p k q a z g L 3 = f 3 := by
    intro q
    induction q with
    | zero => intro j a z g _ _ _ h; exact absurd h (by omega)
    | succ q ih =>
      intro j a z g ea ez hj hq' hg h3 h0
      have e9 : sX9_pay_l14 p k (q + 1) a z g L = sX9_pay_h14 p k (sX9_pay_l14 p k q) a z g L := rfl
      rw [e9]
      unfold sX9_pay_h14; (repeat first | rw [spl_d] | rw [spl2_d])
      by_cases d : j ≤ 60
      case neg =>
        rw [if_pos (show 60 < z.toInt from by omega)]
        have hn := hg.2.1
        refine l48 22 N _ g (dec2 hn (by omega)) (Nat.le_refl N) (by omega) ⟨hg, fun j v a b hv => ?_⟩ h3
        have : j = N := by omega
        subst this
        rw [h0 v (by omega), show j - j = 0 from by omega]
        rfl
      rw [if_neg (show ¬ 60 < z.toInt from by omega)]
      have i2 := (ixr (i := N) (v := j) ea (by omega) ez (by omega)).2
      rw [i2]
      refine ih (j + 1) a (z + 1) _ ea (inc1 ez (by omega)) (by omega) (by omega) (hg.on (fun t ht => by rw [sg_up_n ht])) (by rw [sg_up_n (by decide)]; exact h3) (fun v hv => ?_)
      unfold rw_
      rw [sg_up_s]
      by_cases x : v = j
      · rw [x, sgu_s]; exact k0
      · rw [sgu_n (by omega)]; exact h0 v (by omega)
  have hn := h.2.1
  unfold sX9_pay; (repeat first | rw [spl_d] | rw [spl2_d])
  exact l14 62 0 _ 0 f ((bn_mulI k61 (by omega) (by omega)).trans (by omega)) (by decide) (by decide) (by decide) h rfl (fun v hv => absurd hv (by omega))
/-- the first setting by which it is paid -/
def fstV (x : Nat → Int) (q : Int) (st : Nat) (z : Int) (v : Nat) : Prop := v ≤ 60 ∧ x v + dst q v st = z ∧ ∀ u : Nat, u < v → x u + dst q u st ≠ z
theorem fstV.one {x : Nat → Int} {q : Int} {st : Nat} {z : Int} {v w : Nat} (h : fstV x q st z v) (k : fstV x q st z w) : v = w := by
  obtain ⟨h1, h2, h3⟩ := h
  obtain ⟨k1, k2, k3⟩ := k
  by_cases c : v < w
  · exact absurd h2 (k3 v c)
  · by_cases d : w < v
    · exact absurd k2 (h3 w d)
    · omega
