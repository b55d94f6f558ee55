/-! LEAST COSTS, both passes -/
theorem xspread {i : Nat} {a b : Int32} {x : Nat → Int} {f : sg_F} (ea : a.toInt = 61 * (i : Int)) (hi : i ≤ 21) (hb : 0 ≤ b.toInt ∧ b.toInt ≤ 99) (hx : ∀ v : Nat, v ≤ 60 → rw_ (f 26) i v = x v ∧ 0 ≤ x v ∧ x v ≤ 1000000) (L : sg_L) : onR i f (sX9_spread a b f L) ∧ ∀ v : Nat, v ≤ 60 → isM x b.toInt v (rw_ (sX9_spread a b f L 26) i v) := by
  have k1 : (1 : Int32).toInt = 1 := by decide
  have km : (-1 : Int32).toInt = -1 := by decide
  -- forth
  have fw : ∀ (q j : Nat) (z : Int32) (g : sg_F), z.toInt = (j : Int) → 1 ≤ j → j ≤ 61 → 61 - j < q → onR i f g → (∀ v : Nat, v < j → isF x b.toInt v (rw_ (g 26) i v) ∧ 0 ≤ rw_ (g 26) i v ∧ rw_ (g 26) i v ≤ 1000000) → (∀ v : Nat, j ≤ v → v ≤ 60 → rw_ (g 26) i v = x v) → onR i f (sX9_spread_l2 a b q z g L) ∧ ∀ v : Nat, v ≤ 60 → isM x b.toInt v (rw_ (sX9_spread_l2 a b q z g L 26) i v) := by
    intro q
    induction q with
    | zero => intro j z g _ _ _ h; exact absurd h (by omega)
    | succ q ih =>
      intro j z g ez hj1 hj hq hr h1 h2
      have e9 : sX9_spread_l2 a b (q + 1) z g L = sX9_spread_h2 a b (sX9_spread_l2 a b q) z g L := rfl
      rw [e9]
      unfold sX9_spread_h2; (repeat first | rw [spl_d] | rw [spl2_d])
      by_cases c : j ≤ 60
      case neg =>
        rw [if_pos (show 60 < z.toInt from by omega)]
        have hy : ∀ v : Nat, v ≤ 60 → isF x b.toInt v (rw_ (g 26) i v) ∧ 0 ≤ rw_ (g 26) i v ∧ rw_ (g 26) i v ≤ 1000000 := fun v hv => h1 v (by omega)
        obtain ⟨u1, u2⟩ := xsp_b (x := x) ea hi hb L (fun v => rw_ (g 26) i v) g hy 61 60 59 g (by decide) (by decide) (by decide) onR.rf (fun _ _ => rfl) (fun v hv hv2 => by
          rw [show v = 60 from by omega]
          have t := (hy 60 (by decide)).2
          exact ⟨⟨fun u a b => by
            rw [show u = 60 from by omega, dst_s]
            show rw_ (g 26) i 60 ≤ rw_ (g 26) i 60 + 0
            omega, 60, by decide, by decide, by
            rw [dst_s]
            show rw_ (g 26) i 60 = rw_ (g 26) i 60 + 0
            omega⟩, t⟩)
        exact ⟨hr.tr u1, fun v hv => (u2 v hv).M hb.1 hv (fun u hu => (hy u hu).1)⟩
      rw [if_neg (show ¬ 60 < z.toInt from by omega)]
      obtain ⟨j, rfl⟩ : ∃ t : Nat, j = t + 1 := ⟨j - 1, by omega⟩
      obtain ⟨i1, i2⟩ := ixr ea (by omega) ez (by omega)
      have i3 : (a + z - 1).toInt = (a + z).toInt - 1 := (bn_subI (by omega) (by omega)).trans (by omega)
      have i4 := bn_clI (x := a + z - 1) (by omega)
      rw [i2, show (a + z - 1).toNatClampNeg = 61 * i + j from by omega]
      obtain ⟨n1, n2, n3⟩ := h1 j (by omega)
      have o1 := h2 (j + 1) (Nat.le_refl _) c
      have x3 := (hx (j + 1) c).2
      have ad : (g 26 (61 * i + j) + b).toInt = rw_ (g 26) i j + b.toInt := bn_addI (by unfold rw_ at n2 n3; omega) (by unfold rw_ at n2 n3; omega)
      have mi := bn_minI (g 26 (61 * i + j) + b) (g 26 (61 * i + (j + 1)))
      obtain ⟨w, ew⟩ : ∃ t : Int32, t = (if g 26 (61 * i + j) + b < g 26 (61 * i + (j + 1)) then g 26 (61 * i + j) + b else g 26 (61 * i + (j + 1))) := ⟨_, rfl⟩
      rw [← ew] at mi ⊢
      have o2 : (g 26 (61 * i + (j + 1))).toInt = x (j + 1) := o1
      rw [ad, o2] at mi
      have hw : isF x b.toInt (j + 1) w.toInt := n1.next rfl mi
      have hwb : 0 ≤ w.toInt ∧ w.toInt ≤ 1000000 := by clear hw n1 o1 o2 ad; omega
      clear mi ad o1 o2 n1 n2 n3 x3 i1 i2 i3 i4
      obtain ⟨g2, eg2⟩ : ∃ t : sg_F, t = sg_up g 26 (sgu (g 26) (61 * i + (j + 1)) w) := ⟨_, rfl⟩
      rw [← eg2]
      have hr2 : onR i f g2 := by rw [eg2]; exact hr.tr (onR.put (by omega))
      have g26 : g2 26 = sgu (g 26) (61 * i + (j + 1)) w := by rw [eg2, sg_up_s]
      refine ih (j + 1 + 1) (z + 1) g2 (inc1 ez (by omega)) (by omega) (by omega) (by omega) hr2 (fun v hv => ?_) (fun v hv hv2 => ?_)
      · unfold rw_; rw [g26]
        by_cases d : v = j + 1
        · rw [d, sgu_s]; exact ⟨hw, hwb⟩
        · rw [sgu_n (by omega)]; exact h1 v (by omega)
      · unfold rw_; rw [g26, sgu_n (by omega)]; exact h2 v (by omega) hv2
  have e0 : sX9_spread a b f L = sX9_spread_l2 a b 61 1 f L := rfl
  rw [e0]
  exact fw 61 1 1 f (by decide) (by decide) (by decide) (by decide) onR.rf (fun v hv => by
    have : v = 0 := by omega
    subst this
    obtain ⟨a1, a2, a3⟩ := hx 0 (by decide)
    rw [a1]
    exact ⟨⟨fun u hu => by rw [show u = 0 from by omega, dst_s]; omega, 0, by decide, by rw [dst_s]; omega⟩, a2, a3⟩) (fun v hv hv2 => (hx v hv2).1)
