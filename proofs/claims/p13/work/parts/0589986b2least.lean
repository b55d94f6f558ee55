/-! LEAST COSTS, the pass back -/
theorem xsp_b {i : Nat} {a b : Int32} {x : Nat → Int} (ea : a.toInt = 61 * (i : Int)) (hi : i ≤ 21) (hb : 0 ≤ b.toInt ∧ b.toInt ≤ 99) (L : sg_L) : ∀ (y : Nat → Int) (f0 : sg_F), (∀ v : Nat, v ≤ 60 → isF x b.toInt v (y v) ∧ 0 ≤ y v ∧ y v ≤ 1000000) → ∀ (q j : Nat) (z : Int32) (g : sg_F), z.toInt = (j : Int) - 1 → j ≤ 60 → j < q → onR i f0 g → (∀ v : Nat, v < j → rw_ (g 26) i v = y v) → (∀ v : Nat, j ≤ v → v ≤ 60 → isB y b.toInt v (rw_ (g 26) i v) ∧ 0 ≤ rw_ (g 26) i v ∧ rw_ (g 26) i v ≤ 1000000) → onR i f0 (sX9_spread_l48 a b q z g L) ∧ ∀ v : Nat, v ≤ 60 → isB y b.toInt v (rw_ (sX9_spread_l48 a b q z g L 26) i v) := by
  have km : (-1 : Int32).toInt = -1 := by decide
  have k1 : (1 : Int32).toInt = 1 := by decide
  intro y f0 hy q
  induction q with
  | zero => intro j z g _ _ h; exact absurd h (by omega)
  | succ q ih =>
    intro j z g ez hj hq hr h1 h2
    have e9 : sX9_spread_l48 a b (q + 1) z g L = sX9_spread_h48 a b (sX9_spread_l48 a b q) z g L := rfl
    rw [e9]
    unfold sX9_spread_h48; (repeat first | rw [spl_d] | rw [spl2_d])
    by_cases c : j = 0
    · rw [if_pos (show z.toInt < 0 from by omega)]
      exact ⟨hr, fun v hv => (h2 v (by omega) hv).1⟩
    obtain ⟨j, rfl⟩ : ∃ t : Nat, j = t + 1 := ⟨j - 1, by omega⟩
    rw [if_neg (show ¬ z.toInt < 0 from by omega)]
    have ez2 : z.toInt = (j : Int) := by omega
    obtain ⟨i1, i2⟩ := ixr ea (by omega) ez2 (by omega)
    have i3 : (a + z + 1).toInt = (a + z).toInt + 1 := (bn_addI (by omega) (by omega)).trans (by omega)
    have i4 := bn_clI (x := a + z + 1) (by omega)
    rw [i2, show (a + z + 1).toNatClampNeg = 61 * i + (j + 1) from by omega]
    obtain ⟨n1, n2, n3⟩ := h2 (j + 1) (Nat.le_refl _) (by omega)
    have o1 := h1 j (by omega)
    obtain ⟨y1, y2, y3⟩ := hy j (by omega)
    have ad : (g 26 (61 * i + (j + 1)) + b).toInt = rw_ (g 26) i (j + 1) + b.toInt := bn_addI (by unfold rw_ at n2 n3; omega) (by unfold rw_ at n2 n3; omega)
    have mi := bn_minI (g 26 (61 * i + (j + 1)) + b) (g 26 (61 * i + j))
    obtain ⟨w, ew⟩ : ∃ t : Int32, t = (if g 26 (61 * i + (j + 1)) + b < g 26 (61 * i + j) then g 26 (61 * i + (j + 1)) + b else g 26 (61 * i + j)) := ⟨_, rfl⟩
    rw [← ew] at mi ⊢
    have o2 : (g 26 (61 * i + j)).toInt = y j := o1
    rw [ad, o2] at mi
    have hw : isB y b.toInt j w.toInt := n1.next (by omega) rfl mi
    have hwb : 0 ≤ w.toInt ∧ w.toInt ≤ 1000000 := by clear hw n1 o1 o2 ad y1; omega
    clear mi ad o1 o2 n1 n2 n3 y1 y2 y3 i1 i2 i3 i4
    have ez1 : (z + (-1)).toInt = (j : Int) - 1 := (bn_addI (by omega) (by omega)).trans (by omega)
    obtain ⟨g2, eg2⟩ : ∃ t : sg_F, t = sg_up g 26 (sgu (g 26) (61 * i + j) w) := ⟨_, rfl⟩
    rw [← eg2]
    have hr2 : onR i f0 g2 := by rw [eg2]; exact hr.tr (onR.put (by omega))
    have g26 : g2 26 = sgu (g 26) (61 * i + j) w := by rw [eg2, sg_up_s]
    refine ih j (z + (-1)) g2 ez1 (by omega) (by omega) hr2 (fun v hv => ?_) (fun v hv hv2 => ?_)
    · unfold rw_; rw [g26, sgu_n (by omega)]; exact h1 v (by omega)
    · unfold rw_; rw [g26]
      by_cases d : v = j
      · rw [d, sgu_s]; exact ⟨hw, hwb⟩
      · rw [sgu_n (by omega)]; exact h2 v (by omega) hv2
