/-! CHAIRS: sums of groups (3) -/
theorem sgin_22 {t j : Nat} (a : t ≠ 21) (b : t ≠ 22) : sgin [(21, 21, none), (22, 22, none)] t j = false := by
  cases hb : sgin [(21, 21, none), (22, 22, none)] t j with
  | false => rfl
  | true =>
    exfalso
    have hb2 : ((Nat.ble 21 t && (Nat.ble t 21 && true)) || ((Nat.ble 22 t && (Nat.ble t 22 && true)) || false)) = true := hb
    rcases Bool.or_eq_true_iff.mp hb2 with z | z
    · obtain ⟨z1, z2⟩ := Bool.and_eq_true_iff.mp z
      obtain ⟨z2, -⟩ := Bool.and_eq_true_iff.mp z2
      have := Nat.le_of_ble_eq_true z1
      have := Nat.le_of_ble_eq_true z2
      omega
    · rw [Bool.or_false] at z
      obtain ⟨z1, z2⟩ := Bool.and_eq_true_iff.mp z
      obtain ⟨z2, -⟩ := Bool.and_eq_true_iff.mp z2
      have := Nat.le_of_ble_eq_true z1
      have := Nat.le_of_ble_eq_true z2
      omega
/-- who sits, as the class gathers them -/
def gOne (h : Nat → Int32) (f : sg_F) : Prop := (f 17 9).toInt = (rkS h 8 : Int) ∧ ∀ s : Nat, s < 8 → 0 < (h s).toInt → f 20 (rkS h s) = Int32.ofNat s
theorem gather_S {h : Nat → Int32} {f : sg_F} (L : sg_L) (h12 : ∀ s : Nat, s < 8 → f 12 s = h s) : gOne h (sX8_gather f L) ∧ ∀ q : Nat, q ≠ 17 → q ≠ 20 → sX8_gather f L q = f q := by
  have k1 : (1 : Int32).toInt = 1 := by decide
  have go : ∀ (q i : Nat) (y : Int32) (g : sg_F), y.toInt = (i : Int) → i ≤ 8 → 8 - i < q → (g 17 9).toInt = (rkS h i : Int) → (∀ s : Nat, s < i → 0 < (h s).toInt → g 20 (rkS h s) = Int32.ofNat s) → (∀ r : Nat, r ≠ 17 → r ≠ 20 → g r = f r) → gOne h (sX8_gather_l7 q y g L) ∧ ∀ r : Nat, r ≠ 17 → r ≠ 20 → sX8_gather_l7 q y g L r = f r := by
    intro q
    induction q with
    | zero => intro i y g _ _ h; exact absurd h (by omega)
    | succ q ih =>
      intro i y g ey hi hq h9 h20 hfr
      have e9 : sX8_gather_l7 (q + 1) y g L = sX8_gather_h7 (sX8_gather_l7 q) y g L := rfl
      have cy := bn_clI (x := y) (by omega)
      have eyn : y.toNatClampNeg = i := by omega
      have ey1 := inc1 ey (by omega)
      rw [e9]
      unfold sX8_gather_h7 sX8_gather_b45; (repeat first | rw [spl_d] | rw [spl2_d])
      by_cases c : i < 8
      case neg =>
        rw [if_neg (show ¬ y.toInt < 8 from by omega)]
        have : i = 8 := by omega
        subst this
        exact ⟨⟨h9, h20⟩, hfr⟩
      rw [if_pos (show y.toInt < 8 from by omega), eyn, hfr 12 (by decide) (by decide), h12 i c]
      by_cases z : 0 < (h i).toInt
      · rw [if_pos z]
        have rl := rkS_le h i
        have cc := bn_clI (x := g 17 9) (by omega)
        obtain ⟨u, eu⟩ : ∃ x : Int32, x = g 17 9 := ⟨_, rfl⟩
        rw [← eu] at h9 cc ⊢
        have e1 : (u + 1).toInt = u.toInt + 1 := (bn_addI (by omega) (by omega)).trans (by omega)
        rw [show u.toNatClampNeg = rkS h i from by omega]
        obtain ⟨g1, eg1⟩ : ∃ x : sg_F, x = sg_up g 20 (sgu (g 20) (rkS h i) y) := ⟨_, rfl⟩
        rw [← eg1]
        obtain ⟨g2, eg2⟩ : ∃ x : sg_F, x = sg_up g1 17 (sgu (g1 17) 9 (u + 1)) := ⟨_, rfl⟩
        rw [← eg2]
        have gk : ∀ r : Nat, r ≠ 17 → r ≠ 20 → g2 r = g r := fun r a b => by rw [eg2, sg_up_n a, eg1, sg_up_n b]
        have g17 : g2 17 9 = u + 1 := by rw [eg2, sg_up_s, sgu_s]
        have g20 : g2 20 = sgu (g 20) (rkS h i) y := by rw [eg2, sg_up_n (show (20 : Nat) ≠ 17 by decide), eg1, sg_up_s]
        refine ih (i + 1) (y + 1) g2 ey1 (by omega) (by omega) (by rw [g17, rkS_1 z]; omega) (fun s hs c2 => ?_) (fun r a b => by rw [gk r a b]; exact hfr r a b)
        rw [g20]
        by_cases x : s = i
        · rw [x, sgu_s, ← eyn]; exact (ofNn (by omega)).symm
        · rw [sgu_n (fun w => x (rkS_inj c2 z w))]; exact h20 s (by omega) c2
      · rw [if_neg z]
        refine ih (i + 1) (y + 1) g ey1 (by omega) (by omega) (by rw [rkS_0 z]; exact h9) (fun s hs c2 => ?_) hfr
        by_cases x : s = i
        · rw [x] at c2; exact absurd c2 z
        · exact h20 s (by omega) c2
  unfold sX8_gather; (repeat first | rw [spl_d] | rw [spl2_d])
  obtain ⟨g2, eg2⟩ : ∃ x : sg_F, x = sg_up f 17 (sgu (f 17) 9 0) := ⟨_, rfl⟩
  rw [← eg2]
  exact go 9 0 0 g2 (by decide) (by decide) (by decide) (by rw [eg2, sg_up_s, sgu_s]; exact (show (0 : Int32).toInt = ((0 : Nat) : Int) from by decide)) (fun s hs => absurd hs (by omega)) (fun r a _ => by rw [eg2, sg_up_n a])
