/-! CHAIRS: sums of groups (2) -/
/-- the sums of groups so far: at settings 0 .. v, the groups below a bound at v, too -/
def gSum (h : Nat → Int32) (X : Nat → Nat → Int) (v b : Nat) (f : sg_F) : Prop := (∀ mask : Nat, mask < b → (f 21 mask).toInt = sS h (X v) mask 8 ∧ isL (fun u => sS h (X u) mask 8) v (f 22 mask).toInt) ∧ (∀ mask : Nat, b ≤ mask → mask < 256 → 1 ≤ v → mask < 2 ^ rkS h 8 → isL (fun u => sS h (X u) mask 8) (v - 1) (f 22 mask).toInt) ∧ (f 21 0 = 0 ∧ f 22 0 = 0)
theorem upTo_S {h : Nat → Int32} {X : Nat → Nat → Int} {v s : Nat} {x1 x2 : Int32} {f : sg_F} (L : sg_L) (hs : s < 8) (c : 0 < (h s).toInt) (hX : ∀ u t : Nat, 0 ≤ X u t ∧ X u t ≤ 209979) (e1 : x1.toInt = X v s) (e2 : (v = 0 ∧ x2.toInt = 1) ∨ (1 ≤ v ∧ x2.toInt = 0)) (hg : gSum h X v (2 ^ rkS h s) f) : gSum h X v (2 ^ (rkS h s + 1)) (upTo (rkS h s) x1 x2 f L) := by
  have hr := rkS_le h s
  obtain ⟨k, ek⟩ : ∃ z : Nat, z = rkS h s := ⟨_, rfl⟩
  have hk : k ≤ 7 := by omega
  have k8 : k < rkS h 8 := by rw [ek]; exact rkS_lt c hs
  have p1 : 2 ^ (k + 1) = 2 * 2 ^ k := by rw [Nat.pow_succ]; omega
  have p2 : 2 ^ (k + 1) ≤ 2 ^ rkS h 8 := Nat.pow_le_pow_right (by decide) (by omega)
  have p3 : 2 ^ (k + 1) ≤ 2 ^ 8 := Nat.pow_le_pow_right (by decide) (by omega)
  have p4 : 1 ≤ 2 ^ k := Nat.one_le_two_pow
  have p5 : 2 ^ 8 = 256 := by decide
  have k1 : (1 : Int32).toInt = 1 := by decide
  rw [← ek] at hg ⊢
  obtain ⟨lo, hi, l1, l2, l3⟩ := upTo_g hk x1 x2 f L
  rw [l3]
  have go : ∀ (q j : Nat) (y : Int32) (g : sg_F), y.toInt = (j : Int) → 2 ^ k ≤ j → j ≤ 2 ^ (k + 1) → 2 ^ (k + 1) - j < q → gSum h X v j g → gSum h X v (2 ^ (k + 1)) (ul5 lo hi x1 x2 q y g L) := by
    intro q
    induction q with
    | zero => intro j y g _ _ _ h; exact absurd h (by omega)
    | succ q ih =>
      intro j y g ey hj1 hj2 hq hgs
      rw [ul5_s]
      unfold uh5
      by_cases d : j < 2 ^ (k + 1)
      case neg =>
        rw [if_neg (show ¬ y.toInt < hi from by omega)]
        have : j = 2 ^ (k + 1) := by omega
        subst this
        exact hgs
      rw [if_pos (show y.toInt < hi from by omega)]
      (repeat first | rw [spl_d] | rw [spl2_d])
      have cy := bn_clI (x := y) (by omega)
      have eyn : y.toNatClampNeg = j := by omega
      have es : (y - lo).toInt = y.toInt - lo.toInt := bn_subI (by omega) (by omega)
      have cs := bn_clI (x := y - lo) (by omega)
      have esn : (y - lo).toNatClampNeg = j - 2 ^ k := by omega
      rw [eyn, esn]
      obtain ⟨r, er⟩ : ∃ z : Nat, j = 2 ^ k + z := ⟨j - 2 ^ k, by omega⟩
      have hr2 : r < 2 ^ k := by omega
      have e3 : j - 2 ^ k = r := by omega
      rw [e3]
      obtain ⟨hA, hB, hZ⟩ := hgs
      obtain ⟨a1, -⟩ := hA r (by omega)
      have sb := sS_b (h := h) (x := X v) (mask := r) (hX v) 8
      have xb := hX v s
      have ea : (g 21 r + x1).toInt = sS h (X v) j 8 := by
        rw [bn_addI (by omega) (by omega), a1, e1, er, ek, sS_add c (by rw [← ek]; exact hr2), if_pos hs]
      obtain ⟨w, ew⟩ : ∃ z : Int32, z = g 21 r + x1 := ⟨_, rfl⟩
      rw [← ew] at ea ⊢
      obtain ⟨g7, eg7⟩ : ∃ z : sg_F, z = sg_up g 21 (sgu (g 21) j w) := ⟨_, rfl⟩
      rw [← eg7]
      have g721 : g7 21 = sgu (g 21) j w := by rw [eg7, sg_up_s]
      have g722 : g7 22 = g 22 := by rw [eg7, sg_up_n (by decide)]
      have ey1 : (y + 1).toInt = ((j + 1 : Nat) : Int) := inc1 ey (by omega)
      have put : ∀ z : Int32, isL (fun u => sS h (X u) j 8) v z.toInt → gSum h X v (2 ^ (k + 1)) (ul5 lo hi x1 x2 q (y + 1) (sg_up g7 22 (sgu (g7 22) j z)) L) := by
        intro z hz
        refine ih (j + 1) (y + 1) _ ey1 (by omega) (by omega) (by omega) ⟨fun mask hm => ?_, fun mask hm1 hm2 hv hm3 => ?_, ?_, ?_⟩
        · rw [sg_up_n (show (21 : Nat) ≠ 22 by decide), sg_up_s, g721, g722]
          by_cases x : mask = j
          · rw [x, sgu_s, sgu_s]; exact ⟨ea, hz⟩
          · rw [sgu_n x, sgu_n x]; exact hA mask (by omega)
        · rw [sg_up_s, g722, sgu_n (by omega)]; exact hB mask (by omega) hm2 hv hm3
        · rw [sg_up_n (show (21 : Nat) ≠ 22 by decide), g721, sgu_n (by omega)]; exact hZ.1
        · rw [sg_up_s, g722, sgu_n (by omega)]; exact hZ.2
      rcases e2 with ⟨v0, x0⟩ | ⟨v1, x0⟩
      · rw [if_neg (show ¬ x2.toInt = 0 from by omega)]
        refine put w ?_
        subst v0
        exact ⟨fun u hu => by rw [show u = 0 from by omega]; exact Int.le_of_eq ea, 0, Nat.le_refl 0, ea⟩
      · rw [if_pos x0]
        obtain ⟨v, rfl⟩ : ∃ z : Nat, v = z + 1 := ⟨v - 1, by omega⟩
        have old := hB j (Nat.le_refl j) (by omega) (by omega) (by omega)
        rw [show v + 1 - 1 = v from by omega] at old
        rw [show g7 22 j = g 22 j from by rw [g722]]
        refine put _ (old.next (b := w.toInt) ea ?_)
        have mi := bn_minI w (g 22 j)
        omega
  have lo1 : (2 ^ k : Nat) ≤ 1000000 := by omega
  exact go (2 ^ k + 1) (2 ^ k) lo f l1 (Nat.le_refl _) (by omega) (by omega) hg
