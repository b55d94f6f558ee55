/-! CHAIRS: sums of groups (4) -/
/-- what a sitter loses at a setting in all its shifts -/
noncomputable def Xv (m : Nat → Int32) (hl : Bool) (T : Nat → Int32) (n : Nat) (h : Nat → Int32) (p : Int32) (v s : Nat) : Int := (h s * lvf m hl T n p (Int32.ofNat v) s).toInt
/-- the sums of all groups -/
theorem sum_S {m : Nat → Int32} {S : Int} {hl : Bool} {T : Nat → Int32} {n : Nat} {h : Nat → Int32} {p : Int32} {f : sg_F} (L : sg_L) (hS : S ≤ 8) (hp : 0 ≤ p.toInt ∧ p.toInt ≤ 2) (hh : ∀ s : Nat, s < 8 → 0 < (h s).toInt → (s : Int) < S) (hX : ∀ u t : Nat, 0 ≤ Xv m hl T n h p u t ∧ Xv m hl T n h p u t ≤ 209979) (hc : xCx m S hl T n f) (h1 : gOne h f) (h12 : ∀ s : Nat, s < 8 → f 12 s = h s) (hz : f 21 0 = 0 ∧ f 22 0 = 0) : (∀ mask : Nat, mask < 2 ^ rkS h 8 → isL (fun u => sS h (Xv m hl T n h p u) mask 8) 60 (sX8_sumGroups p f L 22 mask).toInt) ∧ (sX8_sumGroups p f L 21 0 = 0 ∧ sX8_sumGroups p f L 22 0 = 0) ∧ xCx m S hl T n (sX8_sumGroups p f L) ∧ ∀ r : Nat, r ≠ 8 → r ≠ 9 → r ≠ 21 → r ≠ 22 → sX8_sumGroups p f L r = f r := by
  have t8 := rkS_le h 8
  have p8 : 2 ^ rkS h 8 ≤ 2 ^ 8 := Nat.pow_le_pow_right (by decide) t8
  have e256 : 2 ^ 8 = 256 := by decide
  -- a sitter at a position
  have pos : ∀ i : Nat, i < rkS h 8 → ∃ s : Nat, s < 8 ∧ 0 < (h s).toInt ∧ rkS h s = i := by
    intro i hi
    have go : ∀ t : Nat, t ≤ 8 → i < rkS h t → ∃ s : Nat, s < t ∧ 0 < (h s).toInt ∧ rkS h s = i := by
      intro t
      induction t with
      | zero => intro _ h0; exact absurd h0 (Nat.not_lt_zero i)
      | succ t ih =>
        intro ht h0
        by_cases z : 0 < (h t).toInt
        · rw [rkS_1 z] at h0
          by_cases y : i < rkS h t
          · obtain ⟨s, s1, s2⟩ := ih (by omega) y
            exact ⟨s, by omega, s2⟩
          · exact ⟨t, by omega, z, by omega⟩
        · rw [rkS_0 z] at h0
          obtain ⟨s, s1, s2⟩ := ih (by omega) h0
          exact ⟨s, by omega, s2⟩
    exact go 8 (Nat.le_refl 8) hi
  -- the loops
  have l2 : ∀ (q v : Nat) (y : Int32) (g : sg_F), y.toInt = (v : Int) → v ≤ 61 → 61 - v < q → xCx m S hl T n g → gOne h g → (∀ r : Nat, r ≠ 8 → r ≠ 9 → r ≠ 21 → r ≠ 22 → g r = f r) → (g 21 0 = 0 ∧ g 22 0 = 0) → (1 ≤ v → ∀ mask : Nat, mask < 2 ^ rkS h 8 → isL (fun u => sS h (Xv m hl T n h p u) mask 8) (v - 1) (g 22 mask).toInt) → (∀ mask : Nat, mask < 2 ^ rkS h 8 → isL (fun u => sS h (Xv m hl T n h p u) mask 8) 60 (sX8_sumGroups_l2 p q y g L 22 mask).toInt) ∧ (sX8_sumGroups_l2 p q y g L 21 0 = 0 ∧ sX8_sumGroups_l2 p q y g L 22 0 = 0) ∧ xCx m S hl T n (sX8_sumGroups_l2 p q y g L) ∧ ∀ r : Nat, r ≠ 8 → r ≠ 9 → r ≠ 21 → r ≠ 22 → sX8_sumGroups_l2 p q y g L r = f r := by
    intro q
    induction q with
    | zero => intro v y g _ _ h; exact absurd h (by omega)
    | succ q ih =>
      intro v y g ey hv hq hcg h1g hfr hzg hm
      have e9 : sX8_sumGroups_l2 p (q + 1) y g L = sX8_sumGroups_h2 p (sX8_sumGroups_l2 p q) y g L := rfl
      rw [e9]
      unfold sX8_sumGroups_h2
      by_cases c : v ≤ 60
      case neg =>
        rw [if_pos (show 60 < y.toInt from by omega)]
        have : v = 61 := by omega
        subst this
        exact ⟨hm (by decide), hzg, hcg, hfr⟩
      rw [if_neg (show ¬ 60 < y.toInt from by omega)]
      have hy : 0 ≤ y.toInt ∧ y.toInt ≤ 60 := by omega
      have cy := bn_clI hy.1
      have eyn : y.toNatClampNeg = v := by omega
      have eo : Int32.ofNat v = y := by rw [← eyn]; exact ofNn hy.1
      have l10 : ∀ (r i : Nat) (z : Int32) (g : sg_F), z.toInt = (i : Int) → i ≤ rkS h 8 → rkS h 8 - i < r → xCx m S hl T n g → gOne h g → (∀ r : Nat, r ≠ 8 → r ≠ 9 → r ≠ 21 → r ≠ 22 → g r = f r) → gSum h (Xv m hl T n h p) v (2 ^ i) g → (∀ mask : Nat, mask < 2 ^ rkS h 8 → isL (fun u => sS h (Xv m hl T n h p u) mask 8) 60 (sX8_sumGroups_l10 (sX8_sumGroups_l2 p q) p r y z g L 22 mask).toInt) ∧ (sX8_sumGroups_l10 (sX8_sumGroups_l2 p q) p r y z g L 21 0 = 0 ∧ sX8_sumGroups_l10 (sX8_sumGroups_l2 p q) p r y z g L 22 0 = 0) ∧ xCx m S hl T n (sX8_sumGroups_l10 (sX8_sumGroups_l2 p q) p r y z g L) ∧ ∀ t : Nat, t ≠ 8 → t ≠ 9 → t ≠ 21 → t ≠ 22 → sX8_sumGroups_l10 (sX8_sumGroups_l2 p q) p r y z g L t = f t := by
        intro r
        induction r with
        | zero => intro i z g _ _ h; exact absurd h (by omega)
        | succ r ihr =>
          intro i z g ez hi hr hcg h1g hfr hgs
          have e8 : sX8_sumGroups_l10 (sX8_sumGroups_l2 p q) p (r + 1) y z g L = sX8_sumGroups_h10 (sX8_sumGroups_l2 p q) p (sX8_sumGroups_l10 (sX8_sumGroups_l2 p q) p r) y z g L := rfl
          have n9 := h1g.1
          by_cases d : i < rkS h 8
          case neg =>
            rw [e8, sgh_end _ _ _ _ _ _ _ (show ¬ z.toInt < (g 17 9).toInt from by omega)]
            have : i = rkS h 8 := by omega
            subst this
            exact ih (v + 1) (y + 1) g (inc1 ey (by omega)) (by omega) (by omega) hcg h1g hfr hgs.2.2 (fun _ mask hmask => (hgs.1 mask hmask).2)
          obtain ⟨s, s1, s2, s3⟩ := pos i d
          have cz := bn_clI (x := z) (by omega)
          have e20 : g 20 z.toNatClampNeg = Int32.ofNat s := by rw [show z.toNatClampNeg = rkS h s from by omega]; exact h1g.2 s s1 s2
          have sI : (Int32.ofNat s).toInt = (s : Int) := ofN_I (by omega)
          have cs := bn_clI (x := Int32.ofNat s) (by omega)
          have esn : (Int32.ofNat s).toNatClampNeg = s := by omega
          rw [e8, sgh_at _ _ _ _ _ _ _ i ez (by omega) (show z.toInt < (g 17 9).toInt from by omega), e20]
          have hs := hh s s1 s2
          obtain ⟨x1, x2, x3⟩ := xloss hcg hS (s := Int32.ofNat s) ⟨by omega, by omega⟩ hp hy L
          rw [esn, hfr 12 (by decide) (by decide) (by decide) (by decide), h12 s s1]
          obtain ⟨o, eo2⟩ : ∃ w : Int32 × sg_F, w = sX0_lossAt (Int32.ofNat s) p y g L := ⟨_, rfl⟩
          rw [← eo2] at x1 x2 x3 ⊢
          have ev : (h s * o.1).toInt = Xv m hl T n h p v s := by
            rw [x1]
            unfold Xv lvf
            rw [eo]
          have hg2 : gSum h (Xv m hl T n h p) v (2 ^ rkS h s) o.2 := by
            rw [s3]
            unfold gSum
            rw [x3 21 (by decide) (by decide), x3 22 (by decide) (by decide)]
            exact hgs
          have k1 : (1 : Int32).toInt = 1 := by decide
          have k0 : (0 : Int32).toInt = 0 := by decide
          have e2 : (v = 0 ∧ (if y.toInt = 0 then (1 : Int32) else 0).toInt = 1) ∨ (1 ≤ v ∧ (if y.toInt = 0 then (1 : Int32) else 0).toInt = 0) := by
            by_cases w : y.toInt = 0
            · rw [if_pos w]; exact Or.inl ⟨by omega, k1⟩
            · rw [if_neg w]; exact Or.inr ⟨by omega, k0⟩
          have U := upTo_S (x1 := h s * o.1) (x2 := if y.toInt = 0 then 1 else 0) L s1 s2 hX ev e2 hg2
          rw [s3] at U
          have uk := upTo_K i (h s * o.1) (if y.toInt = 0 then 1 else 0) o.2 L
          obtain ⟨G, eG⟩ : ∃ w : sg_F, w = upTo i (h s * o.1) (if y.toInt = 0 then 1 else 0) o.2 L := ⟨_, rfl⟩
          rw [← eG] at U uk ⊢
          have gk : ∀ t : Nat, t ≠ 21 → t ≠ 22 → G t = o.2 t := fun t a b => funext fun j => uk t j (sgin_22 a b)
          refine ihr (i + 1) (z + 1) G (inc1 ez (by omega)) (by omega) (by omega) (x2.fr (gk 1 (by decide) (by decide)) (gk 2 (by decide) (by decide)) (gk 4 (by decide) (by decide)) (gk 7 (by decide) (by decide)) (gk 9 (by decide) (by decide))) ?_ (fun t a b c d => by rw [gk t c d, x3 t a b]; exact hfr t a b c d) U
          unfold gOne
          rw [gk 17 (by decide) (by decide), gk 20 (by decide) (by decide), x3 17 (by decide) (by decide), x3 20 (by decide) (by decide)]
          exact h1g
      refine l10 9 0 0 g (by decide) (Nat.zero_le _) (by omega) hcg h1g hfr ⟨fun mask hmask => ?_, fun mask hm1 _ hv1 hm3 => hm hv1 mask hm3, hzg⟩
      have : mask = 0 := by
        have : 2 ^ 0 = 1 := rfl
        omega
      subst this
      rw [hzg.1, hzg.2]
      exact ⟨(sS_0 8).symm, fun u _ => by dsimp only; rw [sS_0 8]; exact Int.le_of_eq (by decide), 0, Nat.zero_le _, by dsimp only; rw [sS_0 8]; decide⟩
  exact l2 62 0 0 f (by decide) (by decide) (by decide) hc h1 (fun _ _ _ _ _ => rfl) hz (fun h => absurd h (by decide))
