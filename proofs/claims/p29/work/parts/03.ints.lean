/-! bounds of ints: sgB a b x says that x lies between a and b -/
abbrev sgB (a b : Int) (x : Int32) : Prop := a ≤ x.toInt ∧ x.toInt ≤ b
theorem bn_any (x : Int32) : sgB (-2147483648) 2147483647 x := by
  have h1 := x.le_toInt
  have h2 := x.toInt_lt
  exact ⟨by omega, by omega⟩
theorem bn_w {a b c d : Int} {x : Int32} (h : sgB a b x) (k : c ≤ a ∧ b ≤ d) : sgB c d x := ⟨Int.le_trans k.1 h.1, Int.le_trans h.2 k.2⟩
theorem bn_add {a b c d l u : Int} {x y : Int32} (h : sgB a b x) (g : sgB c d y) (k : (-2147483648 ≤ a + c ∧ b + d ≤ 2147483647) ∧ l ≤ a + c ∧ b + d ≤ u) : sgB l u (x + y) ∧ (x + y).toInt = x.toInt + y.toInt := by
  have e : (x + y).toInt = x.toInt + y.toInt := by
    rw [Int32.toInt_add]
    exact Int.bmod_eq_of_le (by omega) (by omega)
  exact ⟨⟨by omega, by omega⟩, e⟩
theorem bn_sub {a b c d l u : Int} {x y : Int32} (h : sgB a b x) (g : sgB c d y) (k : (-2147483648 ≤ a - d ∧ b - c ≤ 2147483647) ∧ l ≤ a - d ∧ b - c ≤ u) : sgB l u (x - y) ∧ (x - y).toInt = x.toInt - y.toInt := by
  have e : (x - y).toInt = x.toInt - y.toInt := by
    rw [Int32.toInt_sub]
    exact Int.bmod_eq_of_le (by omega) (by omega)
  exact ⟨⟨by omega, by omega⟩, e⟩
theorem bn_neg {a b l u : Int} {x : Int32} (h : sgB a b x) (k : -2147483648 < a ∧ l ≤ -b ∧ -a ≤ u) : sgB l u (-x) ∧ (-x).toInt = -x.toInt := by
  have h2 := x.toInt_lt
  have e : (-x).toInt = -x.toInt := by
    rw [Int32.toInt_neg]
    exact Int.bmod_eq_of_le (by omega) (by omega)
  exact ⟨⟨by omega, by omega⟩, e⟩
theorem bn_mul {a b c d l u : Int} {x y : Int32} (h : sgB a b x) (g : sgB c d y) (k : (0 ≤ a ∧ 0 ≤ c) ∧ b * d ≤ 2147483647 ∧ l ≤ a * c ∧ b * d ≤ u) : sgB l u (x * y) ∧ (x * y).toInt = x.toInt * y.toInt := by
  obtain ⟨⟨k1, k2⟩, k3, k4, k5⟩ := k
  have h1 : a * c ≤ x.toInt * y.toInt := Int.mul_le_mul h.1 g.1 k2 (Int.le_trans k1 h.1)
  have h2 : x.toInt * y.toInt ≤ b * d := Int.mul_le_mul h.2 g.2 (Int.le_trans k2 g.1) (Int.le_trans (Int.le_trans k1 h.1) h.2)
  have h3 : 0 ≤ x.toInt * y.toInt := Int.mul_nonneg (Int.le_trans k1 h.1) (Int.le_trans k2 g.1)
  have e : (x * y).toInt = x.toInt * y.toInt := by
    rw [Int32.toInt_mul]
    exact Int.bmod_eq_of_le (by omega) (by omega)
  rw [sgB, e]
  exact ⟨⟨Int.le_trans k4 h1, Int.le_trans h2 k5⟩, rfl⟩
/-- the sides of a branch -/
theorem bn_lt {x y : Int32} (h : x < y) : x.toInt < y.toInt := Int32.lt_iff_toInt_lt.mp h
theorem bn_nlt {x y : Int32} (h : ¬ x < y) : y.toInt ≤ x.toInt := Int.not_lt.mp (fun z => h (Int32.lt_iff_toInt_lt.mpr z))
theorem bn_le {x y : Int32} (h : x ≤ y) : x.toInt ≤ y.toInt := Int32.le_iff_toInt_le.mp h
theorem bn_nle {x y : Int32} (h : ¬ x ≤ y) : y.toInt < x.toInt := Int.not_le.mp (fun z => h (Int32.le_iff_toInt_le.mpr z))
theorem bn_ne {x y : Int32} (h : ¬ x = y) : x.toInt ≠ y.toInt := fun z => h (Int32.toInt_inj.mp z)
/-- what a side says: x below y, of x; of y -/
theorem bs_lt1 {a b c d u : Int} {x y : Int} (h : x < y) (hx : a ≤ x ∧ x ≤ b) (hy : c ≤ y ∧ y ≤ d) (k : d ≤ u + 1) : a ≤ x ∧ x ≤ u := ⟨hx.1, by omega⟩
theorem bs_lt2 {a b c d u : Int} {x y : Int} (h : x < y) (hx : a ≤ x ∧ x ≤ b) (hy : c ≤ y ∧ y ≤ d) (k : u ≤ a + 1) : u ≤ y ∧ y ≤ d := ⟨by omega, hy.2⟩
theorem bs_le1 {a b c d : Int} {x y : Int} (h : x ≤ y) (hx : a ≤ x ∧ x ≤ b) (hy : c ≤ y ∧ y ≤ d) : a ≤ x ∧ x ≤ d := ⟨hx.1, Int.le_trans h hy.2⟩
theorem bs_le2 {a b c d : Int} {x y : Int} (h : x ≤ y) (hx : a ≤ x ∧ x ≤ b) (hy : c ≤ y ∧ y ≤ d) : a ≤ y ∧ y ≤ d := ⟨Int.le_trans hx.1 h, hy.2⟩
theorem bs_eq {a b c d l u : Int} {x y : Int32} (h : x = y) (hx : sgB a b x) (hy : sgB c d y) (k : (l ≤ a ∨ l ≤ c) ∧ (b ≤ u ∨ d ≤ u)) : sgB l u x := by
  subst h
  exact ⟨by omega, by omega⟩
theorem bs_ne1 {a b c l : Int} {x y : Int32} (h : ¬ x = y) (hx : sgB a b x) (hy : sgB c c y) (k : l ≤ a + 1 ∧ c = a) : sgB l b x := by
  have := bn_ne h
  exact ⟨by omega, hx.2⟩
theorem bs_ne2 {a b c u : Int} {x y : Int32} (h : ¬ x = y) (hx : sgB a b x) (hy : sgB c c y) (k : b ≤ u + 1 ∧ c = b) : sgB a u x := by
  have := bn_ne h
  exact ⟨hx.1, by omega⟩
/-- an index -/
theorem bn_in {a b : Int} {x : Int32} {N : Nat} (h : sgB a b x) (k : 0 ≤ a ∧ b < (N : Int)) : vp_in x N := vp_in_iff.mpr ⟨by omega, by omega⟩
theorem bn_cl {a b : Int} {x : Int32} (h : sgB a b x) (k : 0 ≤ a) : ((x.toNatClampNeg : Nat) : Int) = x.toInt := by
  show ((x.toInt.toNat : Nat) : Int) = x.toInt
  omega
theorem bn_k {a b : Int} {x : Int32} {N : Nat} (h : sgB a b x) (k : 0 ≤ a ∧ b < (N : Int)) : x.toNatClampNeg < N := by
  have := bn_cl h k.1
  omega
theorem bn_max {a b c d l u : Int} {x y : Int32} (h : sgB a b x) (g : sgB c d y) (k : (l ≤ a ∨ l ≤ c) ∧ b ≤ u ∧ d ≤ u) : sgB l u (if x < y then y else x) := by
  split
  · have := bn_lt (by assumption); exact ⟨by omega, by omega⟩
  · have := bn_nlt (by assumption); exact ⟨by omega, by omega⟩
theorem bn_min {a b c d l u : Int} {x y : Int32} (h : sgB a b x) (g : sgB c d y) (k : (l ≤ a ∧ l ≤ c) ∧ (b ≤ u ∨ d ≤ u)) : sgB l u (if x < y then x else y) := by
  split
  · have := bn_lt (by assumption); exact ⟨by omega, by omega⟩
  · have := bn_nlt (by assumption); exact ⟨by omega, by omega⟩
theorem bn_abs {a b u : Int} {x : Int32} (h : sgB a b x) (k : -2147483648 < a ∧ -a ≤ u ∧ b ≤ u) : sgB 0 u (if 0 ≤ x then x else 0 - x) := by
  have z : (0 : Int32).toInt = 0 := by decide
  split
  · have := bn_le (by assumption)
    exact ⟨by omega, by omega⟩
  · have := bn_nle (by assumption)
    have e : (0 - x).toInt = 0 - x.toInt := by
      rw [Int32.toInt_sub, z]
      exact Int.bmod_eq_of_le (by omega) (by omega)
    exact ⟨by omega, by omega⟩
theorem bn_div {a b c l u : Int} {x y : Int32} (h : sgB a b x) (g : sgB c c y) (k : (0 ≤ a ∧ 0 < c) ∧ l ≤ a / c ∧ b / c ≤ u) : sgB l u (x / y) ∧ (x / y).toInt = x.toInt / c := by
  obtain ⟨⟨k1, k2⟩, k3, k4⟩ := k
  have e0 : y.toInt = c := by omega
  have e : (x / y).toInt = x.toInt / c := by
    rw [Int32.toInt_div_of_ne_right _ _ (by intro z; rw [z] at e0; have : (-1 : Int32).toInt = -1 := by decide
                                            omega), e0]
    exact Int.tdiv_eq_ediv_of_nonneg (by omega)
  rw [sgB, e]
  exact ⟨⟨Int.le_trans k3 (Int.ediv_le_ediv k2 h.1), Int.le_trans (Int.ediv_le_ediv k2 h.2) k4⟩, rfl⟩
theorem bn_rem {a b c u : Int} {x y : Int32} (h : sgB a b x) (g : sgB c c y) (k : (0 ≤ a ∧ 0 < c) ∧ c ≤ u + 1) : sgB 0 u (x - x / y * y) ∧ (x - x / y * y).toInt = x.toInt % c := by
  obtain ⟨⟨k1, k2⟩, k3⟩ := k
  have e0 : y.toInt = c := by omega
  have ed : (x / y).toInt = x.toInt / c := (bn_div (l := a / c) (u := b / c) h g ⟨⟨k1, k2⟩, Int.le_refl _, Int.le_refl _⟩).2
  have hb := x.toInt_lt
  have h0 : 0 ≤ x.toInt := by omega
  have d0 : 0 ≤ x.toInt / c := Int.ediv_nonneg h0 (by omega)
  have d1 : x.toInt / c * c ≤ x.toInt := Int.ediv_mul_le _ (by omega)
  have d2 : 0 ≤ x.toInt / c * c := Int.mul_nonneg d0 (by omega)
  have em : (x / y * y).toInt = x.toInt / c * c := by
    rw [Int32.toInt_mul, ed, e0]
    exact Int.bmod_eq_of_le (by omega) (by omega)
  have es : (x - x / y * y).toInt = x.toInt - x.toInt / c * c := by
    rw [Int32.toInt_sub, em]
    exact Int.bmod_eq_of_le (by omega) (by omega)
  have em2 : x.toInt - x.toInt / c * c = x.toInt % c := by
    rw [Int.emod_def, Int.mul_comm]
  have r0 := Int.emod_nonneg x.toInt (by omega : c ≠ 0)
  have r1 := Int.emod_lt_of_pos x.toInt k2
  rw [sgB, es, em2]
  exact ⟨⟨r0, by omega⟩, rfl⟩
theorem bn_lcmp (x y : Int64) : sgB (-1) 1 (lg_cmp x y) := by
  unfold lg_cmp
  split
  · decide
  · split <;> decide
/-- a measure that falls -/
theorem ms_0 {a b K : Int} {x : Int} (hx : a ≤ x ∧ x ≤ b) (k : b ≤ K) (hm : K - x < ((0 : Nat) : Int)) : False := by omega
theorem ms_s {K x y : Int} {n : Nat} (hm : K - x < ((n + 1 : Nat) : Int)) (e : x + 1 ≤ y) : K - y < (n : Int) := by omega
theorem ms_1 {a b K : Int} {x : Int} (hx : a ≤ x ∧ x ≤ b) (M : Nat) (k : K - a < (M : Int)) : K - x < (M : Int) := by omega
theorem md_0 {a b K : Int} {x : Int} (hx : a ≤ x ∧ x ≤ b) (k : K ≤ a) (hm : x - K < ((0 : Nat) : Int)) : False := by omega
theorem md_s {K x y : Int} {n : Nat} (hm : x - K < ((n + 1 : Nat) : Int)) (e : y + 1 ≤ x) : y - K < (n : Int) := by omega
theorem md_1 {a b K : Int} {x : Int} (hx : a ≤ x ∧ x ≤ b) (M : Nat) (k : b - K < (M : Int)) : x - K < (M : Int) := by omega
/-! the same without bounds, for a context that says enough -/
theorem bn_addI {x y : Int32} (h1 : -2147483648 ≤ x.toInt + y.toInt) (h2 : x.toInt + y.toInt ≤ 2147483647) : (x + y).toInt = x.toInt + y.toInt := by
  rw [Int32.toInt_add]
  exact Int.bmod_eq_of_le (by omega) (by omega)
theorem bn_subI {x y : Int32} (h1 : -2147483648 ≤ x.toInt - y.toInt) (h2 : x.toInt - y.toInt ≤ 2147483647) : (x - y).toInt = x.toInt - y.toInt := by
  rw [Int32.toInt_sub]
  exact Int.bmod_eq_of_le (by omega) (by omega)
theorem bn_negI {x : Int32} (h : -2147483648 < x.toInt) : (-x).toInt = -x.toInt := by
  have h2 := x.toInt_lt
  rw [Int32.toInt_neg]
  exact Int.bmod_eq_of_le (by omega) (by omega)
theorem bn_addc (x y : Int32) {n : Int} (e : y.toInt = n) (h1 : -2147483648 ≤ x.toInt + n) (h2 : x.toInt + n ≤ 2147483647) : (x + y).toInt = x.toInt + n := by
  rw [← e]
  exact bn_addI (by omega) (by omega)
theorem bn_mulI {x y : Int32} {n : Int} (e : y.toInt = n) (h1 : -2147483648 ≤ x.toInt * n) (h2 : x.toInt * n ≤ 2147483647) : (x * y).toInt = x.toInt * n := by
  rw [Int32.toInt_mul, e]
  exact Int.bmod_eq_of_le (by omega) (by omega)
theorem bn_mulJ {x y : Int32} {n : Int} (e : x.toInt = n) (h1 : -2147483648 ≤ n * y.toInt) (h2 : n * y.toInt ≤ 2147483647) : (x * y).toInt = n * y.toInt := by
  rw [Int32.toInt_mul, e]
  exact Int.bmod_eq_of_le (by omega) (by omega)
theorem bn_divI {x y : Int32} {n : Int} (h : 0 ≤ x.toInt) (e : y.toInt = n) (k : 0 < n) : (x / y).toInt = x.toInt / n :=
  (bn_div (a := 0) (b := 2147483647) (l := 0 / n) (u := 2147483647 / n) ⟨h, (bn_any x).2⟩ ⟨by omega, by omega⟩ ⟨⟨by decide, k⟩, Int.le_refl _, Int.le_refl _⟩).2
theorem bn_remI {x y : Int32} {n : Int} (h : 0 ≤ x.toInt) (e : y.toInt = n) (k : 0 < n) : (x - x / y * y).toInt = x.toInt % n :=
  (bn_rem (a := 0) (b := 2147483647) (u := n) ⟨h, (bn_any x).2⟩ ⟨by omega, by omega⟩ ⟨⟨by decide, k⟩, by omega⟩).2
theorem bn_kI {x : Int32} {N : Nat} (h1 : 0 ≤ x.toInt) (h2 : x.toInt < (N : Int)) : x.toNatClampNeg < N := by
  show x.toInt.toNat < N
  omega
theorem bn_maxI (x y : Int32) : (x.toInt < y.toInt ∧ (if x < y then y else x).toInt = y.toInt) ∨ (y.toInt ≤ x.toInt ∧ (if x < y then y else x).toInt = x.toInt) := by
  by_cases h : x < y
  · rw [if_pos h]; exact Or.inl ⟨bn_lt h, rfl⟩
  · rw [if_neg h]; exact Or.inr ⟨bn_nlt h, rfl⟩
theorem bn_minI (x y : Int32) : (x.toInt < y.toInt ∧ (if x < y then x else y).toInt = x.toInt) ∨ (y.toInt ≤ x.toInt ∧ (if x < y then x else y).toInt = y.toInt) := by
  by_cases h : x < y
  · rw [if_pos h]; exact Or.inl ⟨bn_lt h, rfl⟩
  · rw [if_neg h]; exact Or.inr ⟨bn_nlt h, rfl⟩
theorem bn_absI {x : Int32} (h : -2147483648 < x.toInt) : (0 ≤ x.toInt ∧ (if (0 : Int32) ≤ x then x else 0 - x).toInt = x.toInt) ∨ (x.toInt < 0 ∧ (if (0 : Int32) ≤ x then x else 0 - x).toInt = -x.toInt) := by
  have z : (0 : Int32).toInt = 0 := by decide
  have h2 := x.toInt_lt
  by_cases g : (0 : Int32) ≤ x
  · rw [if_pos g]
    have := bn_le g
    exact Or.inl ⟨by omega, rfl⟩
  · rw [if_neg g]
    have := bn_nle g
    refine Or.inr ⟨by omega, ?_⟩
    rw [bn_subI (by omega) (by omega), z]
    omega
theorem bn_lcmpI (x y : Int64) : ((lg_cmp x y).toInt = -1 ∧ x.toInt < y.toInt) ∨ ((lg_cmp x y).toInt = 0 ∧ x.toInt = y.toInt) ∨ ((lg_cmp x y).toInt = 1 ∧ y.toInt < x.toInt) := by
  unfold lg_cmp
  by_cases h1 : y < x
  · rw [if_pos h1]
    exact Or.inr (Or.inr ⟨by decide, Int64.lt_iff_toInt_lt.mp h1⟩)
  · rw [if_neg h1]
    by_cases h2 : x = y
    · subst h2
      exact Or.inr (Or.inl ⟨by simp, rfl⟩)
    · have h3 : ¬ y.toInt < x.toInt := fun z => h1 (Int64.lt_iff_toInt_lt.mpr z)
      have h4 : x.toInt ≠ y.toInt := fun z => h2 (Int64.toInt_inj.mp z)
      refine Or.inl ⟨?_, by omega⟩
      first | (rw [if_neg h2]; decide) | (rw [if_pos (Int64.lt_iff_toInt_lt.mpr (by omega))]; decide) | (simp [h2])
