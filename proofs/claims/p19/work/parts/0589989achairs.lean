/-! CHAIRS: sums of groups -/
/-- the position of a sitter among those that sit -/
def rkS (h : Nat → Int32) : Nat → Nat
  | 0 => 0
  | s + 1 => if 0 < (h s).toInt then rkS h s + 1 else rkS h s
theorem rkS_le (h : Nat → Int32) : ∀ s : Nat, rkS h s ≤ s := by
  intro s
  induction s with
  | zero => exact Nat.le_refl 0
  | succ s ih =>
    show (if 0 < (h s).toInt then rkS h s + 1 else rkS h s) ≤ s + 1
    by_cases c : 0 < (h s).toInt
    · rw [if_pos c]; omega
    · rw [if_neg c]; omega
theorem rkS_1 {h : Nat → Int32} {s : Nat} (c : 0 < (h s).toInt) : rkS h (s + 1) = rkS h s + 1 := if_pos c
theorem rkS_0 {h : Nat → Int32} {s : Nat} (c : ¬ 0 < (h s).toInt) : rkS h (s + 1) = rkS h s := if_neg c
theorem rkS_mono {h : Nat → Int32} {s : Nat} : ∀ d : Nat, rkS h s ≤ rkS h (s + d) := by
  intro d
  induction d with
  | zero => exact Nat.le_refl _
  | succ d ih =>
    show rkS h s ≤ rkS h (s + d + 1)
    by_cases c : 0 < (h (s + d)).toInt
    · rw [rkS_1 c]; omega
    · rw [rkS_0 c]; exact ih
theorem rkS_lt {h : Nat → Int32} {s t : Nat} (c : 0 < (h s).toInt) (st : s < t) : rkS h s < rkS h t := by
  have a := rkS_mono (h := h) (s := s + 1) (t - (s + 1))
  rw [rkS_1 c, show s + 1 + (t - (s + 1)) = t from by omega] at a
  omega
theorem rkS_inj {h : Nat → Int32} {s t : Nat} (c : 0 < (h s).toInt) (d : 0 < (h t).toInt) (e : rkS h s = rkS h t) : s = t := by
  by_cases x : s < t
  · have := rkS_lt c x; omega
  · by_cases y : t < s
    · have := rkS_lt d y; omega
    · omega
/-- all that a group loses -/
def sS (h : Nat → Int32) (x : Nat → Int) (mask : Nat) : Nat → Int
  | 0 => 0
  | s + 1 => sS h x mask s + (if 0 < (h s).toInt ∧ mask.testBit (rkS h s) = true then x s else 0)
theorem sS_cg {h : Nat → Int32} {x : Nat → Int} {a b : Nat} : ∀ s : Nat, (∀ t : Nat, t < s → 0 < (h t).toInt → a.testBit (rkS h t) = b.testBit (rkS h t)) → sS h x a s = sS h x b s := by
  intro s
  induction s with
  | zero => intro _; rfl
  | succ s ih =>
    intro e
    show sS h x a s + (if 0 < (h s).toInt ∧ a.testBit (rkS h s) = true then x s else 0) = sS h x b s + (if 0 < (h s).toInt ∧ b.testBit (rkS h s) = true then x s else 0)
    rw [ih (fun t ht => e t (by omega))]
    by_cases c : 0 < (h s).toInt
    · rw [e s (by omega) c]
    · rw [if_neg (fun z => c z.1), if_neg (fun z => c z.1)]
theorem tb_add {i r j : Nat} (hr : r < 2 ^ i) : (2 ^ i + r).testBit j = if j = i then true else r.testBit j := by
  by_cases c : j = i
  · rw [if_pos c, c, Nat.testBit_two_pow_add_eq, Nat.testBit_lt_two_pow hr]; rfl
  · rw [if_neg c]
    by_cases d : j < i
    · exact Nat.testBit_two_pow_add_gt d r
    · have a : 2 ^ i + r < 2 ^ j := by
        have : 2 ^ (i + 1) ≤ 2 ^ j := Nat.pow_le_pow_right (by decide) (by omega)
        rw [Nat.pow_succ] at this
        omega
      have b : r < 2 ^ j := by omega
      rw [Nat.testBit_lt_two_pow a, Nat.testBit_lt_two_pow b]
/-- one more sitter in a group -/
theorem sS_add {h : Nat → Int32} {x : Nat → Int} {s r : Nat} (c : 0 < (h s).toInt) (hr : r < 2 ^ rkS h s) : ∀ t : Nat, sS h x (2 ^ rkS h s + r) t = sS h x r t + (if s < t then x s else 0) := by
  intro t
  induction t with
  | zero => rw [if_neg (by omega)]; rfl
  | succ t ih =>
    show sS h x (2 ^ rkS h s + r) t + (if 0 < (h t).toInt ∧ (2 ^ rkS h s + r).testBit (rkS h t) = true then x t else 0) = sS h x r t + (if 0 < (h t).toInt ∧ r.testBit (rkS h t) = true then x t else 0) + _
    rw [ih, tb_add hr]
    by_cases e : t = s
    · subst e
      rw [if_neg (Nat.lt_irrefl t), if_pos rfl, if_pos ⟨c, rfl⟩, if_pos (Nat.lt_succ_self t), Nat.testBit_lt_two_pow hr, if_neg (fun z => absurd z.2 (by decide))]
    · by_cases d : 0 < (h t).toInt
      · have ne : ¬ rkS h t = rkS h s := fun z => e (rkS_inj d c z)
        rw [if_neg ne]
        by_cases k : s < t
        · rw [if_pos k, if_pos (show s < t + 1 from by omega)]; omega
        · rw [if_neg k, if_neg (show ¬ s < t + 1 from by omega)]; omega
      · rw [if_neg (show ¬ (0 < (h t).toInt ∧ (if rkS h t = rkS h s then true else r.testBit (rkS h t)) = true) from fun z => d z.1), if_neg (show ¬ (0 < (h t).toInt ∧ r.testBit (rkS h t) = true) from fun z => d z.1)]
        by_cases k : s < t
        · rw [if_pos k, if_pos (show s < t + 1 from by omega)]; omega
        · rw [if_neg k, if_neg (show ¬ s < t + 1 from by omega)]
theorem sS_0 {h : Nat → Int32} {x : Nat → Int} : ∀ s : Nat, sS h x 0 s = 0 := by
  intro s
  induction s with
  | zero => rfl
  | succ s ih =>
    show sS h x 0 s + (if 0 < (h s).toInt ∧ (0 : Nat).testBit (rkS h s) = true then x s else 0) = 0
    rw [ih, Nat.zero_testBit, if_neg (fun z => absurd z.2 (by decide))]
    rfl
theorem sS_b {h : Nat → Int32} {x : Nat → Int} {mask : Nat} (hx : ∀ s : Nat, 0 ≤ x s ∧ x s ≤ 209979) : ∀ s : Nat, 0 ≤ sS h x mask s ∧ sS h x mask s ≤ 209979 * (s : Int) := by
  intro s
  induction s with
  | zero => exact ⟨show (0 : Int) ≤ 0 by decide, show (0 : Int) ≤ 209979 * ((0 : Nat) : Int) by decide⟩
  | succ s ih =>
    have a := hx s
    show 0 ≤ sS h x mask s + (if 0 < (h s).toInt ∧ mask.testBit (rkS h s) = true then x s else 0) ∧ sS h x mask s + (if 0 < (h s).toInt ∧ mask.testBit (rkS h s) = true then x s else 0) ≤ 209979 * ((s + 1 : Nat) : Int)
    by_cases c : 0 < (h s).toInt ∧ mask.testBit (rkS h s) = true
    · rw [if_pos c]; omega
    · rw [if_neg c]; omega
/-- the least up to a setting -/
def isL (x : Nat → Int) (k : Nat) (z : Int) : Prop := (∀ v : Nat, v ≤ k → z ≤ x v) ∧ ∃ v : Nat, v ≤ k ∧ z = x v
theorem isL.one {x : Nat → Int} {k : Nat} {z w : Int} (h : isL x k z) (g : isL x k w) : z = w := by
  obtain ⟨h1, u, h2, h3⟩ := h
  obtain ⟨k1, t, k2, k3⟩ := g
  have a := h1 t k2
  have b := k1 u h2
  omega
theorem isL.next {x : Nat → Int} {k : Nat} {a b z : Int} (h : isL x k a) (hb : b = x (k + 1)) (hz : (b < a ∧ z = b) ∨ (a ≤ b ∧ z = a)) : isL x (k + 1) z := by
  obtain ⟨h1, t, h2, h3⟩ := h
  refine ⟨fun v hv => ?_, ?_⟩
  · by_cases c : v = k + 1
    · rw [c]; omega
    · have := h1 v (by omega); omega
  · rcases hz with ⟨c1, c2⟩ | ⟨c1, c2⟩
    · exact ⟨k + 1, by omega, by omega⟩
    · exact ⟨t, by omega, by omega⟩
