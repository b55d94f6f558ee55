/-! comparisons with told constants, sums with them. -/
section OM
theorem cm_lt1 {x k : Int32} {n : Int} (e : k.toInt = n) (c : x < k) : x.toInt < n := by rw [← e]; exact bn_lt c
theorem cm_lt0 {x k : Int32} {n : Int} (e : k.toInt = n) (c : k < x) : n < x.toInt := by rw [← e]; exact bn_lt c
theorem cm_nlt1 {x k : Int32} {n : Int} (e : k.toInt = n) (c : ¬ x < k) : n ≤ x.toInt := by rw [← e]; exact bn_nlt c
theorem cm_nlt0 {x k : Int32} {n : Int} (e : k.toInt = n) (c : ¬ k < x) : x.toInt ≤ n := by rw [← e]; exact bn_nlt c
theorem cm_le1 {x k : Int32} {n : Int} (e : k.toInt = n) (c : x ≤ k) : x.toInt ≤ n := by rw [← e]; exact bn_le c
theorem cm_le0 {x k : Int32} {n : Int} (e : k.toInt = n) (c : k ≤ x) : n ≤ x.toInt := by rw [← e]; exact bn_le c
theorem cm_nle1 {x k : Int32} {n : Int} (e : k.toInt = n) (c : ¬ x ≤ k) : n < x.toInt := by rw [← e]; exact bn_nle c
theorem cm_nle0 {x k : Int32} {n : Int} (e : k.toInt = n) (c : ¬ k ≤ x) : x.toInt < n := by rw [← e]; exact bn_nle c
theorem cm_eq1 {x k : Int32} {n : Int} (e : k.toInt = n) (c : x = k) : x.toInt = n := (congrArg Int32.toInt c).trans e
theorem cm_eq0 {x k : Int32} {n : Int} (e : k.toInt = n) (c : k = x) : n = x.toInt := e.symm.trans (congrArg Int32.toInt c)
theorem cm_ne1 {x k : Int32} {n : Int} (e : k.toInt = n) (c : ¬ x = k) : x.toInt ≠ n := fun z => bn_ne c (z.trans e.symm)
theorem cm_ne0 {x k : Int32} {n : Int} (e : k.toInt = n) (c : ¬ k = x) : n ≠ x.toInt := fun z => bn_ne c (e.trans z)
theorem cm_sub {x y : Int32} {n : Int} (e : y.toInt = n) (h1 : -2147483648 ≤ x.toInt - n) (h2 : x.toInt - n ≤ 2147483647) : (x - y).toInt = x.toInt - n := by
  rw [bn_subI (by rw [e]; exact h1) (by rw [e]; exact h2), e]
theorem cm_add {x y : Int32} {n : Int} (e : y.toInt = n) (h1 : -2147483648 ≤ x.toInt + n) (h2 : x.toInt + n ≤ 2147483647) : (x + y).toInt = x.toInt + n := bn_addc x y e h1 h2
end OM
