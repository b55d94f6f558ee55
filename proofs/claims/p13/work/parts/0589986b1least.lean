/-! LEAST COSTS, the class's two passes -/
theorem ixr {a y : Int32} {i v : Nat} (ea : a.toInt = 61 * (i : Int)) (hi : i ≤ 22) (ey : y.toInt = (v : Int)) (hv : v ≤ 61) : (a + y).toInt = ((61 * i + v : Nat) : Int) ∧ (a + y).toNatClampNeg = 61 * i + v := by
  have e : (a + y).toInt = a.toInt + y.toInt := bn_addI (by omega) (by omega)
  have c := bn_clI (x := a + y) (by omega)
  exact ⟨by omega, by omega⟩
/-- one row's cells -/
def rw_ (g : Nat → Int32) (i v : Nat) : Int := (g (61 * i + v)).toInt
/-- only cells of one row differ -/
def onR (i : Nat) (f f1 : sg_F) : Prop := (∀ k : Nat, k ≠ 26 → f1 k = f k) ∧ ∀ j : Nat, (j < 61 * i ∨ 61 * i + 60 < j) → f1 26 j = f 26 j
theorem onR.rf {i : Nat} {f : sg_F} : onR i f f := ⟨fun _ _ => rfl, fun _ _ => rfl⟩
theorem onR.tr {i : Nat} {f g h : sg_F} (a : onR i f g) (b : onR i g h) : onR i f h := ⟨fun k hk => (b.1 k hk).trans (a.1 k hk), fun j hj => (b.2 j hj).trans (a.2 j hj)⟩
theorem onR.put {i v : Nat} {f : sg_F} {x : Int32} (hv : v ≤ 60) : onR i f (sg_up f 26 (sgu (f 26) (61 * i + v) x)) := ⟨fun k hk => by rw [sg_up_n hk], fun j hj => by rw [sg_up_s, sgu_n (by omega)]⟩
theorem dec1 {y : Int32} {i : Nat} (h : y.toInt = (i : Int)) (hi : i ≤ 1000000) : (y + (-1)).toInt = (i : Int) - 1 := by
  have km : (-1 : Int32).toInt = -1 := by decide
  exact (bn_addI (by omega) (by omega)).trans (by omega)
theorem dec2 {y : Int32} {i : Nat} (h : y.toInt = (i : Int)) (hi : i ≤ 1000000) : (y - 1).toInt = (i : Int) - 1 := by
  have k1 : (1 : Int32).toInt = 1 := by decide
  exact (bn_subI (by omega) (by omega)).trans (by omega)
theorem m61 {y : Int32} {i : Nat} (h : y.toInt = (i : Int)) (hi : i ≤ 1000000) : (y * 61).toInt = 61 * (i : Int) := by
  have k61 : (61 : Int32).toInt = 61 := by decide
  exact (bn_mulI k61 (by omega) (by omega)).trans (by omega)
theorem w61 {y : Int32} {i : Nat} (h : y.toInt = (i : Int)) (hi : i ≤ 1000000) : (61 * y).toInt = 61 * (i : Int) := by
  have k61 : (61 : Int32).toInt = 61 := by decide
  exact (bn_mulJ k61 (by omega) (by omega)).trans (by omega)
