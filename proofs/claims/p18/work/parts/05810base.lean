/-! WORDS FOR ALL: the small predicates as one test each -/
theorem sgK.rf0 {f : sg_F} : sgK [] f f := fun _ _ _ => rfl
theorem zk1 : (1 : Int32) ≠ 0 := by decide
theorem zk0 : ¬ (0 : Int32) = 1 := by decide
theorem pX_isShelf (x : Int32) (f : sg_F) (L : sg_L) : sX11_isShelf x f L = if 0 ≤ x.toInt ∧ x.toInt ≤ 5 then 1 else 0 := by
  unfold sX11_isShelf
  (repeat' split) <;> first | rfl | (exfalso; omega)
theorem pX_isKind (x : Int32) (f : sg_F) (L : sg_L) : sX11_isKind x f L = if 0 ≤ x.toInt ∧ x.toInt ≤ 7 then 1 else 0 := by
  unfold sX11_isKind
  (repeat' split) <;> first | rfl | (exfalso; omega)
theorem pX_isPart (x : Int32) (f : sg_F) (L : sg_L) : sX11_isPart x f L = if 0 ≤ x.toInt ∧ x.toInt ≤ 2 then 1 else 0 := by
  unfold sX11_isPart
  (repeat' split) <;> first | rfl | (exfalso; omega)
theorem pX_isSetting (x : Int32) (f : sg_F) (L : sg_L) : sX11_isSetting x f L = if 0 ≤ x.toInt ∧ x.toInt ≤ 60 then 1 else 0 := by
  unfold sX11_isSetting
  (repeat' split) <;> first | rfl | (exfalso; omega)
theorem pM_within (x a b : Int64) (f : sg_F) (L : sg_L) : sX12_within x a b f L = if a.toInt ≤ x.toInt ∧ x.toInt ≤ b.toInt then 1 else 0 := by
  have h1 := bn_lcmpI x a
  have h2 := bn_lcmpI x b
  unfold sX12_within; (repeat first | rw [spl_d] | rw [spl2_d])
  (repeat' split) <;> first | rfl | (exfalso; omega)
theorem ite_b {p : Prop} [Decidable p] : (if (if p then (1 : Int32) else 0) = 1 then (1 : Int32) else 0) = if p then 1 else 0 := by
  by_cases h : p
  · rw [if_pos h, if_pos rfl]
  · rw [if_neg h, if_neg zk0]
theorem ite_iff {α : Type} {p q : Prop} [Decidable p] [Decidable q] {a b : α} (h : p ↔ q) : (if p then a else b) = if q then a else b := by
  by_cases g : p
  · rw [if_pos g, if_pos (h.mp g)]
  · rw [if_neg g, if_neg (fun z => g (h.mpr z))]
theorem pM_isShelf (x : Int32) (f : sg_F) (L : sg_L) : sX12_isShelf x f L = if 0 ≤ x.toInt ∧ x.toInt ≤ 5 then 1 else 0 := by
  have k0 : (0 : Int64).toInt = 0 := by decide
  have k5 : (5 : Int64).toInt = 5 := by decide
  have e := Int32.toInt_toInt64 x
  unfold sX12_isShelf; (repeat first | rw [spl_d] | rw [spl2_d])
  rw [pM_within, ite_b, k0, k5, e]
theorem pM_isBody (x : Int32) (f : sg_F) (L : sg_L) (h : 0 ≤ (f 0 45).toInt ∧ (f 0 45).toInt ≤ 50) : sX12_isBody x f L = if 0 ≤ x.toInt ∧ x.toInt < (f 0 45).toInt then 1 else 0 := by
  have k0 : (0 : Int64).toInt = 0 := by decide
  have k1 : (1 : Int32).toInt = 1 := by decide
  have e := Int32.toInt_toInt64 x
  have e1 := Int32.toInt_toInt64 (f 0 45 - 1)
  have e2 : (f 0 45 - 1).toInt = (f 0 45).toInt - 1 := (bn_subI (by omega) (by omega)).trans (by omega)
  unfold sX12_isBody; (repeat first | rw [spl_d] | rw [spl2_d])
  rw [pM_within, ite_b]
  exact ite_iff (by omega)
