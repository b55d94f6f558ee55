/-! CHAIRS: sums of groups (1) -/
/-- the class's loop over groups, by numbers -/
noncomputable def uh5 (lo : Int32) (hi : Int) (x1 x2 : Int32) (rec : Int32 → sg_F → sg_L → sg_F) (y : Int32) (f : sg_F) (L : sg_L) : sg_F :=
  if y.toInt < hi then (
    spl (α := Int32) (y - lo) fun (v_3 : Int32) =>
    spl (α := Int32) (f 21 (Int32.toNatClampNeg v_3)) fun (v_5 : Int32) =>
    spl (α := Int32) (v_5 + x1) fun (v_6 : Int32) =>
    spl (α := sg_F) (sg_up f 21 (sgu (f 21) (Int32.toNatClampNeg y) v_6)) fun (f_7 : sg_F) =>
    if x2.toInt = 0 then (
      spl (α := Int32) (f_7 22 (Int32.toNatClampNeg y)) fun (v_10 : Int32) =>
      spl (α := Int32) (if (v_6 : Int32) < v_10 then v_6 else v_10) fun (v_11 : Int32) =>
      spl (α := sg_F) (sg_up f_7 22 (sgu (f_7 22) (Int32.toNatClampNeg y) v_11)) fun (f_13 : sg_F) =>
      spl (α := Int32) (y + 1) fun (v_14 : Int32) =>
      rec v_14 f_13 L) else (
      spl (α := sg_F) (sg_up f_7 22 (sgu (f_7 22) (Int32.toNatClampNeg y) v_6)) fun (f_16 : sg_F) =>
      spl (α := Int32) (y + 1) fun (v_17 : Int32) =>
      rec v_17 f_16 L)) else (
    (f))
noncomputable def ul5 (lo : Int32) (hi : Int) (x1 x2 : Int32) (n : Nat) : Int32 → sg_F → sg_L → sg_F :=
  Nat.rec (motive := fun _ => Int32 → sg_F → sg_L → sg_F) (fun _ f L => (f)) (fun _ r => uh5 lo hi x1 x2 r) n
theorem ul5_s (lo : Int32) (hi : Int) (x1 x2 : Int32) (n : Nat) (y : Int32) (f : sg_F) (L : sg_L) : ul5 lo hi x1 x2 (n + 1) y f L = uh5 lo hi x1 x2 (ul5 lo hi x1 x2 n) y f L := rfl
def loI32 (k : Nat) : Int32 := Int32.ofNat (2 ^ k)
theorem ug_0 (x1 x2 : Int32) : ∀ n : Nat, sX8_sumGroupsUpTo_0_l5 x1 x2 n = ul5 1 2 x1 x2 n := by
  intro n
  induction n with
  | zero => rfl
  | succ n ih =>
    have e1 : sX8_sumGroupsUpTo_0_l5 x1 x2 (n + 1) = sX8_sumGroupsUpTo_0_h5 x1 x2 (sX8_sumGroupsUpTo_0_l5 x1 x2 n) := rfl
    have e2 : ul5 1 2 x1 x2 (n + 1) = uh5 1 2 x1 x2 (ul5 1 2 x1 x2 n) := rfl
    rw [e1, e2, ih]
    rfl
theorem ug_1 (x1 x2 : Int32) : ∀ n : Nat, sX8_sumGroupsUpTo_1_l5 x1 x2 n = ul5 2 4 x1 x2 n := by
  intro n
  induction n with
  | zero => rfl
  | succ n ih =>
    have e1 : sX8_sumGroupsUpTo_1_l5 x1 x2 (n + 1) = sX8_sumGroupsUpTo_1_h5 x1 x2 (sX8_sumGroupsUpTo_1_l5 x1 x2 n) := rfl
    have e2 : ul5 2 4 x1 x2 (n + 1) = uh5 2 4 x1 x2 (ul5 2 4 x1 x2 n) := rfl
    rw [e1, e2, ih]
    rfl
theorem ug_2 (x1 x2 : Int32) : ∀ n : Nat, sX8_sumGroupsUpTo_2_l5 x1 x2 n = ul5 4 8 x1 x2 n := by
  intro n
  induction n with
  | zero => rfl
  | succ n ih =>
    have e1 : sX8_sumGroupsUpTo_2_l5 x1 x2 (n + 1) = sX8_sumGroupsUpTo_2_h5 x1 x2 (sX8_sumGroupsUpTo_2_l5 x1 x2 n) := rfl
    have e2 : ul5 4 8 x1 x2 (n + 1) = uh5 4 8 x1 x2 (ul5 4 8 x1 x2 n) := rfl
    rw [e1, e2, ih]
    rfl
theorem ug_3 (x1 x2 : Int32) : ∀ n : Nat, sX8_sumGroupsUpTo_3_l5 x1 x2 n = ul5 8 16 x1 x2 n := by
  intro n
  induction n with
  | zero => rfl
  | succ n ih =>
    have e1 : sX8_sumGroupsUpTo_3_l5 x1 x2 (n + 1) = sX8_sumGroupsUpTo_3_h5 x1 x2 (sX8_sumGroupsUpTo_3_l5 x1 x2 n) := rfl
    have e2 : ul5 8 16 x1 x2 (n + 1) = uh5 8 16 x1 x2 (ul5 8 16 x1 x2 n) := rfl
    rw [e1, e2, ih]
    rfl
theorem ug_4 (x1 x2 : Int32) : ∀ n : Nat, sX8_sumGroupsUpTo_4_l5 x1 x2 n = ul5 16 32 x1 x2 n := by
  intro n
  induction n with
  | zero => rfl
  | succ n ih =>
    have e1 : sX8_sumGroupsUpTo_4_l5 x1 x2 (n + 1) = sX8_sumGroupsUpTo_4_h5 x1 x2 (sX8_sumGroupsUpTo_4_l5 x1 x2 n) := rfl
    have e2 : ul5 16 32 x1 x2 (n + 1) = uh5 16 32 x1 x2 (ul5 16 32 x1 x2 n) := rfl
    rw [e1, e2, ih]
    rfl
theorem ug_5 (x1 x2 : Int32) : ∀ n : Nat, sX8_sumGroupsUpTo_5_l5 x1 x2 n = ul5 32 64 x1 x2 n := by
  intro n
  induction n with
  | zero => rfl
  | succ n ih =>
    have e1 : sX8_sumGroupsUpTo_5_l5 x1 x2 (n + 1) = sX8_sumGroupsUpTo_5_h5 x1 x2 (sX8_sumGroupsUpTo_5_l5 x1 x2 n) := rfl
    have e2 : ul5 32 64 x1 x2 (n + 1) = uh5 32 64 x1 x2 (ul5 32 64 x1 x2 n) := rfl
    rw [e1, e2, ih]
    rfl
theorem ug_6 (x1 x2 : Int32) : ∀ n : Nat, sX8_sumGroupsUpTo_6_l5 x1 x2 n = ul5 64 128 x1 x2 n := by
  intro n
  induction n with
  | zero => rfl
  | succ n ih =>
    have e1 : sX8_sumGroupsUpTo_6_l5 x1 x2 (n + 1) = sX8_sumGroupsUpTo_6_h5 x1 x2 (sX8_sumGroupsUpTo_6_l5 x1 x2 n) := rfl
    have e2 : ul5 64 128 x1 x2 (n + 1) = uh5 64 128 x1 x2 (ul5 64 128 x1 x2 n) := rfl
    rw [e1, e2, ih]
    rfl
theorem ug_7 (x1 x2 : Int32) : ∀ n : Nat, sX8_sumGroupsUpTo_7_l5 x1 x2 n = ul5 128 256 x1 x2 n := by
  intro n
  induction n with
  | zero => rfl
  | succ n ih =>
    have e1 : sX8_sumGroupsUpTo_7_l5 x1 x2 (n + 1) = sX8_sumGroupsUpTo_7_h5 x1 x2 (sX8_sumGroupsUpTo_7_l5 x1 x2 n) := rfl
    have e2 : ul5 128 256 x1 x2 (n + 1) = uh5 128 256 x1 x2 (ul5 128 256 x1 x2 n) := rfl
    rw [e1, e2, ih]
    rfl
theorem upTo_g {k : Nat} (hk : k ≤ 7) (x1 x2 : Int32) (f : sg_F) (L : sg_L) : ∃ (lo : Int32) (hi : Int), lo.toInt = ((2 ^ k : Nat) : Int) ∧ hi = ((2 ^ (k + 1) : Nat) : Int) ∧ upTo k x1 x2 f L = ul5 lo hi x1 x2 (2 ^ k + 1) lo f L := by
  rcases (show k = 0 ∨ k = 1 ∨ k = 2 ∨ k = 3 ∨ k = 4 ∨ k = 5 ∨ k = 6 ∨ k = 7 by omega) with rfl | rfl | rfl | rfl | rfl | rfl | rfl | rfl
  · refine ⟨1, 2, by decide, by decide, ?_⟩
    rw [show 2 ^ 0 + 1 = 2 from by decide, ← ug_0]
    rfl
  · refine ⟨2, 4, by decide, by decide, ?_⟩
    rw [show 2 ^ 1 + 1 = 3 from by decide, ← ug_1]
    rfl
  · refine ⟨4, 8, by decide, by decide, ?_⟩
    rw [show 2 ^ 2 + 1 = 5 from by decide, ← ug_2]
    rfl
  · refine ⟨8, 16, by decide, by decide, ?_⟩
    rw [show 2 ^ 3 + 1 = 9 from by decide, ← ug_3]
    rfl
  · refine ⟨16, 32, by decide, by decide, ?_⟩
    rw [show 2 ^ 4 + 1 = 17 from by decide, ← ug_4]
    rfl
  · refine ⟨32, 64, by decide, by decide, ?_⟩
    rw [show 2 ^ 5 + 1 = 33 from by decide, ← ug_5]
    rfl
  · refine ⟨64, 128, by decide, by decide, ?_⟩
    rw [show 2 ^ 6 + 1 = 65 from by decide, ← ug_6]
    rfl
  · refine ⟨128, 256, by decide, by decide, ?_⟩
    rw [show 2 ^ 7 + 1 = 129 from by decide, ← ug_7]
    rfl
