/-! DESKS -/
/-- what an act of a desk answers, by its kind; how many bodies run; which -/
def acR (k w : Nat) (x n : Int32) : Int32 := match k, w with
  | 0, 0 => (x + n)
  | 0, 1 => ((x + n) * 2)
  | 0, 2 => (x ^^^ n)
  | 0, 3 => (((x + n) * 2) - (1 ^^^ n))
  | 1, 0 => ((x + n) + 3)
  | 1, 1 => (((x + n) + 3) * 2)
  | 1, 2 => (x ^^^ n)
  | 1, 3 => ((((x + n) + 3) * 2) - (1 ^^^ n))
  | 2, 0 => (x + n)
  | 2, 1 => (-((x + n) * 2))
  | 2, 2 => (x ^^^ n)
  | 2, 3 => ((-((x + n) * 2)) - (1 ^^^ n))
  | 3, 0 => (x + n)
  | 3, 1 => (-(((x + 1) + n) * 2))
  | 3, 2 => ((x ^^^ n) * 3)
  | 3, 3 => ((-(((x + 1) + n) * 2)) - ((1 ^^^ n) * 3))
  | 4, 0 => ((x + n) + 3)
  | 4, 1 => (((x + n) + 3) * 2)
  | 4, 2 => ((x ^^^ n) - ((2 + n) + 3))
  | 4, 3 => ((((x + n) + 3) * 2) - ((1 ^^^ n) - ((2 + n) + 3)))
  | 5, 0 => (x + n)
  | 5, 1 => (-(((x + 1) + n) * 2))
  | 5, 2 => ((x ^^^ n) * 3)
  | 5, 3 => (((-(((x + 1) + n) * 2)) - ((1 ^^^ n) * 3)) ^^^ 5)
  | 6, 0 => ((x + n) * 2)
  | 6, 1 => (((x + n) * 2) * 2)
  | 6, 2 => (x ^^^ n)
  | 6, 3 => ((((x + n) * 2) * 2) - (1 ^^^ n))
  | 7, 0 => ((x + n) + 3)
  | 7, 1 => ((((x + n) + 3) * 2) + ((2 ^^^ n) - ((2 + n) + 3)))
  | 7, 2 => ((x ^^^ n) - ((2 + n) + 3))
  | 7, 3 => ((((((x + n) + 3) * 2) + ((2 ^^^ n) - ((2 + n) + 3))) - ((1 ^^^ n) - ((2 + n) + 3))) - 1)
  | _, _ => 0
def acN (k w : Nat) : Nat := match k, w with
  | 0, 0 => 1
  | 0, 1 => 2
  | 0, 2 => 1
  | 0, 3 => 4
  | 1, 0 => 2
  | 1, 1 => 3
  | 1, 2 => 1
  | 1, 3 => 5
  | 2, 0 => 1
  | 2, 1 => 3
  | 2, 2 => 1
  | 2, 3 => 5
  | 3, 0 => 1
  | 3, 1 => 4
  | 3, 2 => 2
  | 3, 3 => 7
  | 4, 0 => 2
  | 4, 1 => 3
  | 4, 2 => 4
  | 4, 3 => 8
  | 5, 0 => 1
  | 5, 1 => 4
  | 5, 2 => 2
  | 5, 3 => 8
  | 6, 0 => 2
  | 6, 1 => 3
  | 6, 2 => 1
  | 6, 3 => 5
  | 7, 0 => 2
  | 7, 1 => 8
  | 7, 2 => 4
  | 7, 3 => 14
  | _, _ => 0
def acB (k w i : Nat) : Int32 := match k, w, i with
  | 0, 0, 0 => 1
  | 0, 1, 0 => 10
  | 0, 1, 1 => 1
  | 0, 2, 0 => 11
  | 0, 3, 0 => 2
  | 0, 3, 1 => 10
  | 0, 3, 2 => 1
  | 0, 3, 3 => 11
  | 1, 0, 0 => 20
  | 1, 0, 1 => 1
  | 1, 1, 0 => 10
  | 1, 1, 1 => 20
  | 1, 1, 2 => 1
  | 1, 2, 0 => 11
  | 1, 3, 0 => 2
  | 1, 3, 1 => 10
  | 1, 3, 2 => 20
  | 1, 3, 3 => 1
  | 1, 3, 4 => 11
  | 2, 0, 0 => 1
  | 2, 1, 0 => 30
  | 2, 1, 1 => 10
  | 2, 1, 2 => 1
  | 2, 2, 0 => 11
  | 2, 3, 0 => 2
  | 2, 3, 1 => 30
  | 2, 3, 2 => 10
  | 2, 3, 3 => 1
  | 2, 3, 4 => 11
  | 3, 0, 0 => 1
  | 3, 1, 0 => 41
  | 3, 1, 1 => 30
  | 3, 1, 2 => 10
  | 3, 1, 3 => 1
  | 3, 2, 0 => 40
  | 3, 2, 1 => 11
  | 3, 3, 0 => 2
  | 3, 3, 1 => 41
  | 3, 3, 2 => 30
  | 3, 3, 3 => 10
  | 3, 3, 4 => 1
  | 3, 3, 5 => 40
  | 3, 3, 6 => 11
  | 4, 0, 0 => 20
  | 4, 0, 1 => 1
  | 4, 1, 0 => 10
  | 4, 1, 1 => 20
  | 4, 1, 2 => 1
  | 4, 2, 0 => 50
  | 4, 2, 1 => 11
  | 4, 2, 2 => 20
  | 4, 2, 3 => 1
  | 4, 3, 0 => 2
  | 4, 3, 1 => 10
  | 4, 3, 2 => 20
  | 4, 3, 3 => 1
  | 4, 3, 4 => 50
  | 4, 3, 5 => 11
  | 4, 3, 6 => 20
  | 4, 3, 7 => 1
  | 5, 0, 0 => 1
  | 5, 1, 0 => 41
  | 5, 1, 1 => 30
  | 5, 1, 2 => 10
  | 5, 1, 3 => 1
  | 5, 2, 0 => 40
  | 5, 2, 1 => 11
  | 5, 3, 0 => 60
  | 5, 3, 1 => 2
  | 5, 3, 2 => 41
  | 5, 3, 3 => 30
  | 5, 3, 4 => 10
  | 5, 3, 5 => 1
  | 5, 3, 6 => 40
  | 5, 3, 7 => 11
  | 6, 0, 0 => 70
  | 6, 0, 1 => 1
  | 6, 1, 0 => 10
  | 6, 1, 1 => 70
  | 6, 1, 2 => 1
  | 6, 2, 0 => 11
  | 6, 3, 0 => 2
  | 6, 3, 1 => 10
  | 6, 3, 2 => 70
  | 6, 3, 3 => 1
  | 6, 3, 4 => 11
  | 7, 0, 0 => 20
  | 7, 0, 1 => 1
  | 7, 1, 0 => 80
  | 7, 1, 1 => 10
  | 7, 1, 2 => 20
  | 7, 1, 3 => 1
  | 7, 1, 4 => 50
  | 7, 1, 5 => 11
  | 7, 1, 6 => 20
  | 7, 1, 7 => 1
  | 7, 2, 0 => 50
  | 7, 2, 1 => 11
  | 7, 2, 2 => 20
  | 7, 2, 3 => 1
  | 7, 3, 0 => 81
  | 7, 3, 1 => 2
  | 7, 3, 2 => 80
  | 7, 3, 3 => 10
  | 7, 3, 4 => 20
  | 7, 3, 5 => 1
  | 7, 3, 6 => 50
  | 7, 3, 7 => 11
  | 7, 3, 8 => 20
  | 7, 3, 9 => 1
  | 7, 3, 10 => 50
  | 7, 3, 11 => 11
  | 7, 3, 12 => 20
  | 7, 3, 13 => 1
  | _, _, _ => 0
/-- an act's answer, count and trace as told -/
def acO (a b : Nat) (tr : Nat) (k w : Nat) (x n : Int32) (o : Int32 × sg_F) : Prop := o.1 = acR k w x n ∧ (o.2 a b).toInt = (acN k w : Int) ∧ ∀ i : Nat, i < acN k w → o.2 tr i = acB k w i
set_option maxRecDepth 100000 in
theorem acX_0_0 (x : Int32) (f : sg_F) (L : sg_L) : acO 36 3 38 0 0 x (f 36 5) (sX3_does_0_0_0_f0_f0 x f L) := by
  refine ⟨rfl, by show (1 : Int32).toInt = ((1 : Nat) : Int); decide, fun i hi => ?_⟩
  have hi : i < 1 := hi
  match i, hi with
  | 0, _ => rfl
  | i + 1, h => exact absurd h (by omega)
set_option maxRecDepth 100000 in
theorem acM_0_0 (x : Int32) (f : sg_F) (L : sg_L) : acO 0 48 21 0 0 x (f 0 50) (sX12_setsAs_0_f0_f0 x f L) := by
  refine ⟨rfl, by show (1 : Int32).toInt = ((1 : Nat) : Int); decide, fun i hi => ?_⟩
  have hi : i < 1 := hi
  match i, hi with
  | 0, _ => rfl
  | i + 1, h => exact absurd h (by omega)
set_option maxRecDepth 100000 in
theorem acX_0_1 (x : Int32) (f : sg_F) (L : sg_L) : acO 36 3 38 0 1 x (f 36 5) (sX3_does_0_1_0_f0_f0 x f L) := by
  refine ⟨rfl, by show (2 : Int32).toInt = ((2 : Nat) : Int); decide, fun i hi => ?_⟩
  have hi : i < 2 := hi
  match i, hi with
  | 0, _ => rfl
  | 1, _ => rfl
  | i + 2, h => exact absurd h (by omega)
set_option maxRecDepth 100000 in
theorem acM_0_1 (x : Int32) (f : sg_F) (L : sg_L) : acO 0 48 21 0 1 x (f 0 50) (sX12_sitsAs_0_f0_f0 x f L) := by
  refine ⟨rfl, by show (2 : Int32).toInt = ((2 : Nat) : Int); decide, fun i hi => ?_⟩
  have hi : i < 2 := hi
  match i, hi with
  | 0, _ => rfl
  | 1, _ => rfl
  | i + 2, h => exact absurd h (by omega)
set_option maxRecDepth 100000 in
theorem acX_0_2 (x : Int32) (f : sg_F) (L : sg_L) : acO 36 3 38 0 2 x (f 36 5) (sX3_does_0_2_0_f0_f0 x f L) := by
  refine ⟨rfl, by show (1 : Int32).toInt = ((1 : Nat) : Int); decide, fun i hi => ?_⟩
  have hi : i < 1 := hi
  match i, hi with
  | 0, _ => rfl
  | i + 1, h => exact absurd h (by omega)
set_option maxRecDepth 100000 in
theorem acM_0_2 (x : Int32) (f : sg_F) (L : sg_L) : acO 0 48 21 0 2 x (f 0 50) (sX12_slipsAs_0_f0_f0 x f L) := by
  refine ⟨rfl, by show (1 : Int32).toInt = ((1 : Nat) : Int); decide, fun i hi => ?_⟩
  have hi : i < 1 := hi
  match i, hi with
  | 0, _ => rfl
  | i + 1, h => exact absurd h (by omega)
set_option maxRecDepth 100000 in
theorem acX_0_3 (x : Int32) (f : sg_F) (L : sg_L) : acO 36 3 38 0 3 x (f 36 5) (sX3_does_0_3_0_f0_f0 x f L) := by
  refine ⟨rfl, by show (4 : Int32).toInt = ((4 : Nat) : Int); decide, fun i hi => ?_⟩
  have hi : i < 4 := hi
  match i, hi with
  | 0, _ => rfl
  | 1, _ => rfl
  | 2, _ => rfl
  | 3, _ => rfl
  | i + 4, h => exact absurd h (by omega)
set_option maxRecDepth 100000 in
theorem acM_0_3 (x : Int32) (f : sg_F) (L : sg_L) : acO 0 48 21 0 3 x (f 0 50) (sX12_tellsAs_0_f0_f0 x f L) := by
  refine ⟨rfl, by show (4 : Int32).toInt = ((4 : Nat) : Int); decide, fun i hi => ?_⟩
  have hi : i < 4 := hi
  match i, hi with
  | 0, _ => rfl
  | 1, _ => rfl
  | 2, _ => rfl
  | 3, _ => rfl
  | i + 4, h => exact absurd h (by omega)
set_option maxRecDepth 100000 in
theorem acX_1_0 (x : Int32) (f : sg_F) (L : sg_L) : acO 36 3 38 1 0 x (f 36 5) (sX3_does_1_0_0_f0_f1 x f L) := by
  refine ⟨rfl, by show (2 : Int32).toInt = ((2 : Nat) : Int); decide, fun i hi => ?_⟩
  have hi : i < 2 := hi
  match i, hi with
  | 0, _ => rfl
  | 1, _ => rfl
  | i + 2, h => exact absurd h (by omega)
set_option maxRecDepth 100000 in
theorem acM_1_0 (x : Int32) (f : sg_F) (L : sg_L) : acO 0 48 21 1 0 x (f 0 50) (sX12_setsAs_1_f0_f1 x f L) := by
  refine ⟨rfl, by show (2 : Int32).toInt = ((2 : Nat) : Int); decide, fun i hi => ?_⟩
  have hi : i < 2 := hi
  match i, hi with
  | 0, _ => rfl
  | 1, _ => rfl
  | i + 2, h => exact absurd h (by omega)
set_option maxRecDepth 100000 in
theorem acX_1_1 (x : Int32) (f : sg_F) (L : sg_L) : acO 36 3 38 1 1 x (f 36 5) (sX3_does_1_1_0_f0_f1 x f L) := by
  refine ⟨rfl, by show (3 : Int32).toInt = ((3 : Nat) : Int); decide, fun i hi => ?_⟩
  have hi : i < 3 := hi
  match i, hi with
  | 0, _ => rfl
  | 1, _ => rfl
  | 2, _ => rfl
  | i + 3, h => exact absurd h (by omega)
set_option maxRecDepth 100000 in
theorem acM_1_1 (x : Int32) (f : sg_F) (L : sg_L) : acO 0 48 21 1 1 x (f 0 50) (sX12_sitsAs_1_f0_f1 x f L) := by
  refine ⟨rfl, by show (3 : Int32).toInt = ((3 : Nat) : Int); decide, fun i hi => ?_⟩
  have hi : i < 3 := hi
  match i, hi with
  | 0, _ => rfl
  | 1, _ => rfl
  | 2, _ => rfl
  | i + 3, h => exact absurd h (by omega)
set_option maxRecDepth 100000 in
theorem acX_1_2 (x : Int32) (f : sg_F) (L : sg_L) : acO 36 3 38 1 2 x (f 36 5) (sX3_does_1_2_0_f0_f1 x f L) := by
  refine ⟨rfl, by show (1 : Int32).toInt = ((1 : Nat) : Int); decide, fun i hi => ?_⟩
  have hi : i < 1 := hi
  match i, hi with
  | 0, _ => rfl
  | i + 1, h => exact absurd h (by omega)
set_option maxRecDepth 100000 in
theorem acM_1_2 (x : Int32) (f : sg_F) (L : sg_L) : acO 0 48 21 1 2 x (f 0 50) (sX12_slipsAs_1_f0_f1 x f L) := by
  refine ⟨rfl, by show (1 : Int32).toInt = ((1 : Nat) : Int); decide, fun i hi => ?_⟩
  have hi : i < 1 := hi
  match i, hi with
  | 0, _ => rfl
  | i + 1, h => exact absurd h (by omega)
set_option maxRecDepth 100000 in
theorem acX_1_3 (x : Int32) (f : sg_F) (L : sg_L) : acO 36 3 38 1 3 x (f 36 5) (sX3_does_1_3_0_f0_f1 x f L) := by
  refine ⟨rfl, by show (5 : Int32).toInt = ((5 : Nat) : Int); decide, fun i hi => ?_⟩
  have hi : i < 5 := hi
  match i, hi with
  | 0, _ => rfl
  | 1, _ => rfl
  | 2, _ => rfl
  | 3, _ => rfl
  | 4, _ => rfl
  | i + 5, h => exact absurd h (by omega)
set_option maxRecDepth 100000 in
theorem acM_1_3 (x : Int32) (f : sg_F) (L : sg_L) : acO 0 48 21 1 3 x (f 0 50) (sX12_tellsAs_1_f0_f1 x f L) := by
  refine ⟨rfl, by show (5 : Int32).toInt = ((5 : Nat) : Int); decide, fun i hi => ?_⟩
  have hi : i < 5 := hi
  match i, hi with
  | 0, _ => rfl
  | 1, _ => rfl
  | 2, _ => rfl
  | 3, _ => rfl
  | 4, _ => rfl
  | i + 5, h => exact absurd h (by omega)
set_option maxRecDepth 100000 in
theorem acX_2_0 (x : Int32) (f : sg_F) (L : sg_L) : acO 36 3 38 2 0 x (f 36 5) (sX3_does_2_0_0_f0_f2 x f L) := by
  refine ⟨rfl, by show (1 : Int32).toInt = ((1 : Nat) : Int); decide, fun i hi => ?_⟩
  have hi : i < 1 := hi
  match i, hi with
  | 0, _ => rfl
  | i + 1, h => exact absurd h (by omega)
set_option maxRecDepth 100000 in
theorem acM_2_0 (x : Int32) (f : sg_F) (L : sg_L) : acO 0 48 21 2 0 x (f 0 50) (sX12_setsAs_2_f0_f2 x f L) := by
  refine ⟨rfl, by show (1 : Int32).toInt = ((1 : Nat) : Int); decide, fun i hi => ?_⟩
  have hi : i < 1 := hi
  match i, hi with
  | 0, _ => rfl
  | i + 1, h => exact absurd h (by omega)
set_option maxRecDepth 100000 in
theorem acX_2_1 (x : Int32) (f : sg_F) (L : sg_L) : acO 36 3 38 2 1 x (f 36 5) (sX3_does_2_1_0_f0_f2 x f L) := by
  refine ⟨rfl, by show (3 : Int32).toInt = ((3 : Nat) : Int); decide, fun i hi => ?_⟩
  have hi : i < 3 := hi
  match i, hi with
  | 0, _ => rfl
  | 1, _ => rfl
  | 2, _ => rfl
  | i + 3, h => exact absurd h (by omega)
set_option maxRecDepth 100000 in
theorem acM_2_1 (x : Int32) (f : sg_F) (L : sg_L) : acO 0 48 21 2 1 x (f 0 50) (sX12_sitsAs_2_f0_f2 x f L) := by
  refine ⟨rfl, by show (3 : Int32).toInt = ((3 : Nat) : Int); decide, fun i hi => ?_⟩
  have hi : i < 3 := hi
  match i, hi with
  | 0, _ => rfl
  | 1, _ => rfl
  | 2, _ => rfl
  | i + 3, h => exact absurd h (by omega)
set_option maxRecDepth 100000 in
theorem acX_2_2 (x : Int32) (f : sg_F) (L : sg_L) : acO 36 3 38 2 2 x (f 36 5) (sX3_does_2_2_0_f0_f2 x f L) := by
  refine ⟨rfl, by show (1 : Int32).toInt = ((1 : Nat) : Int); decide, fun i hi => ?_⟩
  have hi : i < 1 := hi
  match i, hi with
  | 0, _ => rfl
  | i + 1, h => exact absurd h (by omega)
set_option maxRecDepth 100000 in
theorem acM_2_2 (x : Int32) (f : sg_F) (L : sg_L) : acO 0 48 21 2 2 x (f 0 50) (sX12_slipsAs_2_f0_f2 x f L) := by
  refine ⟨rfl, by show (1 : Int32).toInt = ((1 : Nat) : Int); decide, fun i hi => ?_⟩
  have hi : i < 1 := hi
  match i, hi with
  | 0, _ => rfl
  | i + 1, h => exact absurd h (by omega)
set_option maxRecDepth 100000 in
theorem acX_2_3 (x : Int32) (f : sg_F) (L : sg_L) : acO 36 3 38 2 3 x (f 36 5) (sX3_does_2_3_0_f0_f2 x f L) := by
  refine ⟨rfl, by show (5 : Int32).toInt = ((5 : Nat) : Int); decide, fun i hi => ?_⟩
  have hi : i < 5 := hi
  match i, hi with
  | 0, _ => rfl
  | 1, _ => rfl
  | 2, _ => rfl
  | 3, _ => rfl
  | 4, _ => rfl
  | i + 5, h => exact absurd h (by omega)
set_option maxRecDepth 100000 in
theorem acM_2_3 (x : Int32) (f : sg_F) (L : sg_L) : acO 0 48 21 2 3 x (f 0 50) (sX12_tellsAs_2_f0_f2 x f L) := by
  refine ⟨rfl, by show (5 : Int32).toInt = ((5 : Nat) : Int); decide, fun i hi => ?_⟩
  have hi : i < 5 := hi
  match i, hi with
  | 0, _ => rfl
  | 1, _ => rfl
  | 2, _ => rfl
  | 3, _ => rfl
  | 4, _ => rfl
  | i + 5, h => exact absurd h (by omega)
set_option maxRecDepth 100000 in
theorem acX_3_0 (x : Int32) (f : sg_F) (L : sg_L) : acO 36 3 38 3 0 x (f 36 5) (sX3_does_3_0_0_f0_f3 x f L) := by
  refine ⟨rfl, by show (1 : Int32).toInt = ((1 : Nat) : Int); decide, fun i hi => ?_⟩
  have hi : i < 1 := hi
  match i, hi with
  | 0, _ => rfl
  | i + 1, h => exact absurd h (by omega)
set_option maxRecDepth 100000 in
theorem acM_3_0 (x : Int32) (f : sg_F) (L : sg_L) : acO 0 48 21 3 0 x (f 0 50) (sX12_setsAs_3_f0_f3 x f L) := by
  refine ⟨rfl, by show (1 : Int32).toInt = ((1 : Nat) : Int); decide, fun i hi => ?_⟩
  have hi : i < 1 := hi
  match i, hi with
  | 0, _ => rfl
  | i + 1, h => exact absurd h (by omega)
set_option maxRecDepth 100000 in
theorem acX_3_1 (x : Int32) (f : sg_F) (L : sg_L) : acO 36 3 38 3 1 x (f 36 5) (sX3_does_3_1_0_f0_f3 x f L) := by
  refine ⟨rfl, by show (4 : Int32).toInt = ((4 : Nat) : Int); decide, fun i hi => ?_⟩
  have hi : i < 4 := hi
  match i, hi with
  | 0, _ => rfl
  | 1, _ => rfl
  | 2, _ => rfl
  | 3, _ => rfl
  | i + 4, h => exact absurd h (by omega)
set_option maxRecDepth 100000 in
theorem acM_3_1 (x : Int32) (f : sg_F) (L : sg_L) : acO 0 48 21 3 1 x (f 0 50) (sX12_sitsAs_3_f0_f3 x f L) := by
  refine ⟨rfl, by show (4 : Int32).toInt = ((4 : Nat) : Int); decide, fun i hi => ?_⟩
  have hi : i < 4 := hi
  match i, hi with
  | 0, _ => rfl
  | 1, _ => rfl
  | 2, _ => rfl
  | 3, _ => rfl
  | i + 4, h => exact absurd h (by omega)
set_option maxRecDepth 100000 in
theorem acX_3_2 (x : Int32) (f : sg_F) (L : sg_L) : acO 36 3 38 3 2 x (f 36 5) (sX3_does_3_2_0_f0_f3 x f L) := by
  refine ⟨rfl, by show (2 : Int32).toInt = ((2 : Nat) : Int); decide, fun i hi => ?_⟩
  have hi : i < 2 := hi
  match i, hi with
  | 0, _ => rfl
  | 1, _ => rfl
  | i + 2, h => exact absurd h (by omega)
set_option maxRecDepth 100000 in
theorem acM_3_2 (x : Int32) (f : sg_F) (L : sg_L) : acO 0 48 21 3 2 x (f 0 50) (sX12_slipsAs_3_f0_f3 x f L) := by
  refine ⟨rfl, by show (2 : Int32).toInt = ((2 : Nat) : Int); decide, fun i hi => ?_⟩
  have hi : i < 2 := hi
  match i, hi with
  | 0, _ => rfl
  | 1, _ => rfl
  | i + 2, h => exact absurd h (by omega)
set_option maxRecDepth 100000 in
theorem acX_3_3 (x : Int32) (f : sg_F) (L : sg_L) : acO 36 3 38 3 3 x (f 36 5) (sX3_does_3_3_0_f0_f3 x f L) := by
  refine ⟨rfl, by show (7 : Int32).toInt = ((7 : Nat) : Int); decide, fun i hi => ?_⟩
  have hi : i < 7 := hi
  match i, hi with
  | 0, _ => rfl
  | 1, _ => rfl
  | 2, _ => rfl
  | 3, _ => rfl
  | 4, _ => rfl
  | 5, _ => rfl
  | 6, _ => rfl
  | i + 7, h => exact absurd h (by omega)
set_option maxRecDepth 100000 in
theorem acM_3_3 (x : Int32) (f : sg_F) (L : sg_L) : acO 0 48 21 3 3 x (f 0 50) (sX12_tellsAs_3_f0_f3 x f L) := by
  refine ⟨rfl, by show (7 : Int32).toInt = ((7 : Nat) : Int); decide, fun i hi => ?_⟩
  have hi : i < 7 := hi
  match i, hi with
  | 0, _ => rfl
  | 1, _ => rfl
  | 2, _ => rfl
  | 3, _ => rfl
  | 4, _ => rfl
  | 5, _ => rfl
  | 6, _ => rfl
  | i + 7, h => exact absurd h (by omega)
set_option maxRecDepth 100000 in
theorem acX_4_0 (x : Int32) (f : sg_F) (L : sg_L) : acO 36 3 38 4 0 x (f 36 5) (sX3_does_4_0_0_f0_f4 x f L) := by
  refine ⟨rfl, by show (2 : Int32).toInt = ((2 : Nat) : Int); decide, fun i hi => ?_⟩
  have hi : i < 2 := hi
  match i, hi with
  | 0, _ => rfl
  | 1, _ => rfl
  | i + 2, h => exact absurd h (by omega)
set_option maxRecDepth 100000 in
theorem acM_4_0 (x : Int32) (f : sg_F) (L : sg_L) : acO 0 48 21 4 0 x (f 0 50) (sX12_setsAs_4_f0_f4 x f L) := by
  refine ⟨rfl, by show (2 : Int32).toInt = ((2 : Nat) : Int); decide, fun i hi => ?_⟩
  have hi : i < 2 := hi
  match i, hi with
  | 0, _ => rfl
  | 1, _ => rfl
  | i + 2, h => exact absurd h (by omega)
set_option maxRecDepth 100000 in
theorem acX_4_1 (x : Int32) (f : sg_F) (L : sg_L) : acO 36 3 38 4 1 x (f 36 5) (sX3_does_4_1_0_f0_f4 x f L) := by
  refine ⟨rfl, by show (3 : Int32).toInt = ((3 : Nat) : Int); decide, fun i hi => ?_⟩
  have hi : i < 3 := hi
  match i, hi with
  | 0, _ => rfl
  | 1, _ => rfl
  | 2, _ => rfl
  | i + 3, h => exact absurd h (by omega)
set_option maxRecDepth 100000 in
theorem acM_4_1 (x : Int32) (f : sg_F) (L : sg_L) : acO 0 48 21 4 1 x (f 0 50) (sX12_sitsAs_4_f0_f4 x f L) := by
  refine ⟨rfl, by show (3 : Int32).toInt = ((3 : Nat) : Int); decide, fun i hi => ?_⟩
  have hi : i < 3 := hi
  match i, hi with
  | 0, _ => rfl
  | 1, _ => rfl
  | 2, _ => rfl
  | i + 3, h => exact absurd h (by omega)
set_option maxRecDepth 100000 in
theorem acX_4_2 (x : Int32) (f : sg_F) (L : sg_L) : acO 36 3 38 4 2 x (f 36 5) (sX3_does_4_2_0_f0_f4 x f L) := by
  refine ⟨rfl, by show (4 : Int32).toInt = ((4 : Nat) : Int); decide, fun i hi => ?_⟩
  have hi : i < 4 := hi
  match i, hi with
  | 0, _ => rfl
  | 1, _ => rfl
  | 2, _ => rfl
  | 3, _ => rfl
  | i + 4, h => exact absurd h (by omega)
set_option maxRecDepth 100000 in
theorem acM_4_2 (x : Int32) (f : sg_F) (L : sg_L) : acO 0 48 21 4 2 x (f 0 50) (sX12_slipsAs_4_f0_f4 x f L) := by
  refine ⟨rfl, by show (4 : Int32).toInt = ((4 : Nat) : Int); decide, fun i hi => ?_⟩
  have hi : i < 4 := hi
  match i, hi with
  | 0, _ => rfl
  | 1, _ => rfl
  | 2, _ => rfl
  | 3, _ => rfl
  | i + 4, h => exact absurd h (by omega)
set_option maxRecDepth 100000 in
theorem acX_4_3 (x : Int32) (f : sg_F) (L : sg_L) : acO 36 3 38 4 3 x (f 36 5) (sX3_does_4_3_0_f0_f4 x f L) := by
  refine ⟨rfl, by show (8 : Int32).toInt = ((8 : Nat) : Int); decide, fun i hi => ?_⟩
  have hi : i < 8 := hi
  match i, hi with
  | 0, _ => rfl
  | 1, _ => rfl
  | 2, _ => rfl
  | 3, _ => rfl
  | 4, _ => rfl
  | 5, _ => rfl
  | 6, _ => rfl
  | 7, _ => rfl
  | i + 8, h => exact absurd h (by omega)
set_option maxRecDepth 100000 in
theorem acM_4_3 (x : Int32) (f : sg_F) (L : sg_L) : acO 0 48 21 4 3 x (f 0 50) (sX12_tellsAs_4_f0_f4 x f L) := by
  refine ⟨rfl, by show (8 : Int32).toInt = ((8 : Nat) : Int); decide, fun i hi => ?_⟩
  have hi : i < 8 := hi
  match i, hi with
  | 0, _ => rfl
  | 1, _ => rfl
  | 2, _ => rfl
  | 3, _ => rfl
  | 4, _ => rfl
  | 5, _ => rfl
  | 6, _ => rfl
  | 7, _ => rfl
  | i + 8, h => exact absurd h (by omega)
set_option maxRecDepth 100000 in
theorem acX_5_0 (x : Int32) (f : sg_F) (L : sg_L) : acO 36 3 38 5 0 x (f 36 5) (sX3_does_5_0_0_f0_f5 x f L) := by
  refine ⟨rfl, by show (1 : Int32).toInt = ((1 : Nat) : Int); decide, fun i hi => ?_⟩
  have hi : i < 1 := hi
  match i, hi with
  | 0, _ => rfl
  | i + 1, h => exact absurd h (by omega)
set_option maxRecDepth 100000 in
theorem acM_5_0 (x : Int32) (f : sg_F) (L : sg_L) : acO 0 48 21 5 0 x (f 0 50) (sX12_setsAs_5_f0_f5 x f L) := by
  refine ⟨rfl, by show (1 : Int32).toInt = ((1 : Nat) : Int); decide, fun i hi => ?_⟩
  have hi : i < 1 := hi
  match i, hi with
  | 0, _ => rfl
  | i + 1, h => exact absurd h (by omega)
set_option maxRecDepth 100000 in
theorem acX_5_1 (x : Int32) (f : sg_F) (L : sg_L) : acO 36 3 38 5 1 x (f 36 5) (sX3_does_5_1_0_f0_f5 x f L) := by
  refine ⟨rfl, by show (4 : Int32).toInt = ((4 : Nat) : Int); decide, fun i hi => ?_⟩
  have hi : i < 4 := hi
  match i, hi with
  | 0, _ => rfl
  | 1, _ => rfl
  | 2, _ => rfl
  | 3, _ => rfl
  | i + 4, h => exact absurd h (by omega)
set_option maxRecDepth 100000 in
theorem acM_5_1 (x : Int32) (f : sg_F) (L : sg_L) : acO 0 48 21 5 1 x (f 0 50) (sX12_sitsAs_5_f0_f5 x f L) := by
  refine ⟨rfl, by show (4 : Int32).toInt = ((4 : Nat) : Int); decide, fun i hi => ?_⟩
  have hi : i < 4 := hi
  match i, hi with
  | 0, _ => rfl
  | 1, _ => rfl
  | 2, _ => rfl
  | 3, _ => rfl
  | i + 4, h => exact absurd h (by omega)
set_option maxRecDepth 100000 in
theorem acX_5_2 (x : Int32) (f : sg_F) (L : sg_L) : acO 36 3 38 5 2 x (f 36 5) (sX3_does_5_2_0_f0_f5 x f L) := by
  refine ⟨rfl, by show (2 : Int32).toInt = ((2 : Nat) : Int); decide, fun i hi => ?_⟩
  have hi : i < 2 := hi
  match i, hi with
  | 0, _ => rfl
  | 1, _ => rfl
  | i + 2, h => exact absurd h (by omega)
set_option maxRecDepth 100000 in
theorem acM_5_2 (x : Int32) (f : sg_F) (L : sg_L) : acO 0 48 21 5 2 x (f 0 50) (sX12_slipsAs_5_f0_f5 x f L) := by
  refine ⟨rfl, by show (2 : Int32).toInt = ((2 : Nat) : Int); decide, fun i hi => ?_⟩
  have hi : i < 2 := hi
  match i, hi with
  | 0, _ => rfl
  | 1, _ => rfl
  | i + 2, h => exact absurd h (by omega)
set_option maxRecDepth 100000 in
theorem acX_5_3 (x : Int32) (f : sg_F) (L : sg_L) : acO 36 3 38 5 3 x (f 36 5) (sX3_does_5_3_0_f0_f5 x f L) := by
  refine ⟨rfl, by show (8 : Int32).toInt = ((8 : Nat) : Int); decide, fun i hi => ?_⟩
  have hi : i < 8 := hi
  match i, hi with
  | 0, _ => rfl
  | 1, _ => rfl
  | 2, _ => rfl
  | 3, _ => rfl
  | 4, _ => rfl
  | 5, _ => rfl
  | 6, _ => rfl
  | 7, _ => rfl
  | i + 8, h => exact absurd h (by omega)
set_option maxRecDepth 100000 in
theorem acM_5_3 (x : Int32) (f : sg_F) (L : sg_L) : acO 0 48 21 5 3 x (f 0 50) (sX12_tellsAs_5_f0_f5 x f L) := by
  refine ⟨rfl, by show (8 : Int32).toInt = ((8 : Nat) : Int); decide, fun i hi => ?_⟩
  have hi : i < 8 := hi
  match i, hi with
  | 0, _ => rfl
  | 1, _ => rfl
  | 2, _ => rfl
  | 3, _ => rfl
  | 4, _ => rfl
  | 5, _ => rfl
  | 6, _ => rfl
  | 7, _ => rfl
  | i + 8, h => exact absurd h (by omega)
set_option maxRecDepth 100000 in
theorem acX_6_0 (x : Int32) (f : sg_F) (L : sg_L) : acO 36 3 38 6 0 x (f 36 5) (sX3_does_6_0_0_f0_f6 x f L) := by
  refine ⟨rfl, by show (2 : Int32).toInt = ((2 : Nat) : Int); decide, fun i hi => ?_⟩
  have hi : i < 2 := hi
  match i, hi with
  | 0, _ => rfl
  | 1, _ => rfl
  | i + 2, h => exact absurd h (by omega)
set_option maxRecDepth 100000 in
theorem acM_6_0 (x : Int32) (f : sg_F) (L : sg_L) : acO 0 48 21 6 0 x (f 0 50) (sX12_setsAs_6_f0_f6 x f L) := by
  refine ⟨rfl, by show (2 : Int32).toInt = ((2 : Nat) : Int); decide, fun i hi => ?_⟩
  have hi : i < 2 := hi
  match i, hi with
  | 0, _ => rfl
  | 1, _ => rfl
  | i + 2, h => exact absurd h (by omega)
set_option maxRecDepth 100000 in
theorem acX_6_1 (x : Int32) (f : sg_F) (L : sg_L) : acO 36 3 38 6 1 x (f 36 5) (sX3_does_6_1_0_f0_f6 x f L) := by
  refine ⟨rfl, by show (3 : Int32).toInt = ((3 : Nat) : Int); decide, fun i hi => ?_⟩
  have hi : i < 3 := hi
  match i, hi with
  | 0, _ => rfl
  | 1, _ => rfl
  | 2, _ => rfl
  | i + 3, h => exact absurd h (by omega)
set_option maxRecDepth 100000 in
theorem acM_6_1 (x : Int32) (f : sg_F) (L : sg_L) : acO 0 48 21 6 1 x (f 0 50) (sX12_sitsAs_6_f0_f6 x f L) := by
  refine ⟨rfl, by show (3 : Int32).toInt = ((3 : Nat) : Int); decide, fun i hi => ?_⟩
  have hi : i < 3 := hi
  match i, hi with
  | 0, _ => rfl
  | 1, _ => rfl
  | 2, _ => rfl
  | i + 3, h => exact absurd h (by omega)
set_option maxRecDepth 100000 in
theorem acX_6_2 (x : Int32) (f : sg_F) (L : sg_L) : acO 36 3 38 6 2 x (f 36 5) (sX3_does_6_2_0_f0_f6 x f L) := by
  refine ⟨rfl, by show (1 : Int32).toInt = ((1 : Nat) : Int); decide, fun i hi => ?_⟩
  have hi : i < 1 := hi
  match i, hi with
  | 0, _ => rfl
  | i + 1, h => exact absurd h (by omega)
set_option maxRecDepth 100000 in
theorem acM_6_2 (x : Int32) (f : sg_F) (L : sg_L) : acO 0 48 21 6 2 x (f 0 50) (sX12_slipsAs_6_f0_f6 x f L) := by
  refine ⟨rfl, by show (1 : Int32).toInt = ((1 : Nat) : Int); decide, fun i hi => ?_⟩
  have hi : i < 1 := hi
  match i, hi with
  | 0, _ => rfl
  | i + 1, h => exact absurd h (by omega)
set_option maxRecDepth 100000 in
theorem acX_6_3 (x : Int32) (f : sg_F) (L : sg_L) : acO 36 3 38 6 3 x (f 36 5) (sX3_does_6_3_0_f0_f6 x f L) := by
  refine ⟨rfl, by show (5 : Int32).toInt = ((5 : Nat) : Int); decide, fun i hi => ?_⟩
  have hi : i < 5 := hi
  match i, hi with
  | 0, _ => rfl
  | 1, _ => rfl
  | 2, _ => rfl
  | 3, _ => rfl
  | 4, _ => rfl
  | i + 5, h => exact absurd h (by omega)
set_option maxRecDepth 100000 in
theorem acM_6_3 (x : Int32) (f : sg_F) (L : sg_L) : acO 0 48 21 6 3 x (f 0 50) (sX12_tellsAs_6_f0_f6 x f L) := by
  refine ⟨rfl, by show (5 : Int32).toInt = ((5 : Nat) : Int); decide, fun i hi => ?_⟩
  have hi : i < 5 := hi
  match i, hi with
  | 0, _ => rfl
  | 1, _ => rfl
  | 2, _ => rfl
  | 3, _ => rfl
  | 4, _ => rfl
  | i + 5, h => exact absurd h (by omega)
set_option maxRecDepth 100000 in
theorem acX_7_0 (x : Int32) (f : sg_F) (L : sg_L) : acO 36 3 38 7 0 x (f 36 5) (sX3_does_7_0_0_f0_f7 x f L) := by
  refine ⟨rfl, by show (2 : Int32).toInt = ((2 : Nat) : Int); decide, fun i hi => ?_⟩
  have hi : i < 2 := hi
  match i, hi with
  | 0, _ => rfl
  | 1, _ => rfl
  | i + 2, h => exact absurd h (by omega)
set_option maxRecDepth 100000 in
theorem acM_7_0 (x : Int32) (f : sg_F) (L : sg_L) : acO 0 48 21 7 0 x (f 0 50) (sX12_setsAs_7_f0_f7 x f L) := by
  refine ⟨rfl, by show (2 : Int32).toInt = ((2 : Nat) : Int); decide, fun i hi => ?_⟩
  have hi : i < 2 := hi
  match i, hi with
  | 0, _ => rfl
  | 1, _ => rfl
  | i + 2, h => exact absurd h (by omega)
set_option maxRecDepth 100000 in
theorem acX_7_1 (x : Int32) (f : sg_F) (L : sg_L) : acO 36 3 38 7 1 x (f 36 5) (sX3_does_7_1_0_f0_f7 x f L) := by
  refine ⟨rfl, by show (8 : Int32).toInt = ((8 : Nat) : Int); decide, fun i hi => ?_⟩
  have hi : i < 8 := hi
  match i, hi with
  | 0, _ => rfl
  | 1, _ => rfl
  | 2, _ => rfl
  | 3, _ => rfl
  | 4, _ => rfl
  | 5, _ => rfl
  | 6, _ => rfl
  | 7, _ => rfl
  | i + 8, h => exact absurd h (by omega)
set_option maxRecDepth 100000 in
theorem acM_7_1 (x : Int32) (f : sg_F) (L : sg_L) : acO 0 48 21 7 1 x (f 0 50) (sX12_sitsAs_7_f0_f7 x f L) := by
  refine ⟨rfl, by show (8 : Int32).toInt = ((8 : Nat) : Int); decide, fun i hi => ?_⟩
  have hi : i < 8 := hi
  match i, hi with
  | 0, _ => rfl
  | 1, _ => rfl
  | 2, _ => rfl
  | 3, _ => rfl
  | 4, _ => rfl
  | 5, _ => rfl
  | 6, _ => rfl
  | 7, _ => rfl
  | i + 8, h => exact absurd h (by omega)
set_option maxRecDepth 100000 in
theorem acX_7_2 (x : Int32) (f : sg_F) (L : sg_L) : acO 36 3 38 7 2 x (f 36 5) (sX3_does_7_2_0_f0_f7 x f L) := by
  refine ⟨rfl, by show (4 : Int32).toInt = ((4 : Nat) : Int); decide, fun i hi => ?_⟩
  have hi : i < 4 := hi
  match i, hi with
  | 0, _ => rfl
  | 1, _ => rfl
  | 2, _ => rfl
  | 3, _ => rfl
  | i + 4, h => exact absurd h (by omega)
set_option maxRecDepth 100000 in
theorem acM_7_2 (x : Int32) (f : sg_F) (L : sg_L) : acO 0 48 21 7 2 x (f 0 50) (sX12_slipsAs_7_f0_f7 x f L) := by
  refine ⟨rfl, by show (4 : Int32).toInt = ((4 : Nat) : Int); decide, fun i hi => ?_⟩
  have hi : i < 4 := hi
  match i, hi with
  | 0, _ => rfl
  | 1, _ => rfl
  | 2, _ => rfl
  | 3, _ => rfl
  | i + 4, h => exact absurd h (by omega)
set_option maxRecDepth 100000 in
theorem acX_7_3 (x : Int32) (f : sg_F) (L : sg_L) : acO 36 3 38 7 3 x (f 36 5) (sX3_does_7_3_0_f0_f7 x f L) := by
  refine ⟨rfl, by show (14 : Int32).toInt = ((14 : Nat) : Int); decide, fun i hi => ?_⟩
  have hi : i < 14 := hi
  match i, hi with
  | 0, _ => rfl
  | 1, _ => rfl
  | 2, _ => rfl
  | 3, _ => rfl
  | 4, _ => rfl
  | 5, _ => rfl
  | 6, _ => rfl
  | 7, _ => rfl
  | 8, _ => rfl
  | 9, _ => rfl
  | 10, _ => rfl
  | 11, _ => rfl
  | 12, _ => rfl
  | 13, _ => rfl
  | i + 14, h => exact absurd h (by omega)
set_option maxRecDepth 100000 in
theorem acM_7_3 (x : Int32) (f : sg_F) (L : sg_L) : acO 0 48 21 7 3 x (f 0 50) (sX12_tellsAs_7_f0_f7 x f L) := by
  refine ⟨rfl, by show (14 : Int32).toInt = ((14 : Nat) : Int); decide, fun i hi => ?_⟩
  have hi : i < 14 := hi
  match i, hi with
  | 0, _ => rfl
  | 1, _ => rfl
  | 2, _ => rfl
  | 3, _ => rfl
  | 4, _ => rfl
  | 5, _ => rfl
  | 6, _ => rfl
  | 7, _ => rfl
  | 8, _ => rfl
  | 9, _ => rfl
  | 10, _ => rfl
  | 11, _ => rfl
  | 12, _ => rfl
  | 13, _ => rfl
  | i + 14, h => exact absurd h (by omega)
set_option maxHeartbeats 4000000 in
set_option maxRecDepth 100000 in
theorem acX_act (x0 x1 x2 : Int32) (f : sg_F) (L : sg_L) (hk : 0 ≤ (f 37 x0.toNatClampNeg).toInt ∧ (f 37 x0.toNatClampNeg).toInt ≤ 7) : (0 ≤ x0.toInt ∧ x0.toInt < (f 36 2).toInt ∧ 0 ≤ x1.toInt ∧ x1.toInt ≤ 3 ∧ acO 36 3 38 (f 37 x0.toNatClampNeg).toNatClampNeg x1.toNatClampNeg x2 x0 (sX11_act x0 x1 x2 f L)) ∨ (¬ (0 ≤ x0.toInt ∧ x0.toInt < (f 36 2).toInt ∧ 0 ≤ x1.toInt ∧ x1.toInt ≤ 3) ∧ (sX11_act x0 x1 x2 f L).1 = 0 ∧ ((sX11_act x0 x1 x2 f L).2 36 3).toInt = 0) := by
  have e1 : (sg_up f 36 (sgu (f 36) 3 0)) 36 2 = f 36 2 := by rw [sg_up_s, sgu_n (by decide)]
  have e2 : (sg_up f 36 (sgu (f 36) 3 0)) 37 = f 37 := sg_up_n (by decide)
  have ea : sX11_act x0 x1 x2 f L = sX3_acts x0 x1 x2 f L := rfl
  rw [ea]
  unfold sX3_acts; (repeat first | rw [spl_d] | rw [spl2_d])
  rw [e1, e2]
  by_cases c1 : x0.toInt < 0
  · rw [if_pos c1]; exact Or.inr ⟨by omega, rfl, by show (0 : Int32).toInt = 0; decide⟩
  by_cases c2 : x0.toInt < (f 36 2).toInt
  case neg => rw [if_neg c1, if_neg c2]; exact Or.inr ⟨by omega, rfl, by show (0 : Int32).toInt = 0; decide⟩
  by_cases c3 : x1.toInt < 0
  · rw [if_neg c1, if_pos c2, if_pos c3]; exact Or.inr ⟨by omega, rfl, by show (0 : Int32).toInt = 0; decide⟩
  by_cases c4 : x1.toInt < 4
  case neg => rw [if_neg c1, if_pos c2, if_neg c3, if_neg c4]; exact Or.inr ⟨by omega, rfl, by show (0 : Int32).toInt = 0; decide⟩
  rw [if_neg c1, if_pos c2, if_neg c3, if_pos c4]
  refine Or.inl ⟨by omega, c2, by omega, by omega, ?_⟩
  rcases (show x1.toInt = 0 ∨ x1.toInt = 1 ∨ x1.toInt = 2 ∨ x1.toInt = 3 from by omega) with w | w | w | w <;> rcases (show (f 37 x0.toNatClampNeg).toInt = 0 ∨ (f 37 x0.toNatClampNeg).toInt = 1 ∨ (f 37 x0.toNatClampNeg).toInt = 2 ∨ (f 37 x0.toNatClampNeg).toInt = 3 ∨ (f 37 x0.toNatClampNeg).toInt = 4 ∨ (f 37 x0.toNatClampNeg).toInt = 5 ∨ (f 37 x0.toNatClampNeg).toInt = 6 ∨ (f 37 x0.toNatClampNeg).toInt = 7 from by omega) with k | k | k | k | k | k | k | k
  · rw [show (f 37 x0.toNatClampNeg).toNatClampNeg = 0 from by show (f 37 x0.toNatClampNeg).toInt.toNat = 0; omega, show x1.toNatClampNeg = 0 from by show x1.toInt.toNat = 0; omega, if_pos w, if_pos k]; exact acX_0_0 x2 _ L
  · rw [show (f 37 x0.toNatClampNeg).toNatClampNeg = 1 from by show (f 37 x0.toNatClampNeg).toInt.toNat = 1; omega, show x1.toNatClampNeg = 0 from by show x1.toInt.toNat = 0; omega, if_pos w, if_neg (show ¬ (f 37 x0.toNatClampNeg).toInt = 0 from by omega), if_pos k]; exact acX_1_0 x2 _ L
  · rw [show (f 37 x0.toNatClampNeg).toNatClampNeg = 2 from by show (f 37 x0.toNatClampNeg).toInt.toNat = 2; omega, show x1.toNatClampNeg = 0 from by show x1.toInt.toNat = 0; omega, if_pos w, if_neg (show ¬ (f 37 x0.toNatClampNeg).toInt = 0 from by omega), if_neg (show ¬ (f 37 x0.toNatClampNeg).toInt = 1 from by omega), if_pos k]; exact acX_2_0 x2 _ L
  · rw [show (f 37 x0.toNatClampNeg).toNatClampNeg = 3 from by show (f 37 x0.toNatClampNeg).toInt.toNat = 3; omega, show x1.toNatClampNeg = 0 from by show x1.toInt.toNat = 0; omega, if_pos w, if_neg (show ¬ (f 37 x0.toNatClampNeg).toInt = 0 from by omega), if_neg (show ¬ (f 37 x0.toNatClampNeg).toInt = 1 from by omega), if_neg (show ¬ (f 37 x0.toNatClampNeg).toInt = 2 from by omega), if_pos k]; exact acX_3_0 x2 _ L
  · rw [show (f 37 x0.toNatClampNeg).toNatClampNeg = 4 from by show (f 37 x0.toNatClampNeg).toInt.toNat = 4; omega, show x1.toNatClampNeg = 0 from by show x1.toInt.toNat = 0; omega, if_pos w, if_neg (show ¬ (f 37 x0.toNatClampNeg).toInt = 0 from by omega), if_neg (show ¬ (f 37 x0.toNatClampNeg).toInt = 1 from by omega), if_neg (show ¬ (f 37 x0.toNatClampNeg).toInt = 2 from by omega), if_neg (show ¬ (f 37 x0.toNatClampNeg).toInt = 3 from by omega), if_pos k]; exact acX_4_0 x2 _ L
  · rw [show (f 37 x0.toNatClampNeg).toNatClampNeg = 5 from by show (f 37 x0.toNatClampNeg).toInt.toNat = 5; omega, show x1.toNatClampNeg = 0 from by show x1.toInt.toNat = 0; omega, if_pos w, if_neg (show ¬ (f 37 x0.toNatClampNeg).toInt = 0 from by omega), if_neg (show ¬ (f 37 x0.toNatClampNeg).toInt = 1 from by omega), if_neg (show ¬ (f 37 x0.toNatClampNeg).toInt = 2 from by omega), if_neg (show ¬ (f 37 x0.toNatClampNeg).toInt = 3 from by omega), if_neg (show ¬ (f 37 x0.toNatClampNeg).toInt = 4 from by omega), if_pos k]; exact acX_5_0 x2 _ L
  · rw [show (f 37 x0.toNatClampNeg).toNatClampNeg = 6 from by show (f 37 x0.toNatClampNeg).toInt.toNat = 6; omega, show x1.toNatClampNeg = 0 from by show x1.toInt.toNat = 0; omega, if_pos w, if_neg (show ¬ (f 37 x0.toNatClampNeg).toInt = 0 from by omega), if_neg (show ¬ (f 37 x0.toNatClampNeg).toInt = 1 from by omega), if_neg (show ¬ (f 37 x0.toNatClampNeg).toInt = 2 from by omega), if_neg (show ¬ (f 37 x0.toNatClampNeg).toInt = 3 from by omega), if_neg (show ¬ (f 37 x0.toNatClampNeg).toInt = 4 from by omega), if_neg (show ¬ (f 37 x0.toNatClampNeg).toInt = 5 from by omega), if_pos k]; exact acX_6_0 x2 _ L
  · rw [show (f 37 x0.toNatClampNeg).toNatClampNeg = 7 from by show (f 37 x0.toNatClampNeg).toInt.toNat = 7; omega, show x1.toNatClampNeg = 0 from by show x1.toInt.toNat = 0; omega, if_pos w, if_neg (show ¬ (f 37 x0.toNatClampNeg).toInt = 0 from by omega), if_neg (show ¬ (f 37 x0.toNatClampNeg).toInt = 1 from by omega), if_neg (show ¬ (f 37 x0.toNatClampNeg).toInt = 2 from by omega), if_neg (show ¬ (f 37 x0.toNatClampNeg).toInt = 3 from by omega), if_neg (show ¬ (f 37 x0.toNatClampNeg).toInt = 4 from by omega), if_neg (show ¬ (f 37 x0.toNatClampNeg).toInt = 5 from by omega), if_neg (show ¬ (f 37 x0.toNatClampNeg).toInt = 6 from by omega)]; exact acX_7_0 x2 _ L
  · rw [show (f 37 x0.toNatClampNeg).toNatClampNeg = 0 from by show (f 37 x0.toNatClampNeg).toInt.toNat = 0; omega, show x1.toNatClampNeg = 1 from by show x1.toInt.toNat = 1; omega, if_neg (show ¬ x1.toInt = 0 from by omega), if_pos w, if_pos k]; exact acX_0_1 x2 _ L
  · rw [show (f 37 x0.toNatClampNeg).toNatClampNeg = 1 from by show (f 37 x0.toNatClampNeg).toInt.toNat = 1; omega, show x1.toNatClampNeg = 1 from by show x1.toInt.toNat = 1; omega, if_neg (show ¬ x1.toInt = 0 from by omega), if_pos w, if_neg (show ¬ (f 37 x0.toNatClampNeg).toInt = 0 from by omega), if_pos k]; exact acX_1_1 x2 _ L
  · rw [show (f 37 x0.toNatClampNeg).toNatClampNeg = 2 from by show (f 37 x0.toNatClampNeg).toInt.toNat = 2; omega, show x1.toNatClampNeg = 1 from by show x1.toInt.toNat = 1; omega, if_neg (show ¬ x1.toInt = 0 from by omega), if_pos w, if_neg (show ¬ (f 37 x0.toNatClampNeg).toInt = 0 from by omega), if_neg (show ¬ (f 37 x0.toNatClampNeg).toInt = 1 from by omega), if_pos k]; exact acX_2_1 x2 _ L
  · rw [show (f 37 x0.toNatClampNeg).toNatClampNeg = 3 from by show (f 37 x0.toNatClampNeg).toInt.toNat = 3; omega, show x1.toNatClampNeg = 1 from by show x1.toInt.toNat = 1; omega, if_neg (show ¬ x1.toInt = 0 from by omega), if_pos w, if_neg (show ¬ (f 37 x0.toNatClampNeg).toInt = 0 from by omega), if_neg (show ¬ (f 37 x0.toNatClampNeg).toInt = 1 from by omega), if_neg (show ¬ (f 37 x0.toNatClampNeg).toInt = 2 from by omega), if_pos k]; exact acX_3_1 x2 _ L
  · rw [show (f 37 x0.toNatClampNeg).toNatClampNeg = 4 from by show (f 37 x0.toNatClampNeg).toInt.toNat = 4; omega, show x1.toNatClampNeg = 1 from by show x1.toInt.toNat = 1; omega, if_neg (show ¬ x1.toInt = 0 from by omega), if_pos w, if_neg (show ¬ (f 37 x0.toNatClampNeg).toInt = 0 from by omega), if_neg (show ¬ (f 37 x0.toNatClampNeg).toInt = 1 from by omega), if_neg (show ¬ (f 37 x0.toNatClampNeg).toInt = 2 from by omega), if_neg (show ¬ (f 37 x0.toNatClampNeg).toInt = 3 from by omega), if_pos k]; exact acX_4_1 x2 _ L
  · rw [show (f 37 x0.toNatClampNeg).toNatClampNeg = 5 from by show (f 37 x0.toNatClampNeg).toInt.toNat = 5; omega, show x1.toNatClampNeg = 1 from by show x1.toInt.toNat = 1; omega, if_neg (show ¬ x1.toInt = 0 from by omega), if_pos w, if_neg (show ¬ (f 37 x0.toNatClampNeg).toInt = 0 from by omega), if_neg (show ¬ (f 37 x0.toNatClampNeg).toInt = 1 from by omega), if_neg (show ¬ (f 37 x0.toNatClampNeg).toInt = 2 from by omega), if_neg (show ¬ (f 37 x0.toNatClampNeg).toInt = 3 from by omega), if_neg (show ¬ (f 37 x0.toNatClampNeg).toInt = 4 from by omega), if_pos k]; exact acX_5_1 x2 _ L
  · rw [show (f 37 x0.toNatClampNeg).toNatClampNeg = 6 from by show (f 37 x0.toNatClampNeg).toInt.toNat = 6; omega, show x1.toNatClampNeg = 1 from by show x1.toInt.toNat = 1; omega, if_neg (show ¬ x1.toInt = 0 from by omega), if_pos w, if_neg (show ¬ (f 37 x0.toNatClampNeg).toInt = 0 from by omega), if_neg (show ¬ (f 37 x0.toNatClampNeg).toInt = 1 from by omega), if_neg (show ¬ (f 37 x0.toNatClampNeg).toInt = 2 from by omega), if_neg (show ¬ (f 37 x0.toNatClampNeg).toInt = 3 from by omega), if_neg (show ¬ (f 37 x0.toNatClampNeg).toInt = 4 from by omega), if_neg (show ¬ (f 37 x0.toNatClampNeg).toInt = 5 from by omega), if_pos k]; exact acX_6_1 x2 _ L
  · rw [show (f 37 x0.toNatClampNeg).toNatClampNeg = 7 from by show (f 37 x0.toNatClampNeg).toInt.toNat = 7; omega, show x1.toNatClampNeg = 1 from by show x1.toInt.toNat = 1; omega, if_neg (show ¬ x1.toInt = 0 from by omega), if_pos w, if_neg (show ¬ (f 37 x0.toNatClampNeg).toInt = 0 from by omega), if_neg (show ¬ (f 37 x0.toNatClampNeg).toInt = 1 from by omega), if_neg (show ¬ (f 37 x0.toNatClampNeg).toInt = 2 from by omega), if_neg (show ¬ (f 37 x0.toNatClampNeg).toInt = 3 from by omega), if_neg (show ¬ (f 37 x0.toNatClampNeg).toInt = 4 from by omega), if_neg (show ¬ (f 37 x0.toNatClampNeg).toInt = 5 from by omega), if_neg (show ¬ (f 37 x0.toNatClampNeg).toInt = 6 from by omega)]; exact acX_7_1 x2 _ L
  · rw [show (f 37 x0.toNatClampNeg).toNatClampNeg = 0 from by show (f 37 x0.toNatClampNeg).toInt.toNat = 0; omega, show x1.toNatClampNeg = 2 from by show x1.toInt.toNat = 2; omega, if_neg (show ¬ x1.toInt = 0 from by omega), if_neg (show ¬ x1.toInt = 1 from by omega), if_pos w, if_pos k]; exact acX_0_2 x2 _ L
  · rw [show (f 37 x0.toNatClampNeg).toNatClampNeg = 1 from by show (f 37 x0.toNatClampNeg).toInt.toNat = 1; omega, show x1.toNatClampNeg = 2 from by show x1.toInt.toNat = 2; omega, if_neg (show ¬ x1.toInt = 0 from by omega), if_neg (show ¬ x1.toInt = 1 from by omega), if_pos w, if_neg (show ¬ (f 37 x0.toNatClampNeg).toInt = 0 from by omega), if_pos k]; exact acX_1_2 x2 _ L
  · rw [show (f 37 x0.toNatClampNeg).toNatClampNeg = 2 from by show (f 37 x0.toNatClampNeg).toInt.toNat = 2; omega, show x1.toNatClampNeg = 2 from by show x1.toInt.toNat = 2; omega, if_neg (show ¬ x1.toInt = 0 from by omega), if_neg (show ¬ x1.toInt = 1 from by omega), if_pos w, if_neg (show ¬ (f 37 x0.toNatClampNeg).toInt = 0 from by omega), if_neg (show ¬ (f 37 x0.toNatClampNeg).toInt = 1 from by omega), if_pos k]; exact acX_2_2 x2 _ L
  · rw [show (f 37 x0.toNatClampNeg).toNatClampNeg = 3 from by show (f 37 x0.toNatClampNeg).toInt.toNat = 3; omega, show x1.toNatClampNeg = 2 from by show x1.toInt.toNat = 2; omega, if_neg (show ¬ x1.toInt = 0 from by omega), if_neg (show ¬ x1.toInt = 1 from by omega), if_pos w, if_neg (show ¬ (f 37 x0.toNatClampNeg).toInt = 0 from by omega), if_neg (show ¬ (f 37 x0.toNatClampNeg).toInt = 1 from by omega), if_neg (show ¬ (f 37 x0.toNatClampNeg).toInt = 2 from by omega), if_pos k]; exact acX_3_2 x2 _ L
  · rw [show (f 37 x0.toNatClampNeg).toNatClampNeg = 4 from by show (f 37 x0.toNatClampNeg).toInt.toNat = 4; omega, show x1.toNatClampNeg = 2 from by show x1.toInt.toNat = 2; omega, if_neg (show ¬ x1.toInt = 0 from by omega), if_neg (show ¬ x1.toInt = 1 from by omega), if_pos w, if_neg (show ¬ (f 37 x0.toNatClampNeg).toInt = 0 from by omega), if_neg (show ¬ (f 37 x0.toNatClampNeg).toInt = 1 from by omega), if_neg (show ¬ (f 37 x0.toNatClampNeg).toInt = 2 from by omega), if_neg (show ¬ (f 37 x0.toNatClampNeg).toInt = 3 from by omega), if_pos k]; exact acX_4_2 x2 _ L
  · rw [show (f 37 x0.toNatClampNeg).toNatClampNeg = 5 from by show (f 37 x0.toNatClampNeg).toInt.toNat = 5; omega, show x1.toNatClampNeg = 2 from by show x1.toInt.toNat = 2; omega, if_neg (show ¬ x1.toInt = 0 from by omega), if_neg (show ¬ x1.toInt = 1 from by omega), if_pos w, if_neg (show ¬ (f 37 x0.toNatClampNeg).toInt = 0 from by omega), if_neg (show ¬ (f 37 x0.toNatClampNeg).toInt = 1 from by omega), if_neg (show ¬ (f 37 x0.toNatClampNeg).toInt = 2 from by omega), if_neg (show ¬ (f 37 x0.toNatClampNeg).toInt = 3 from by omega), if_neg (show ¬ (f 37 x0.toNatClampNeg).toInt = 4 from by omega), if_pos k]; exact acX_5_2 x2 _ L
  · rw [show (f 37 x0.toNatClampNeg).toNatClampNeg = 6 from by show (f 37 x0.toNatClampNeg).toInt.toNat = 6; omega, show x1.toNatClampNeg = 2 from by show x1.toInt.toNat = 2; omega, if_neg (show ¬ x1.toInt = 0 from by omega), if_neg (show ¬ x1.toInt = 1 from by omega), if_pos w, if_neg (show ¬ (f 37 x0.toNatClampNeg).toInt = 0 from by omega), if_neg (show ¬ (f 37 x0.toNatClampNeg).toInt = 1 from by omega), if_neg (show ¬ (f 37 x0.toNatClampNeg).toInt = 2 from by omega), if_neg (show ¬ (f 37 x0.toNatClampNeg).toInt = 3 from by omega), if_neg (show ¬ (f 37 x0.toNatClampNeg).toInt = 4 from by omega), if_neg (show ¬ (f 37 x0.toNatClampNeg).toInt = 5 from by omega), if_pos k]; exact acX_6_2 x2 _ L
  · rw [show (f 37 x0.toNatClampNeg).toNatClampNeg = 7 from by show (f 37 x0.toNatClampNeg).toInt.toNat = 7; omega, show x1.toNatClampNeg = 2 from by show x1.toInt.toNat = 2; omega, if_neg (show ¬ x1.toInt = 0 from by omega), if_neg (show ¬ x1.toInt = 1 from by omega), if_pos w, if_neg (show ¬ (f 37 x0.toNatClampNeg).toInt = 0 from by omega), if_neg (show ¬ (f 37 x0.toNatClampNeg).toInt = 1 from by omega), if_neg (show ¬ (f 37 x0.toNatClampNeg).toInt = 2 from by omega), if_neg (show ¬ (f 37 x0.toNatClampNeg).toInt = 3 from by omega), if_neg (show ¬ (f 37 x0.toNatClampNeg).toInt = 4 from by omega), if_neg (show ¬ (f 37 x0.toNatClampNeg).toInt = 5 from by omega), if_neg (show ¬ (f 37 x0.toNatClampNeg).toInt = 6 from by omega)]; exact acX_7_2 x2 _ L
  · rw [show (f 37 x0.toNatClampNeg).toNatClampNeg = 0 from by show (f 37 x0.toNatClampNeg).toInt.toNat = 0; omega, show x1.toNatClampNeg = 3 from by show x1.toInt.toNat = 3; omega, if_neg (show ¬ x1.toInt = 0 from by omega), if_neg (show ¬ x1.toInt = 1 from by omega), if_neg (show ¬ x1.toInt = 2 from by omega), if_pos k]; exact acX_0_3 x2 _ L
  · rw [show (f 37 x0.toNatClampNeg).toNatClampNeg = 1 from by show (f 37 x0.toNatClampNeg).toInt.toNat = 1; omega, show x1.toNatClampNeg = 3 from by show x1.toInt.toNat = 3; omega, if_neg (show ¬ x1.toInt = 0 from by omega), if_neg (show ¬ x1.toInt = 1 from by omega), if_neg (show ¬ x1.toInt = 2 from by omega), if_neg (show ¬ (f 37 x0.toNatClampNeg).toInt = 0 from by omega), if_pos k]; exact acX_1_3 x2 _ L
  · rw [show (f 37 x0.toNatClampNeg).toNatClampNeg = 2 from by show (f 37 x0.toNatClampNeg).toInt.toNat = 2; omega, show x1.toNatClampNeg = 3 from by show x1.toInt.toNat = 3; omega, if_neg (show ¬ x1.toInt = 0 from by omega), if_neg (show ¬ x1.toInt = 1 from by omega), if_neg (show ¬ x1.toInt = 2 from by omega), if_neg (show ¬ (f 37 x0.toNatClampNeg).toInt = 0 from by omega), if_neg (show ¬ (f 37 x0.toNatClampNeg).toInt = 1 from by omega), if_pos k]; exact acX_2_3 x2 _ L
  · rw [show (f 37 x0.toNatClampNeg).toNatClampNeg = 3 from by show (f 37 x0.toNatClampNeg).toInt.toNat = 3; omega, show x1.toNatClampNeg = 3 from by show x1.toInt.toNat = 3; omega, if_neg (show ¬ x1.toInt = 0 from by omega), if_neg (show ¬ x1.toInt = 1 from by omega), if_neg (show ¬ x1.toInt = 2 from by omega), if_neg (show ¬ (f 37 x0.toNatClampNeg).toInt = 0 from by omega), if_neg (show ¬ (f 37 x0.toNatClampNeg).toInt = 1 from by omega), if_neg (show ¬ (f 37 x0.toNatClampNeg).toInt = 2 from by omega), if_pos k]; exact acX_3_3 x2 _ L
  · rw [show (f 37 x0.toNatClampNeg).toNatClampNeg = 4 from by show (f 37 x0.toNatClampNeg).toInt.toNat = 4; omega, show x1.toNatClampNeg = 3 from by show x1.toInt.toNat = 3; omega, if_neg (show ¬ x1.toInt = 0 from by omega), if_neg (show ¬ x1.toInt = 1 from by omega), if_neg (show ¬ x1.toInt = 2 from by omega), if_neg (show ¬ (f 37 x0.toNatClampNeg).toInt = 0 from by omega), if_neg (show ¬ (f 37 x0.toNatClampNeg).toInt = 1 from by omega), if_neg (show ¬ (f 37 x0.toNatClampNeg).toInt = 2 from by omega), if_neg (show ¬ (f 37 x0.toNatClampNeg).toInt = 3 from by omega), if_pos k]; exact acX_4_3 x2 _ L
  · rw [show (f 37 x0.toNatClampNeg).toNatClampNeg = 5 from by show (f 37 x0.toNatClampNeg).toInt.toNat = 5; omega, show x1.toNatClampNeg = 3 from by show x1.toInt.toNat = 3; omega, if_neg (show ¬ x1.toInt = 0 from by omega), if_neg (show ¬ x1.toInt = 1 from by omega), if_neg (show ¬ x1.toInt = 2 from by omega), if_neg (show ¬ (f 37 x0.toNatClampNeg).toInt = 0 from by omega), if_neg (show ¬ (f 37 x0.toNatClampNeg).toInt = 1 from by omega), if_neg (show ¬ (f 37 x0.toNatClampNeg).toInt = 2 from by omega), if_neg (show ¬ (f 37 x0.toNatClampNeg).toInt = 3 from by omega), if_neg (show ¬ (f 37 x0.toNatClampNeg).toInt = 4 from by omega), if_pos k]; exact acX_5_3 x2 _ L
  · rw [show (f 37 x0.toNatClampNeg).toNatClampNeg = 6 from by show (f 37 x0.toNatClampNeg).toInt.toNat = 6; omega, show x1.toNatClampNeg = 3 from by show x1.toInt.toNat = 3; omega, if_neg (show ¬ x1.toInt = 0 from by omega), if_neg (show ¬ x1.toInt = 1 from by omega), if_neg (show ¬ x1.toInt = 2 from by omega), if_neg (show ¬ (f 37 x0.toNatClampNeg).toInt = 0 from by omega), if_neg (show ¬ (f 37 x0.toNatClampNeg).toInt = 1 from by omega), if_neg (show ¬ (f 37 x0.toNatClampNeg).toInt = 2 from by omega), if_neg (show ¬ (f 37 x0.toNatClampNeg).toInt = 3 from by omega), if_neg (show ¬ (f 37 x0.toNatClampNeg).toInt = 4 from by omega), if_neg (show ¬ (f 37 x0.toNatClampNeg).toInt = 5 from by omega), if_pos k]; exact acX_6_3 x2 _ L
  · rw [show (f 37 x0.toNatClampNeg).toNatClampNeg = 7 from by show (f 37 x0.toNatClampNeg).toInt.toNat = 7; omega, show x1.toNatClampNeg = 3 from by show x1.toInt.toNat = 3; omega, if_neg (show ¬ x1.toInt = 0 from by omega), if_neg (show ¬ x1.toInt = 1 from by omega), if_neg (show ¬ x1.toInt = 2 from by omega), if_neg (show ¬ (f 37 x0.toNatClampNeg).toInt = 0 from by omega), if_neg (show ¬ (f 37 x0.toNatClampNeg).toInt = 1 from by omega), if_neg (show ¬ (f 37 x0.toNatClampNeg).toInt = 2 from by omega), if_neg (show ¬ (f 37 x0.toNatClampNeg).toInt = 3 from by omega), if_neg (show ¬ (f 37 x0.toNatClampNeg).toInt = 4 from by omega), if_neg (show ¬ (f 37 x0.toNatClampNeg).toInt = 5 from by omega), if_neg (show ¬ (f 37 x0.toNatClampNeg).toInt = 6 from by omega)]; exact acX_7_3 x2 _ L
set_option maxHeartbeats 4000000 in
set_option maxRecDepth 100000 in
theorem acM_act (x0 x1 x2 : Int32) (f : sg_F) (L : sg_L) (hb : 0 ≤ (f 0 45).toInt ∧ (f 0 45).toInt ≤ 50) (hk : 0 ≤ (f 20 x0.toNatClampNeg).toInt ∧ (f 20 x0.toNatClampNeg).toInt ≤ 7) : (0 ≤ x0.toInt ∧ x0.toInt < (f 0 45).toInt ∧ 0 ≤ x1.toInt ∧ x1.toInt ≤ 3 ∧ acO 0 48 21 (f 20 x0.toNatClampNeg).toNatClampNeg x1.toNatClampNeg x2 x0 (sX12_act x0 x1 x2 f L)) ∨ (¬ (0 ≤ x0.toInt ∧ x0.toInt < (f 0 45).toInt ∧ 0 ≤ x1.toInt ∧ x1.toInt ≤ 3) ∧ (sX12_act x0 x1 x2 f L).1 = 0 ∧ ((sX12_act x0 x1 x2 f L).2 0 48).toInt = 0) := by
  have e1 : (sg_up f 0 (sgu (f 0) 48 0)) 0 45 = f 0 45 := by rw [sg_up_s, sgu_n (by decide)]
  have e2 : (sg_up f 0 (sgu (f 0) 48 0)) 20 = f 20 := sg_up_n (by decide)
  unfold sX12_act; (repeat first | rw [spl_d] | rw [spl2_d])
  rw [pM_isBody _ _ _ (by rw [e1]; exact hb), e1, e2]
  by_cases c1 : 0 ≤ x0.toInt ∧ x0.toInt < (f 0 45).toInt
  case neg => rw [if_neg c1, if_neg zk0]; exact Or.inr ⟨by omega, rfl, by show (0 : Int32).toInt = 0; decide⟩
  rw [if_pos c1, if_pos rfl]
  by_cases c4 : 0 ≤ x1.toInt ∧ x1.toInt ≤ 3
  case neg => rw [if_neg (show ¬ x1.toInt = 0 from by omega), if_neg (show ¬ x1.toInt = 1 from by omega), if_neg (show ¬ x1.toInt = 2 from by omega), if_neg (show ¬ x1.toInt = 3 from by omega)]; exact Or.inr ⟨by omega, rfl, by show (0 : Int32).toInt = 0; decide⟩
  refine Or.inl ⟨c1.1, c1.2, by omega, by omega, ?_⟩
  rcases (show x1.toInt = 0 ∨ x1.toInt = 1 ∨ x1.toInt = 2 ∨ x1.toInt = 3 from by omega) with w | w | w | w <;> rcases (show (f 20 x0.toNatClampNeg).toInt = 0 ∨ (f 20 x0.toNatClampNeg).toInt = 1 ∨ (f 20 x0.toNatClampNeg).toInt = 2 ∨ (f 20 x0.toNatClampNeg).toInt = 3 ∨ (f 20 x0.toNatClampNeg).toInt = 4 ∨ (f 20 x0.toNatClampNeg).toInt = 5 ∨ (f 20 x0.toNatClampNeg).toInt = 6 ∨ (f 20 x0.toNatClampNeg).toInt = 7 from by omega) with k | k | k | k | k | k | k | k
  · rw [show (f 20 x0.toNatClampNeg).toNatClampNeg = 0 from by show (f 20 x0.toNatClampNeg).toInt.toNat = 0; omega, show x1.toNatClampNeg = 0 from by show x1.toInt.toNat = 0; omega, if_pos w, if_pos k]; exact acM_0_0 x2 _ L
  · rw [show (f 20 x0.toNatClampNeg).toNatClampNeg = 1 from by show (f 20 x0.toNatClampNeg).toInt.toNat = 1; omega, show x1.toNatClampNeg = 0 from by show x1.toInt.toNat = 0; omega, if_pos w, if_neg (show ¬ (f 20 x0.toNatClampNeg).toInt = 0 from by omega), if_pos k]; exact acM_1_0 x2 _ L
  · rw [show (f 20 x0.toNatClampNeg).toNatClampNeg = 2 from by show (f 20 x0.toNatClampNeg).toInt.toNat = 2; omega, show x1.toNatClampNeg = 0 from by show x1.toInt.toNat = 0; omega, if_pos w, if_neg (show ¬ (f 20 x0.toNatClampNeg).toInt = 0 from by omega), if_neg (show ¬ (f 20 x0.toNatClampNeg).toInt = 1 from by omega), if_pos k]; exact acM_2_0 x2 _ L
  · rw [show (f 20 x0.toNatClampNeg).toNatClampNeg = 3 from by show (f 20 x0.toNatClampNeg).toInt.toNat = 3; omega, show x1.toNatClampNeg = 0 from by show x1.toInt.toNat = 0; omega, if_pos w, if_neg (show ¬ (f 20 x0.toNatClampNeg).toInt = 0 from by omega), if_neg (show ¬ (f 20 x0.toNatClampNeg).toInt = 1 from by omega), if_neg (show ¬ (f 20 x0.toNatClampNeg).toInt = 2 from by omega), if_pos k]; exact acM_3_0 x2 _ L
  · rw [show (f 20 x0.toNatClampNeg).toNatClampNeg = 4 from by show (f 20 x0.toNatClampNeg).toInt.toNat = 4; omega, show x1.toNatClampNeg = 0 from by show x1.toInt.toNat = 0; omega, if_pos w, if_neg (show ¬ (f 20 x0.toNatClampNeg).toInt = 0 from by omega), if_neg (show ¬ (f 20 x0.toNatClampNeg).toInt = 1 from by omega), if_neg (show ¬ (f 20 x0.toNatClampNeg).toInt = 2 from by omega), if_neg (show ¬ (f 20 x0.toNatClampNeg).toInt = 3 from by omega), if_pos k]; exact acM_4_0 x2 _ L
  · rw [show (f 20 x0.toNatClampNeg).toNatClampNeg = 5 from by show (f 20 x0.toNatClampNeg).toInt.toNat = 5; omega, show x1.toNatClampNeg = 0 from by show x1.toInt.toNat = 0; omega, if_pos w, if_neg (show ¬ (f 20 x0.toNatClampNeg).toInt = 0 from by omega), if_neg (show ¬ (f 20 x0.toNatClampNeg).toInt = 1 from by omega), if_neg (show ¬ (f 20 x0.toNatClampNeg).toInt = 2 from by omega), if_neg (show ¬ (f 20 x0.toNatClampNeg).toInt = 3 from by omega), if_neg (show ¬ (f 20 x0.toNatClampNeg).toInt = 4 from by omega), if_pos k]; exact acM_5_0 x2 _ L
  · rw [show (f 20 x0.toNatClampNeg).toNatClampNeg = 6 from by show (f 20 x0.toNatClampNeg).toInt.toNat = 6; omega, show x1.toNatClampNeg = 0 from by show x1.toInt.toNat = 0; omega, if_pos w, if_neg (show ¬ (f 20 x0.toNatClampNeg).toInt = 0 from by omega), if_neg (show ¬ (f 20 x0.toNatClampNeg).toInt = 1 from by omega), if_neg (show ¬ (f 20 x0.toNatClampNeg).toInt = 2 from by omega), if_neg (show ¬ (f 20 x0.toNatClampNeg).toInt = 3 from by omega), if_neg (show ¬ (f 20 x0.toNatClampNeg).toInt = 4 from by omega), if_neg (show ¬ (f 20 x0.toNatClampNeg).toInt = 5 from by omega), if_pos k]; exact acM_6_0 x2 _ L
  · rw [show (f 20 x0.toNatClampNeg).toNatClampNeg = 7 from by show (f 20 x0.toNatClampNeg).toInt.toNat = 7; omega, show x1.toNatClampNeg = 0 from by show x1.toInt.toNat = 0; omega, if_pos w, if_neg (show ¬ (f 20 x0.toNatClampNeg).toInt = 0 from by omega), if_neg (show ¬ (f 20 x0.toNatClampNeg).toInt = 1 from by omega), if_neg (show ¬ (f 20 x0.toNatClampNeg).toInt = 2 from by omega), if_neg (show ¬ (f 20 x0.toNatClampNeg).toInt = 3 from by omega), if_neg (show ¬ (f 20 x0.toNatClampNeg).toInt = 4 from by omega), if_neg (show ¬ (f 20 x0.toNatClampNeg).toInt = 5 from by omega), if_neg (show ¬ (f 20 x0.toNatClampNeg).toInt = 6 from by omega)]; exact acM_7_0 x2 _ L
  · rw [show (f 20 x0.toNatClampNeg).toNatClampNeg = 0 from by show (f 20 x0.toNatClampNeg).toInt.toNat = 0; omega, show x1.toNatClampNeg = 1 from by show x1.toInt.toNat = 1; omega, if_neg (show ¬ x1.toInt = 0 from by omega), if_pos w, if_pos k]; exact acM_0_1 x2 _ L
  · rw [show (f 20 x0.toNatClampNeg).toNatClampNeg = 1 from by show (f 20 x0.toNatClampNeg).toInt.toNat = 1; omega, show x1.toNatClampNeg = 1 from by show x1.toInt.toNat = 1; omega, if_neg (show ¬ x1.toInt = 0 from by omega), if_pos w, if_neg (show ¬ (f 20 x0.toNatClampNeg).toInt = 0 from by omega), if_pos k]; exact acM_1_1 x2 _ L
  · rw [show (f 20 x0.toNatClampNeg).toNatClampNeg = 2 from by show (f 20 x0.toNatClampNeg).toInt.toNat = 2; omega, show x1.toNatClampNeg = 1 from by show x1.toInt.toNat = 1; omega, if_neg (show ¬ x1.toInt = 0 from by omega), if_pos w, if_neg (show ¬ (f 20 x0.toNatClampNeg).toInt = 0 from by omega), if_neg (show ¬ (f 20 x0.toNatClampNeg).toInt = 1 from by omega), if_pos k]; exact acM_2_1 x2 _ L
  · rw [show (f 20 x0.toNatClampNeg).toNatClampNeg = 3 from by show (f 20 x0.toNatClampNeg).toInt.toNat = 3; omega, show x1.toNatClampNeg = 1 from by show x1.toInt.toNat = 1; omega, if_neg (show ¬ x1.toInt = 0 from by omega), if_pos w, if_neg (show ¬ (f 20 x0.toNatClampNeg).toInt = 0 from by omega), if_neg (show ¬ (f 20 x0.toNatClampNeg).toInt = 1 from by omega), if_neg (show ¬ (f 20 x0.toNatClampNeg).toInt = 2 from by omega), if_pos k]; exact acM_3_1 x2 _ L
  · rw [show (f 20 x0.toNatClampNeg).toNatClampNeg = 4 from by show (f 20 x0.toNatClampNeg).toInt.toNat = 4; omega, show x1.toNatClampNeg = 1 from by show x1.toInt.toNat = 1; omega, if_neg (show ¬ x1.toInt = 0 from by omega), if_pos w, if_neg (show ¬ (f 20 x0.toNatClampNeg).toInt = 0 from by omega), if_neg (show ¬ (f 20 x0.toNatClampNeg).toInt = 1 from by omega), if_neg (show ¬ (f 20 x0.toNatClampNeg).toInt = 2 from by omega), if_neg (show ¬ (f 20 x0.toNatClampNeg).toInt = 3 from by omega), if_pos k]; exact acM_4_1 x2 _ L
  · rw [show (f 20 x0.toNatClampNeg).toNatClampNeg = 5 from by show (f 20 x0.toNatClampNeg).toInt.toNat = 5; omega, show x1.toNatClampNeg = 1 from by show x1.toInt.toNat = 1; omega, if_neg (show ¬ x1.toInt = 0 from by omega), if_pos w, if_neg (show ¬ (f 20 x0.toNatClampNeg).toInt = 0 from by omega), if_neg (show ¬ (f 20 x0.toNatClampNeg).toInt = 1 from by omega), if_neg (show ¬ (f 20 x0.toNatClampNeg).toInt = 2 from by omega), if_neg (show ¬ (f 20 x0.toNatClampNeg).toInt = 3 from by omega), if_neg (show ¬ (f 20 x0.toNatClampNeg).toInt = 4 from by omega), if_pos k]; exact acM_5_1 x2 _ L
  · rw [show (f 20 x0.toNatClampNeg).toNatClampNeg = 6 from by show (f 20 x0.toNatClampNeg).toInt.toNat = 6; omega, show x1.toNatClampNeg = 1 from by show x1.toInt.toNat = 1; omega, if_neg (show ¬ x1.toInt = 0 from by omega), if_pos w, if_neg (show ¬ (f 20 x0.toNatClampNeg).toInt = 0 from by omega), if_neg (show ¬ (f 20 x0.toNatClampNeg).toInt = 1 from by omega), if_neg (show ¬ (f 20 x0.toNatClampNeg).toInt = 2 from by omega), if_neg (show ¬ (f 20 x0.toNatClampNeg).toInt = 3 from by omega), if_neg (show ¬ (f 20 x0.toNatClampNeg).toInt = 4 from by omega), if_neg (show ¬ (f 20 x0.toNatClampNeg).toInt = 5 from by omega), if_pos k]; exact acM_6_1 x2 _ L
  · rw [show (f 20 x0.toNatClampNeg).toNatClampNeg = 7 from by show (f 20 x0.toNatClampNeg).toInt.toNat = 7; omega, show x1.toNatClampNeg = 1 from by show x1.toInt.toNat = 1; omega, if_neg (show ¬ x1.toInt = 0 from by omega), if_pos w, if_neg (show ¬ (f 20 x0.toNatClampNeg).toInt = 0 from by omega), if_neg (show ¬ (f 20 x0.toNatClampNeg).toInt = 1 from by omega), if_neg (show ¬ (f 20 x0.toNatClampNeg).toInt = 2 from by omega), if_neg (show ¬ (f 20 x0.toNatClampNeg).toInt = 3 from by omega), if_neg (show ¬ (f 20 x0.toNatClampNeg).toInt = 4 from by omega), if_neg (show ¬ (f 20 x0.toNatClampNeg).toInt = 5 from by omega), if_neg (show ¬ (f 20 x0.toNatClampNeg).toInt = 6 from by omega)]; exact acM_7_1 x2 _ L
  · rw [show (f 20 x0.toNatClampNeg).toNatClampNeg = 0 from by show (f 20 x0.toNatClampNeg).toInt.toNat = 0; omega, show x1.toNatClampNeg = 2 from by show x1.toInt.toNat = 2; omega, if_neg (show ¬ x1.toInt = 0 from by omega), if_neg (show ¬ x1.toInt = 1 from by omega), if_pos w, if_pos k]; exact acM_0_2 x2 _ L
  · rw [show (f 20 x0.toNatClampNeg).toNatClampNeg = 1 from by show (f 20 x0.toNatClampNeg).toInt.toNat = 1; omega, show x1.toNatClampNeg = 2 from by show x1.toInt.toNat = 2; omega, if_neg (show ¬ x1.toInt = 0 from by omega), if_neg (show ¬ x1.toInt = 1 from by omega), if_pos w, if_neg (show ¬ (f 20 x0.toNatClampNeg).toInt = 0 from by omega), if_pos k]; exact acM_1_2 x2 _ L
  · rw [show (f 20 x0.toNatClampNeg).toNatClampNeg = 2 from by show (f 20 x0.toNatClampNeg).toInt.toNat = 2; omega, show x1.toNatClampNeg = 2 from by show x1.toInt.toNat = 2; omega, if_neg (show ¬ x1.toInt = 0 from by omega), if_neg (show ¬ x1.toInt = 1 from by omega), if_pos w, if_neg (show ¬ (f 20 x0.toNatClampNeg).toInt = 0 from by omega), if_neg (show ¬ (f 20 x0.toNatClampNeg).toInt = 1 from by omega), if_pos k]; exact acM_2_2 x2 _ L
  · rw [show (f 20 x0.toNatClampNeg).toNatClampNeg = 3 from by show (f 20 x0.toNatClampNeg).toInt.toNat = 3; omega, show x1.toNatClampNeg = 2 from by show x1.toInt.toNat = 2; omega, if_neg (show ¬ x1.toInt = 0 from by omega), if_neg (show ¬ x1.toInt = 1 from by omega), if_pos w, if_neg (show ¬ (f 20 x0.toNatClampNeg).toInt = 0 from by omega), if_neg (show ¬ (f 20 x0.toNatClampNeg).toInt = 1 from by omega), if_neg (show ¬ (f 20 x0.toNatClampNeg).toInt = 2 from by omega), if_pos k]; exact acM_3_2 x2 _ L
  · rw [show (f 20 x0.toNatClampNeg).toNatClampNeg = 4 from by show (f 20 x0.toNatClampNeg).toInt.toNat = 4; omega, show x1.toNatClampNeg = 2 from by show x1.toInt.toNat = 2; omega, if_neg (show ¬ x1.toInt = 0 from by omega), if_neg (show ¬ x1.toInt = 1 from by omega), if_pos w, if_neg (show ¬ (f 20 x0.toNatClampNeg).toInt = 0 from by omega), if_neg (show ¬ (f 20 x0.toNatClampNeg).toInt = 1 from by omega), if_neg (show ¬ (f 20 x0.toNatClampNeg).toInt = 2 from by omega), if_neg (show ¬ (f 20 x0.toNatClampNeg).toInt = 3 from by omega), if_pos k]; exact acM_4_2 x2 _ L
  · rw [show (f 20 x0.toNatClampNeg).toNatClampNeg = 5 from by show (f 20 x0.toNatClampNeg).toInt.toNat = 5; omega, show x1.toNatClampNeg = 2 from by show x1.toInt.toNat = 2; omega, if_neg (show ¬ x1.toInt = 0 from by omega), if_neg (show ¬ x1.toInt = 1 from by omega), if_pos w, if_neg (show ¬ (f 20 x0.toNatClampNeg).toInt = 0 from by omega), if_neg (show ¬ (f 20 x0.toNatClampNeg).toInt = 1 from by omega), if_neg (show ¬ (f 20 x0.toNatClampNeg).toInt = 2 from by omega), if_neg (show ¬ (f 20 x0.toNatClampNeg).toInt = 3 from by omega), if_neg (show ¬ (f 20 x0.toNatClampNeg).toInt = 4 from by omega), if_pos k]; exact acM_5_2 x2 _ L
  · rw [show (f 20 x0.toNatClampNeg).toNatClampNeg = 6 from by show (f 20 x0.toNatClampNeg).toInt.toNat = 6; omega, show x1.toNatClampNeg = 2 from by show x1.toInt.toNat = 2; omega, if_neg (show ¬ x1.toInt = 0 from by omega), if_neg (show ¬ x1.toInt = 1 from by omega), if_pos w, if_neg (show ¬ (f 20 x0.toNatClampNeg).toInt = 0 from by omega), if_neg (show ¬ (f 20 x0.toNatClampNeg).toInt = 1 from by omega), if_neg (show ¬ (f 20 x0.toNatClampNeg).toInt = 2 from by omega), if_neg (show ¬ (f 20 x0.toNatClampNeg).toInt = 3 from by omega), if_neg (show ¬ (f 20 x0.toNatClampNeg).toInt = 4 from by omega), if_neg (show ¬ (f 20 x0.toNatClampNeg).toInt = 5 from by omega), if_pos k]; exact acM_6_2 x2 _ L
  · rw [show (f 20 x0.toNatClampNeg).toNatClampNeg = 7 from by show (f 20 x0.toNatClampNeg).toInt.toNat = 7; omega, show x1.toNatClampNeg = 2 from by show x1.toInt.toNat = 2; omega, if_neg (show ¬ x1.toInt = 0 from by omega), if_neg (show ¬ x1.toInt = 1 from by omega), if_pos w, if_neg (show ¬ (f 20 x0.toNatClampNeg).toInt = 0 from by omega), if_neg (show ¬ (f 20 x0.toNatClampNeg).toInt = 1 from by omega), if_neg (show ¬ (f 20 x0.toNatClampNeg).toInt = 2 from by omega), if_neg (show ¬ (f 20 x0.toNatClampNeg).toInt = 3 from by omega), if_neg (show ¬ (f 20 x0.toNatClampNeg).toInt = 4 from by omega), if_neg (show ¬ (f 20 x0.toNatClampNeg).toInt = 5 from by omega), if_neg (show ¬ (f 20 x0.toNatClampNeg).toInt = 6 from by omega)]; exact acM_7_2 x2 _ L
  · rw [show (f 20 x0.toNatClampNeg).toNatClampNeg = 0 from by show (f 20 x0.toNatClampNeg).toInt.toNat = 0; omega, show x1.toNatClampNeg = 3 from by show x1.toInt.toNat = 3; omega, if_neg (show ¬ x1.toInt = 0 from by omega), if_neg (show ¬ x1.toInt = 1 from by omega), if_neg (show ¬ x1.toInt = 2 from by omega), if_pos w, if_pos k]; exact acM_0_3 x2 _ L
  · rw [show (f 20 x0.toNatClampNeg).toNatClampNeg = 1 from by show (f 20 x0.toNatClampNeg).toInt.toNat = 1; omega, show x1.toNatClampNeg = 3 from by show x1.toInt.toNat = 3; omega, if_neg (show ¬ x1.toInt = 0 from by omega), if_neg (show ¬ x1.toInt = 1 from by omega), if_neg (show ¬ x1.toInt = 2 from by omega), if_pos w, if_neg (show ¬ (f 20 x0.toNatClampNeg).toInt = 0 from by omega), if_pos k]; exact acM_1_3 x2 _ L
  · rw [show (f 20 x0.toNatClampNeg).toNatClampNeg = 2 from by show (f 20 x0.toNatClampNeg).toInt.toNat = 2; omega, show x1.toNatClampNeg = 3 from by show x1.toInt.toNat = 3; omega, if_neg (show ¬ x1.toInt = 0 from by omega), if_neg (show ¬ x1.toInt = 1 from by omega), if_neg (show ¬ x1.toInt = 2 from by omega), if_pos w, if_neg (show ¬ (f 20 x0.toNatClampNeg).toInt = 0 from by omega), if_neg (show ¬ (f 20 x0.toNatClampNeg).toInt = 1 from by omega), if_pos k]; exact acM_2_3 x2 _ L
  · rw [show (f 20 x0.toNatClampNeg).toNatClampNeg = 3 from by show (f 20 x0.toNatClampNeg).toInt.toNat = 3; omega, show x1.toNatClampNeg = 3 from by show x1.toInt.toNat = 3; omega, if_neg (show ¬ x1.toInt = 0 from by omega), if_neg (show ¬ x1.toInt = 1 from by omega), if_neg (show ¬ x1.toInt = 2 from by omega), if_pos w, if_neg (show ¬ (f 20 x0.toNatClampNeg).toInt = 0 from by omega), if_neg (show ¬ (f 20 x0.toNatClampNeg).toInt = 1 from by omega), if_neg (show ¬ (f 20 x0.toNatClampNeg).toInt = 2 from by omega), if_pos k]; exact acM_3_3 x2 _ L
  · rw [show (f 20 x0.toNatClampNeg).toNatClampNeg = 4 from by show (f 20 x0.toNatClampNeg).toInt.toNat = 4; omega, show x1.toNatClampNeg = 3 from by show x1.toInt.toNat = 3; omega, if_neg (show ¬ x1.toInt = 0 from by omega), if_neg (show ¬ x1.toInt = 1 from by omega), if_neg (show ¬ x1.toInt = 2 from by omega), if_pos w, if_neg (show ¬ (f 20 x0.toNatClampNeg).toInt = 0 from by omega), if_neg (show ¬ (f 20 x0.toNatClampNeg).toInt = 1 from by omega), if_neg (show ¬ (f 20 x0.toNatClampNeg).toInt = 2 from by omega), if_neg (show ¬ (f 20 x0.toNatClampNeg).toInt = 3 from by omega), if_pos k]; exact acM_4_3 x2 _ L
  · rw [show (f 20 x0.toNatClampNeg).toNatClampNeg = 5 from by show (f 20 x0.toNatClampNeg).toInt.toNat = 5; omega, show x1.toNatClampNeg = 3 from by show x1.toInt.toNat = 3; omega, if_neg (show ¬ x1.toInt = 0 from by omega), if_neg (show ¬ x1.toInt = 1 from by omega), if_neg (show ¬ x1.toInt = 2 from by omega), if_pos w, if_neg (show ¬ (f 20 x0.toNatClampNeg).toInt = 0 from by omega), if_neg (show ¬ (f 20 x0.toNatClampNeg).toInt = 1 from by omega), if_neg (show ¬ (f 20 x0.toNatClampNeg).toInt = 2 from by omega), if_neg (show ¬ (f 20 x0.toNatClampNeg).toInt = 3 from by omega), if_neg (show ¬ (f 20 x0.toNatClampNeg).toInt = 4 from by omega), if_pos k]; exact acM_5_3 x2 _ L
  · rw [show (f 20 x0.toNatClampNeg).toNatClampNeg = 6 from by show (f 20 x0.toNatClampNeg).toInt.toNat = 6; omega, show x1.toNatClampNeg = 3 from by show x1.toInt.toNat = 3; omega, if_neg (show ¬ x1.toInt = 0 from by omega), if_neg (show ¬ x1.toInt = 1 from by omega), if_neg (show ¬ x1.toInt = 2 from by omega), if_pos w, if_neg (show ¬ (f 20 x0.toNatClampNeg).toInt = 0 from by omega), if_neg (show ¬ (f 20 x0.toNatClampNeg).toInt = 1 from by omega), if_neg (show ¬ (f 20 x0.toNatClampNeg).toInt = 2 from by omega), if_neg (show ¬ (f 20 x0.toNatClampNeg).toInt = 3 from by omega), if_neg (show ¬ (f 20 x0.toNatClampNeg).toInt = 4 from by omega), if_neg (show ¬ (f 20 x0.toNatClampNeg).toInt = 5 from by omega), if_pos k]; exact acM_6_3 x2 _ L
  · rw [show (f 20 x0.toNatClampNeg).toNatClampNeg = 7 from by show (f 20 x0.toNatClampNeg).toInt.toNat = 7; omega, show x1.toNatClampNeg = 3 from by show x1.toInt.toNat = 3; omega, if_neg (show ¬ x1.toInt = 0 from by omega), if_neg (show ¬ x1.toInt = 1 from by omega), if_neg (show ¬ x1.toInt = 2 from by omega), if_pos w, if_neg (show ¬ (f 20 x0.toNatClampNeg).toInt = 0 from by omega), if_neg (show ¬ (f 20 x0.toNatClampNeg).toInt = 1 from by omega), if_neg (show ¬ (f 20 x0.toNatClampNeg).toInt = 2 from by omega), if_neg (show ¬ (f 20 x0.toNatClampNeg).toInt = 3 from by omega), if_neg (show ¬ (f 20 x0.toNatClampNeg).toInt = 4 from by omega), if_neg (show ¬ (f 20 x0.toNatClampNeg).toInt = 5 from by omega), if_neg (show ¬ (f 20 x0.toNatClampNeg).toInt = 6 from by omega)]; exact acM_7_3 x2 _ L

/-- the desks of both are the same -/
def rDesk (fX fM : sg_F) : Prop := (fX 36 2).toInt = (fM 0 45).toInt ∧ ∀ i : Nat, (i : Int) < (fX 36 2).toInt → fX 37 i = fM 20 i
theorem rDesk.zero : rDesk f0X f0M := ⟨by decide, fun i h => absurd h (by rw [show ((f0X 36 2).toInt) = 0 from by decide]; omega)⟩
theorem rDesk.fr {fX fX1 fM fM1 : sg_F} (h : rDesk fX fM) (a : fX1 36 2 = fX 36 2) (b : ∀ j : Nat, fX1 37 j = fX 37 j) (c : fM1 0 45 = fM 0 45) (d : ∀ j : Nat, fM1 20 j = fM 20 j) : rDesk fX1 fM1 := by
  refine ⟨by rw [a, c]; exact h.1, fun i hi => ?_⟩
  rw [b, d]
  rw [a] at hi
  exact h.2 i hi
theorem bX_body (x : Int32) (f : sg_F) (L : sg_L) : sX11_body x f L = if 0 ≤ x.toInt ∧ x.toInt ≤ 7 then (if (f 36 2).toInt < 50 then (f 36 2 + 1 - 1, sg_up (sg_up f 37 (sgu (f 37) (f 36 2).toNatClampNeg x)) 36 (sgu (f 36) 2 (f 36 2 + 1))) else (-3, f)) else (-1, f) := by
  unfold sX11_body; (repeat first | rw [spl_d] | rw [spl2_d])
  rw [pX_isKind]
  by_cases h : 0 ≤ x.toInt ∧ x.toInt ≤ 7
  · rw [if_pos h, if_pos h, if_pos rfl]
    show sX3_comes x f L = _
    unfold sX3_comes; (repeat first | rw [spl_d] | rw [spl2_d])
    by_cases g : (f 36 2).toInt < 50
    · rw [if_pos g, if_pos g, sg_up_n (by decide)]
    · rw [if_neg g, if_neg g]
  · rw [if_neg h, if_neg h, if_neg zk0]
theorem bM_body (x : Int32) (f : sg_F) (L : sg_L) (hb : (f 0 45).toInt ≤ 50) : sX12_body x f L = if 0 ≤ x.toInt ∧ x.toInt ≤ 7 then (if (f 0 45).toInt < 50 then (f 0 45 + 1 - 1, sg_up (sg_up f 20 (sgu (f 20) (f 0 45).toNatClampNeg x)) 0 (sgu (f 0) 45 (f 0 45 + 1))) else (-3, f)) else (-1, f) := by
  have k0 : (0 : Int64).toInt = 0 := by decide
  have k7 : (7 : Int64).toInt = 7 := by decide
  have e := Int32.toInt_toInt64 x
  unfold sX12_body; (repeat first | rw [spl_d] | rw [spl2_d])
  rw [pM_within, k0, k7, e]
  by_cases h : 0 ≤ x.toInt ∧ x.toInt ≤ 7
  · rw [if_pos h, if_pos h, if_pos rfl]
    by_cases g : (f 0 45).toInt < 50
    · rw [if_pos g, if_neg (show ¬ (f 0 45).toInt = 50 from by omega), sg_up_n (by decide)]
    · rw [if_neg g, if_pos (show (f 0 45).toInt = 50 from by omega)]
  · rw [if_neg h, if_neg h, if_neg zk0]
theorem rDesk.body {fX fX1 fM fM1 : sg_F} {LX LM : sg_L} {x r1 r2 : Int32} (h : rDesk fX fM) (hp : 0 ≤ (fX 36 2).toInt ∧ (fX 36 2).toInt ≤ 50) (e1 : (r1, fX1) = sX11_body x fX LX) (e2 : (r2, fM1) = sX12_body x fM LM) : r1 = r2 ∧ rDesk fX1 fM1 ∧ (fX 36 2).toInt ≤ (fX1 36 2).toInt := by
  have h1 := h.1
  rw [bX_body] at e1
  rw [bM_body _ _ _ (by omega)] at e2
  by_cases q : 0 ≤ x.toInt ∧ x.toInt ≤ 7
  · rw [if_pos q] at e1 e2
    by_cases g : (fX 36 2).toInt < 50
    · rw [if_pos g] at e1
      rw [if_pos (by rw [← h1]; exact g)] at e2
      obtain ⟨rfl, rfl⟩ := Prod.mk.inj e1
      obtain ⟨rfl, rfl⟩ := Prod.mk.inj e2
      have e : fX 36 2 = fM 0 45 := Int32.toInt_inj.mp h1
      have k1 : (1 : Int32).toInt = 1 := by decide
      have ea : (fX 36 2 + 1).toInt = (fX 36 2).toInt + 1 := (bn_addI (by omega) (by omega)).trans (by omega)
      refine ⟨by rw [e], ⟨?_, fun i hi => ?_⟩, ?_⟩
      · rw [sg_up_s, sg_up_s, sgu_s, sgu_s, e]
      · rw [sg_up_n (by decide), sg_up_n (by decide), sg_up_s, sg_up_s, ← e]
        rw [sg_up_s, sgu_s] at hi
        by_cases z : i = (fX 36 2).toNatClampNeg
        · rw [z, sgu_s, sgu_s]
        · rw [sgu_n z, sgu_n z]
          have z1 := bn_clI hp.1
          exact h.2 i (by omega)
      · rw [sg_up_s, sgu_s]; omega
    · rw [if_neg g] at e1
      rw [if_neg (by rw [← h1]; exact g)] at e2
      obtain ⟨rfl, rfl⟩ := Prod.mk.inj e1
      obtain ⟨rfl, rfl⟩ := Prod.mk.inj e2
      exact ⟨rfl, h, Int.le_refl _⟩
  · rw [if_neg q] at e1 e2
    obtain ⟨rfl, rfl⟩ := Prod.mk.inj e1
    obtain ⟨rfl, rfl⟩ := Prod.mk.inj e2
    exact ⟨rfl, h, Int.le_refl _⟩
/-- the traces of both are the same -/
def rTrace (fX fM : sg_F) : Prop := (fX 36 3).toInt = (fM 0 48).toInt ∧ ∀ i : Nat, (i : Int) < (fX 36 3).toInt → fX 38 i = fM 21 i
theorem rTrace.zero : rTrace f0X f0M := ⟨by decide, fun i h => absurd h (by rw [show ((f0X 36 3).toInt) = 0 from by decide]; omega)⟩
theorem rTrace.fr {fX fX1 fM fM1 : sg_F} (h : rTrace fX fM) (a : fX1 36 3 = fX 36 3) (b : ∀ j : Nat, fX1 38 j = fX 38 j) (c : fM1 0 48 = fM 0 48) (d : ∀ j : Nat, fM1 21 j = fM 21 j) : rTrace fX1 fM1 := by
  refine ⟨by rw [a, c]; exact h.1, fun i hi => ?_⟩
  rw [b, d]
  rw [a] at hi
  exact h.2 i hi
theorem rDesk.act {fX fX1 fM fM1 : sg_F} {LX LM : sg_L} {b a x r1 r2 : Int32} (h : rDesk fX fM) (hp : 0 ≤ (fX 36 2).toInt ∧ (fX 36 2).toInt ≤ 50) (hX : ∀ j : Nat, 0 ≤ (fX 37 j).toInt ∧ (fX 37 j).toInt ≤ 7) (hM : ∀ j : Nat, 0 ≤ (fM 20 j).toInt ∧ (fM 20 j).toInt ≤ 7) (e1 : (r1, fX1) = sX11_act b a x fX LX) (e2 : (r2, fM1) = sX12_act b a x fM LM) : r1 = r2 ∧ rTrace fX1 fM1 := by
  have e := h.1
  have h1 := acX_act b a x fX LX (hX _)
  have h2 := acM_act b a x fM LM (by omega) (hM _)
  rw [← e1] at h1
  rw [← e2] at h2
  rcases h1 with ⟨q1, q2, q3, q4, q5, q6, q7⟩ | ⟨q, q5, q6⟩ <;> rcases h2 with ⟨g1, g2, g3, g4, g5, g6, g7⟩ | ⟨g, g5, g6⟩
  · rw [← h.2 b.toNatClampNeg (by rw [bn_clI q1]; exact q2)] at g5 g6 g7
    have q5 : r1 = _ := q5
    have g5 : r2 = _ := g5
    have q6 : (fX1 36 3).toInt = _ := q6
    have g6 : (fM1 0 48).toInt = _ := g6
    refine ⟨by rw [q5, g5], by rw [q6, g6], fun i hi => ?_⟩
    rw [q6] at hi
    have hi : i < _ := Int.ofNat_lt.mp hi
    exact (q7 i hi).trans (g7 i hi).symm
  · exact absurd ⟨q1, by omega, q3, q4⟩ g
  · exact absurd ⟨g1, by omega, g3, g4⟩ q
  · have q5 : r1 = _ := q5
    have g5 : r2 = _ := g5
    have q6 : (fX1 36 3).toInt = 0 := q6
    have g6 : (fM1 0 48).toInt = 0 := g6
    exact ⟨by rw [q5, g5], by rw [q6, g6], fun i hi => absurd hi (by omega)⟩
theorem rTrace.same {fX fM : sg_F} {LX LM : sg_L} {x r1 r2 : Int32} (h : rTrace fX fM) (hr : (fX 36 3).toInt ≤ 24) (e1 : r1 = sX11_trace x fX LX) (e2 : r2 = sX12_trace x fM LM) : r1 = r2 := by
  have k : (24 : Int32).toInt = 24 := by decide
  have z := bn_minI (fX 36 3) 24
  unfold sX11_trace at e1; (repeat first | rw [spl_d] at e1 | rw [spl2_d] at e1)
  unfold sX12_trace at e2; (repeat first | rw [spl_d] at e2 | rw [spl2_d] at e2)
  rw [← h.1] at e2
  rw [e1, e2]
  by_cases c : x.toInt < 0
  · rw [if_pos c, if_pos c]
  · rw [if_neg c, if_neg c]
    by_cases d : x.toInt < (fX 36 3).toInt
    · rw [if_pos d, if_pos (by omega)]
      exact h.2 _ (by rw [bn_clI (by omega)]; exact d)
    · rw [if_neg d, if_neg (by omega)]
