/-! the two systems: what each cell is, and what it holds in a fresh object. Laid by a program (wip/tool) -/
abbrev tyX (ca : Nat → ClassId) : List (ClassId × FieldType) := [(ca 0, .int), (ca 1, .long), (ca 2, .boolean), (ca 3, .object "SetAgain$Shelf")]
def eX (ca : Nat → ClassId) (h : Nat → Nat) : sg_E := fun k g l r => match k with
  | 0 => .inr (11, [.ref (h 1), .ref (h 10), .ref (h 13), .ref (h 17), .ref (h 25), .ref (h 27), .ref (h 28), .ref (h 32), .ref (h 36), .ref (h 39)])
  | 1 => .inr (0, [.ref (h 2), .ref (h 3), .ref (h 4), .int (g 3), .ref (h 9)])
  | 2 => .inl (ca 0, 71, .inl g)
  | 3 => .inl (ca 0, 3, .inl g)
  | 4 => .inr (5, [.ref (h 5), .int (g 1), .int (g 2), .ref (h 6), .ref (h 7), .ref (h 8), .int (g 6), .int (g 7), .int (g 8), .int (g 9)])
  | 5 => .inl (ca 0, 120, .inl g)
  | 6 => .inl (ca 0, 121, .inl g)
  | 7 => .inl (ca 0, 121, .inl g)
  | 8 => .inl (ca 0, 122, .inl g)
  | 9 => .inl (ca 0, 1464, .inl g)
  | 10 => .inr (10, [.ref (h 11), .ref (h 12), .int (g 2), .int (g 3)])
  | 11 => .inl (ca 0, 21, .inl g)
  | 12 => .inl (ca 0, 8, .inl g)
  | 13 => .inr (4, [.ref (h 1), .ref (h 10), .ref (h 14), .ref (h 15), .ref (h 16), .int (g 5), .int (g 6), .int (g 7), .int (g 8), .int (g 9), .int (g 10)])
  | 14 => .inl (ca 0, 3, .inl g)
  | 15 => .inl (ca 0, 3, .inl g)
  | 16 => .inl (ca 0, 8, .inl g)
  | 17 => .inr (8, [.ref (h 1), .ref (h 10), .ref (h 18), .ref (h 19), .ref (h 20), .ref (h 21), .ref (h 22), .ref (h 23), .ref (h 24), .int (g 9), .int (g 10), .int (g 11), .int (g 12)])
  | 18 => .inl (ca 0, 61, .inl g)
  | 19 => .inl (ca 2, 61, .inl g)
  | 20 => .inl (ca 0, 8, .inl g)
  | 21 => .inl (ca 0, 256, .inl g)
  | 22 => .inl (ca 0, 256, .inl g)
  | 23 => .inl (ca 0, 3, .inl g)
  | 24 => .inl (ca 0, 3, .inl g)
  | 25 => .inr (9, [.ref (h 1), .ref (h 10), .ref (h 26)])
  | 26 => .inl (ca 0, 1342, .inl g)
  | 27 => .inr (6, [.ref (h 1), va_rf (r 1), .int (g 2)])
  | 28 => .inr (2, [.ref (h 1), .ref (h 13), .ref (h 29), .ref (h 30), .ref (h 31), .int (g 5)])
  | 29 => .inl (ca 0, 5, .inl g)
  | 30 => .inl (ca 0, 5, .inl g)
  | 31 => .inl (ca 0, 3, .inl g)
  | 32 => .inr (1, [.ref (h 33), .ref (h 34), .ref (h 35), .int (g 3), .int (g 4)])
  | 33 => .inl (ca 0, 40, .inl g)
  | 34 => .inl (ca 0, 40, .inl g)
  | 35 => .inl (ca 0, 40, .inl g)
  | 36 => .inr (3, [.ref (h 37), .ref (h 38), .int (g 2), .int (g 3), .int (g 4), .int (g 5)])
  | 37 => .inl (ca 0, 50, .inl g)
  | 38 => .inl (ca 0, 24, .inl g)
  | 39 => .inl (ca 3, 6, .inr (.inr (.inr (.inr (fun i => if i < 6 then some (h (40 + 2 * i)) else none)))))
  | 40 => .inr (7, [.ref (h 41), .int (g 1), .int (g 2), .int (g 3)])
  | 41 => .inl (ca 1, 60, .inr (.inl l))
  | 42 => .inr (7, [.ref (h 43), .int (g 1), .int (g 2), .int (g 3)])
  | 43 => .inl (ca 1, 60, .inr (.inl l))
  | 44 => .inr (7, [.ref (h 45), .int (g 1), .int (g 2), .int (g 3)])
  | 45 => .inl (ca 1, 60, .inr (.inl l))
  | 46 => .inr (7, [.ref (h 47), .int (g 1), .int (g 2), .int (g 3)])
  | 47 => .inl (ca 1, 60, .inr (.inl l))
  | 48 => .inr (7, [.ref (h 49), .int (g 1), .int (g 2), .int (g 3)])
  | 49 => .inl (ca 1, 60, .inr (.inl l))
  | 50 => .inr (7, [.ref (h 51), .int (g 1), .int (g 2), .int (g 3)])
  | 51 => .inl (ca 1, 60, .inr (.inl l))
  | _ => .inr (0, [])
def eM (ca : Nat → ClassId) (h : Nat → Nat) : sg_E := fun k g l r => match k with
  | 0 => .inr (12, [.ref (h 1), .ref (h 2), .ref (h 3), .ref (h 4), .int (g 4), .int (g 5), .int (g 6), .ref (h 5), .ref (h 6), .int (g 9), .ref (h 7), .int (g 11), .int (g 12), .int (g 13), .int (g 14), .int (g 15), .int (g 16), .ref (h 8), .ref (h 9), .ref (h 10), .int (g 20), .int (g 21), .int (g 22), .int (g 23), .int (g 24), .int (g 25), .ref (h 11), .ref (h 12), .ref (h 13), .int (g 29), .int (g 30), .int (g 31), .ref (h 14), .ref (h 15), .ref (h 16), .int (g 35), .ref (h 17), .ref (h 18), .int (g 38), .int (g 39), .int (g 40), .int (g 41), .int (g 42), .int (g 43), .ref (h 19), .int (g 45), .ref (h 20), .ref (h 21), .int (g 48), .int (g 49), .int (g 50), .ref (h 22), .ref (h 23), .ref (h 24), .ref (h 25)])
  | 1 => .inl (ca 0, 71, .inl g)
  | 2 => .inl (ca 0, 40, .inl g)
  | 3 => .inl (ca 0, 40, .inl g)
  | 4 => .inl (ca 0, 40, .inl g)
  | 5 => .inl (ca 0, 3, .inl g)
  | 6 => .inl (ca 0, 120, .inl g)
  | 7 => .inl (ca 0, 120, .inl g)
  | 8 => .inl (ca 0, 6, .inl g)
  | 9 => .inl (ca 0, 1281, .inl g)
  | 10 => .inl (ca 0, 1342, .inl g)
  | 11 => .inl (ca 2, 21, .inl g)
  | 12 => .inl (ca 0, 3, .inl g)
  | 13 => .inl (ca 0, 66, .inl g)
  | 14 => .inl (ca 0, 488, .inl g)
  | 15 => .inl (ca 0, 8, .inl g)
  | 16 => .inl (ca 0, 8, .inl g)
  | 17 => .inl (ca 2, 793, .inl g)
  | 18 => .inl (ca 2, 793, .inl g)
  | 19 => .inl (ca 0, 8, .inl g)
  | 20 => .inl (ca 0, 50, .inl g)
  | 21 => .inl (ca 0, 24, .inl g)
  | 22 => .inl (ca 0, 6, .inl g)
  | 23 => .inl (ca 0, 6, .inl g)
  | 24 => .inl (ca 1, 360, .inr (.inl l))
  | 25 => .inl (ca 1, 60, .inr (.inl l))
  | _ => .inr (0, [])
/-- the same while it is made: references are in the row of references -/
def eXc (ca : Nat → ClassId) : sg_E := fun k g l r => match k with
  | 0 => .inr (11, [va_rf (r 0), va_rf (r 1), va_rf (r 2), va_rf (r 3), va_rf (r 4), va_rf (r 5), va_rf (r 6), va_rf (r 7), va_rf (r 8), va_rf (r 9)])
  | 1 => .inr (0, [va_rf (r 0), va_rf (r 1), va_rf (r 2), .int (g 3), va_rf (r 4)])
  | 2 => .inl (ca 0, 71, .inl g)
  | 3 => .inl (ca 0, 3, .inl g)
  | 4 => .inr (5, [va_rf (r 0), .int (g 1), .int (g 2), va_rf (r 3), va_rf (r 4), va_rf (r 5), .int (g 6), .int (g 7), .int (g 8), .int (g 9)])
  | 5 => .inl (ca 0, 120, .inl g)
  | 6 => .inl (ca 0, 121, .inl g)
  | 7 => .inl (ca 0, 121, .inl g)
  | 8 => .inl (ca 0, 122, .inl g)
  | 9 => .inl (ca 0, 1464, .inl g)
  | 10 => .inr (10, [va_rf (r 0), va_rf (r 1), .int (g 2), .int (g 3)])
  | 11 => .inl (ca 0, 21, .inl g)
  | 12 => .inl (ca 0, 8, .inl g)
  | 13 => .inr (4, [va_rf (r 0), va_rf (r 1), va_rf (r 2), va_rf (r 3), va_rf (r 4), .int (g 5), .int (g 6), .int (g 7), .int (g 8), .int (g 9), .int (g 10)])
  | 14 => .inl (ca 0, 3, .inl g)
  | 15 => .inl (ca 0, 3, .inl g)
  | 16 => .inl (ca 0, 8, .inl g)
  | 17 => .inr (8, [va_rf (r 0), va_rf (r 1), va_rf (r 2), va_rf (r 3), va_rf (r 4), va_rf (r 5), va_rf (r 6), va_rf (r 7), va_rf (r 8), .int (g 9), .int (g 10), .int (g 11), .int (g 12)])
  | 18 => .inl (ca 0, 61, .inl g)
  | 19 => .inl (ca 2, 61, .inl g)
  | 20 => .inl (ca 0, 8, .inl g)
  | 21 => .inl (ca 0, 256, .inl g)
  | 22 => .inl (ca 0, 256, .inl g)
  | 23 => .inl (ca 0, 3, .inl g)
  | 24 => .inl (ca 0, 3, .inl g)
  | 25 => .inr (9, [va_rf (r 0), va_rf (r 1), va_rf (r 2)])
  | 26 => .inl (ca 0, 1342, .inl g)
  | 27 => .inr (6, [va_rf (r 0), va_rf (r 1), .int (g 2)])
  | 28 => .inr (2, [va_rf (r 0), va_rf (r 1), va_rf (r 2), va_rf (r 3), va_rf (r 4), .int (g 5)])
  | 29 => .inl (ca 0, 5, .inl g)
  | 30 => .inl (ca 0, 5, .inl g)
  | 31 => .inl (ca 0, 3, .inl g)
  | 32 => .inr (1, [va_rf (r 0), va_rf (r 1), va_rf (r 2), .int (g 3), .int (g 4)])
  | 33 => .inl (ca 0, 40, .inl g)
  | 34 => .inl (ca 0, 40, .inl g)
  | 35 => .inl (ca 0, 40, .inl g)
  | 36 => .inr (3, [va_rf (r 0), va_rf (r 1), .int (g 2), .int (g 3), .int (g 4), .int (g 5)])
  | 37 => .inl (ca 0, 50, .inl g)
  | 38 => .inl (ca 0, 24, .inl g)
  | 39 => .inl (ca 3, 6, .inr (.inr (.inr (.inr r))))
  | 40 => .inr (7, [va_rf (r 0), .int (g 1), .int (g 2), .int (g 3)])
  | 41 => .inl (ca 1, 60, .inr (.inl l))
  | 42 => .inr (7, [va_rf (r 0), .int (g 1), .int (g 2), .int (g 3)])
  | 43 => .inl (ca 1, 60, .inr (.inl l))
  | 44 => .inr (7, [va_rf (r 0), .int (g 1), .int (g 2), .int (g 3)])
  | 45 => .inl (ca 1, 60, .inr (.inl l))
  | 46 => .inr (7, [va_rf (r 0), .int (g 1), .int (g 2), .int (g 3)])
  | 47 => .inl (ca 1, 60, .inr (.inl l))
  | 48 => .inr (7, [va_rf (r 0), .int (g 1), .int (g 2), .int (g 3)])
  | 49 => .inl (ca 1, 60, .inr (.inl l))
  | 50 => .inr (7, [va_rf (r 0), .int (g 1), .int (g 2), .int (g 3)])
  | 51 => .inl (ca 1, 60, .inr (.inl l))
  | _ => .inr (0, [])
/-- the same while it is made: references are in the row of references -/
def eMc (ca : Nat → ClassId) : sg_E := fun k g l r => match k with
  | 0 => .inr (12, [va_rf (r 0), va_rf (r 1), va_rf (r 2), va_rf (r 3), .int (g 4), .int (g 5), .int (g 6), va_rf (r 7), va_rf (r 8), .int (g 9), va_rf (r 10), .int (g 11), .int (g 12), .int (g 13), .int (g 14), .int (g 15), .int (g 16), va_rf (r 17), va_rf (r 18), va_rf (r 19), .int (g 20), .int (g 21), .int (g 22), .int (g 23), .int (g 24), .int (g 25), va_rf (r 26), va_rf (r 27), va_rf (r 28), .int (g 29), .int (g 30), .int (g 31), va_rf (r 32), va_rf (r 33), va_rf (r 34), .int (g 35), va_rf (r 36), va_rf (r 37), .int (g 38), .int (g 39), .int (g 40), .int (g 41), .int (g 42), .int (g 43), va_rf (r 44), .int (g 45), va_rf (r 46), va_rf (r 47), .int (g 48), .int (g 49), .int (g 50), va_rf (r 51), va_rf (r 52), va_rf (r 53), va_rf (r 54)])
  | 1 => .inl (ca 0, 71, .inl g)
  | 2 => .inl (ca 0, 40, .inl g)
  | 3 => .inl (ca 0, 40, .inl g)
  | 4 => .inl (ca 0, 40, .inl g)
  | 5 => .inl (ca 0, 3, .inl g)
  | 6 => .inl (ca 0, 120, .inl g)
  | 7 => .inl (ca 0, 120, .inl g)
  | 8 => .inl (ca 0, 6, .inl g)
  | 9 => .inl (ca 0, 1281, .inl g)
  | 10 => .inl (ca 0, 1342, .inl g)
  | 11 => .inl (ca 2, 21, .inl g)
  | 12 => .inl (ca 0, 3, .inl g)
  | 13 => .inl (ca 0, 66, .inl g)
  | 14 => .inl (ca 0, 488, .inl g)
  | 15 => .inl (ca 0, 8, .inl g)
  | 16 => .inl (ca 0, 8, .inl g)
  | 17 => .inl (ca 2, 793, .inl g)
  | 18 => .inl (ca 2, 793, .inl g)
  | 19 => .inl (ca 0, 8, .inl g)
  | 20 => .inl (ca 0, 50, .inl g)
  | 21 => .inl (ca 0, 24, .inl g)
  | 22 => .inl (ca 0, 6, .inl g)
  | 23 => .inl (ca 0, 6, .inl g)
  | 24 => .inl (ca 1, 360, .inr (.inl l))
  | 25 => .inl (ca 1, 60, .inr (.inl l))
  | _ => .inr (0, [])
theorem eX_sh (ca : Nat → ClassId) (h : Nat → Nat) {t : Nat} (ht : t < 6) (g : Nat → Int32) (l : Nat → Int64) (r : Nat → Option Nat) : eX ca h (40 + 2 * t) g l r = .inr (7, [.ref (h (41 + 2 * t)), .int (g 1), .int (g 2), .int (g 3)]) := by
  rcases (show t = 0 ∨ t = 1 ∨ t = 2 ∨ t = 3 ∨ t = 4 ∨ t = 5 by omega) with rfl | rfl | rfl | rfl | rfl | rfl <;> rfl
theorem eX_el (ca : Nat → ClassId) (h : Nat → Nat) {t : Nat} (ht : t < 6) (g : Nat → Int32) (l : Nat → Int64) (r : Nat → Option Nat) : eX ca h (41 + 2 * t) g l r = .inl (ca 1, 60, .inr (.inl l)) := by
  rcases (show t = 0 ∨ t = 1 ∨ t = 2 ∨ t = 3 ∨ t = 4 ∨ t = 5 by omega) with rfl | rfl | rfl | rfl | rfl | rfl <;> rfl
def zLEAST : Nat → Int32 := fun j => match j with
  | 0 => 0
  | 1 => 0
  | 2 => 0
  | 3 => 0
  | 4 => 0
  | 5 => 1
  | 6 => 0
  | 7 => 0
  | 8 => 0
  | 9 => 0
  | 10 => 0
  | _ => 0
def zMOST : Nat → Int32 := fun j => match j with
  | 0 => 60
  | 1 => 60
  | 2 => 60
  | 3 => 9
  | 4 => 9
  | 5 => 12
  | 6 => 60
  | 7 => 12
  | 8 => 3
  | 9 => 9
  | 10 => 99
  | _ => 0
def zABOVE : Nat → Int32 := fun j => match j with
  | 0 => -1
  | 1 => 0
  | 2 => 0
  | 3 => 2
  | 4 => 1
  | 5 => 3
  | 6 => 0
  | 7 => 4
  | _ => 0
def zOWN : Nat → Int32 := fun j => match j with
  | 0 => 1
  | 1 => 10
  | 2 => 11
  | 3 => 2
  | 4 => 20
  | 5 => 0
  | 6 => 0
  | 7 => 0
  | 8 => 0
  | 9 => 30
  | 10 => 0
  | 11 => 0
  | 12 => 0
  | 13 => 41
  | 14 => 40
  | 15 => 0
  | 16 => 0
  | 17 => 0
  | 18 => 50
  | 19 => 0
  | 20 => 0
  | 21 => 0
  | 22 => 0
  | 23 => 60
  | 24 => 70
  | 25 => 0
  | 26 => 0
  | 27 => 0
  | 28 => 0
  | 29 => 80
  | 30 => 0
  | 31 => 81
  | _ => 0
def zcX : List sg_S := [("SetAgain", "LEAST", "[I", 11, zLEAST), ("SetAgain", "MOST", "[I", 11, zMOST), ("SetAgain$Desks", "ABOVE", "[I", 8, zABOVE), ("SetAgain$Desks", "OWN", "[I", 32, zOWN)]
def zcM : List sg_S := []
def f0X : sg_F := fun k => match k with
  | 2 => (sgu (sgu (sgu (sgu (fun _ => 0) 67 1) 68 1) 69 1) 70 3)
  | 3 => (sgu (sgu (sgu (fun _ => 0) 0 30) 1 30) 2 30)
  | 13 => (sgu (sgu (fun _ => 0) 7 (-1)) 9 (-1))
  | 29 => (sgu (fun _ => 0) 4 (-2))
  | 40 => (sgu (fun _ => 0) 1 (-1))
  | 42 => (sgu (fun _ => 0) 1 (-1))
  | 44 => (sgu (fun _ => 0) 1 (-1))
  | 46 => (sgu (fun _ => 0) 1 (-1))
  | 48 => (sgu (fun _ => 0) 1 (-1))
  | 50 => (sgu (fun _ => 0) 1 (-1))
  | _ => (fun _ => 0)
def f0M : sg_F := fun k => match k with
  | 0 => (sgu (sgu (sgu (sgu (fun _ => 0) 11 (-1)) 42 (-2)) 20 (-1)) 24 (-1))
  | 1 => (sgu (sgu (sgu (sgu (fun _ => 0) 67 1) 68 1) 69 1) 70 3)
  | 5 => (sgu (sgu (sgu (fun _ => 0) 0 30) 1 30) 2 30)
  | 22 => (sgu (sgu (sgu (sgu (sgu (sgu (fun _ => 0) 0 (-1)) 1 (-1)) 2 (-1)) 3 (-1)) 4 (-1)) 5 (-1))
  | _ => (fun _ => 0)
def L0 : sg_L := fun _ _ => 0
def Q0 : sg_Q := fun _ _ => none
theorem f0X_sh {t : Nat} (ht : t < 6) : f0X (40 + 2 * t) = sgu (fun _ => 0) 1 (-1) := by
  rcases (show t = 0 ∨ t = 1 ∨ t = 2 ∨ t = 3 ∨ t = 4 ∨ t = 5 by omega) with rfl | rfl | rfl | rfl | rfl | rfl <;> rfl
theorem f0X_st {x : Int32} (h1 : 0 ≤ x.toInt) (h2 : x.toInt ≤ 2) : f0X 3 x.toNatClampNeg = 30 := by
  have h : x.toNatClampNeg < 3 := bn_kI h1 (by omega)
  rcases (show x.toNatClampNeg = 0 ∨ x.toNatClampNeg = 1 ∨ x.toNatClampNeg = 2 by omega) with z | z | z <;> rw [z] <;> rfl
theorem f0X_led {x : Int32} (h1 : 0 ≤ x.toInt) (h2 : x.toInt ≤ 4) : (x.toInt ≤ 3 ∧ (f0X 29 x.toNatClampNeg).toInt = 0) ∨ (x.toInt = 4 ∧ (f0X 29 x.toNatClampNeg).toInt = -2) := by
  have h : x.toNatClampNeg = x.toInt.toNat := rfl
  rcases (show x.toInt.toNat = 0 ∨ x.toInt.toNat = 1 ∨ x.toInt.toNat = 2 ∨ x.toInt.toNat = 3 ∨ x.toInt.toNat = 4 by omega) with z | z | z | z | z <;> rw [h, z]
  · exact Or.inl ⟨by omega, by decide⟩
  · exact Or.inl ⟨by omega, by decide⟩
  · exact Or.inl ⟨by omega, by decide⟩
  · exact Or.inl ⟨by omega, by decide⟩
  · exact Or.inr ⟨by omega, by decide⟩
theorem f0M_sh {x : Int32} (h1 : 0 ≤ x.toInt) (h2 : x.toInt ≤ 5) : f0M 22 x.toNatClampNeg = -1 := by
  have h : x.toNatClampNeg < 6 := bn_kI h1 (by omega)
  rcases (show x.toNatClampNeg = 0 ∨ x.toNatClampNeg = 1 ∨ x.toNatClampNeg = 2 ∨ x.toNatClampNeg = 3 ∨ x.toNatClampNeg = 4 ∨ x.toNatClampNeg = 5 by omega) with z | z | z | z | z | z <;> rw [z] <;> rfl
theorem f0M_st {x : Int32} (h1 : 0 ≤ x.toInt) (h2 : x.toInt ≤ 2) : f0M 5 x.toNatClampNeg = 30 := by
  have h : x.toNatClampNeg < 3 := bn_kI h1 (by omega)
  rcases (show x.toNatClampNeg = 0 ∨ x.toNatClampNeg = 1 ∨ x.toNatClampNeg = 2 by omega) with z | z | z <;> rw [z] <;> rfl
