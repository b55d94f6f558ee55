/-! what is known of all fields and elements at all times: found by a program (wip/tool) -/
def loX : Nat → Nat → Int := fun k j => match k with
  | 1 => (match j with | 3 => 0 | _ => (-2147483648))
  | 2 => 0
  | 3 => 0
  | 4 => (match j with | 1 => 0 | 2 => 0 | 6 => 0 | 7 => (-1) | 8 => 0 | 9 => 0 | _ => (-2147483648))
  | 5 => 0
  | 9 => (-1)
  | 10 => (match j with | 2 => 0 | _ => (-2147483648))
  | 11 => (-1)
  | 13 => (match j with | 7 => (-1) | 8 => 0 | 9 => (-1) | 10 => 0 | _ => (-2147483648))
  | 14 => 0
  | 17 => (match j with | 9 => 0 | 10 => 0 | 12 => 0 | _ => (-2147483648))
  | 19 => 0
  | 20 => 0
  | 23 => 0
  | 24 => 0
  | 27 => (match j with | 2 => 0 | _ => (-2147483648))
  | 28 => (match j with | 5 => 0 | _ => (-2147483648))
  | 31 => 0
  | 32 => (match j with | 3 => 0 | 4 => 0 | _ => (-2147483648))
  | 33 => 0
  | 34 => 0
  | 35 => 0
  | 36 => (match j with | 2 => 0 | 3 => 0 | 4 => 0 | 5 => 0 | _ => (-2147483648))
  | 37 => 0
  | 38 => 0
  | 40 => (match j with | 1 => (-2) | 2 => 0 | 3 => (-1) | _ => (-2147483648))
  | 42 => (match j with | 1 => (-2) | 2 => 0 | 3 => (-1) | _ => (-2147483648))
  | 44 => (match j with | 1 => (-2) | 2 => 0 | 3 => (-1) | _ => (-2147483648))
  | 46 => (match j with | 1 => (-2) | 2 => 0 | 3 => (-1) | _ => (-2147483648))
  | 48 => (match j with | 1 => (-2) | 2 => 0 | 3 => (-1) | _ => (-2147483648))
  | 50 => (match j with | 1 => (-2) | 2 => 0 | 3 => (-1) | _ => (-2147483648))
  | _ => (-2147483648)
def hiX : Nat → Nat → Int := fun k j => match k with
  | 1 => (match j with | 3 => 8 | _ => 2147483647)
  | 2 => if j < 64 then 60 else 99
  | 3 => 60
  | 4 => (match j with | 1 => 120 | 2 => 1 | 6 => 120 | 7 => 120 | 8 => 121 | 9 => 121 | _ => 2147483647)
  | 5 => 255
  | 9 => 10000
  | 10 => (match j with | 2 => 21 | _ => 2147483647)
  | 11 => 7
  | 13 => (match j with | 7 => 7 | 8 => 60 | 9 => 7 | 10 => 60 | _ => 2147483647)
  | 14 => 60
  | 17 => (match j with | 9 => 8 | 10 => 3 | 12 => 1 | _ => 2147483647)
  | 19 => 1
  | 20 => 7
  | 23 => 255
  | 24 => 255
  | 27 => (match j with | 2 => 2 | _ => 2147483647)
  | 28 => (match j with | 5 => 1 | _ => 2147483647)
  | 31 => 60
  | 32 => (match j with | 3 => 40 | 4 => 40 | _ => 2147483647)
  | 33 => 70
  | 34 => 99
  | 35 => 99
  | 36 => (match j with | 2 => 50 | 3 => 19 | 4 => 7 | 5 => 49 | _ => 2147483647)
  | 37 => 7
  | 38 => 81
  | 40 => (match j with | 1 => 4 | 2 => 60 | 3 => 49 | _ => 2147483647)
  | 42 => (match j with | 1 => 4 | 2 => 60 | 3 => 49 | _ => 2147483647)
  | 44 => (match j with | 1 => 4 | 2 => 60 | 3 => 49 | _ => 2147483647)
  | 46 => (match j with | 1 => 4 | 2 => 60 | 3 => 49 | _ => 2147483647)
  | 48 => (match j with | 1 => 4 | 2 => 60 | 3 => 49 | _ => 2147483647)
  | 50 => (match j with | 1 => 4 | 2 => 60 | 3 => 49 | _ => 2147483647)
  | _ => 2147483647
theorem segX2_r {f : sg_F} (hI : sgI loX hiX f) {j : Nat} : 0 ≤ (f 2 j).toInt ∧ (f 2 j).toInt ≤ 99 ∧ (j < 64 → 0 ≤ (f 2 j).toInt ∧ (f 2 j).toInt ≤ 60) := by
  have h := hI 2 j
  have g := bn_top (f 2 j)
  have h : (0 : Int) ≤ (f 2 j).toInt ∧ (f 2 j).toInt ≤ (if j < 64 then (60 : Int) else 99) := h
  by_cases c : j < 64
  · simp only [if_pos c] at h; exact ⟨by omega, by omega, fun _ => ⟨by omega, by omega⟩⟩
  · simp only [if_neg c] at h; exact ⟨by omega, by omega, fun z => absurd z c⟩
theorem segX2_w (x : Int32) {j : Nat} (h : 0 ≤ x.toInt ∧ x.toInt ≤ 99 ∧ (j < 64 → 0 ≤ x.toInt ∧ x.toInt ≤ 60)) : loX 2 j ≤ x.toInt ∧ x.toInt ≤ hiX 2 j := by
  show (0 : Int) ≤ x.toInt ∧ x.toInt ≤ (if j < 64 then (60 : Int) else 99)
  by_cases c : j < 64
  · have := h.2.2 c; simp only [if_pos c]; exact ⟨by omega, by omega⟩
  · have g := bn_top x; simp only [if_neg c]; exact ⟨by omega, by omega⟩
def loM : Nat → Nat → Int := fun k j => match k with
  | 0 => (match j with | 4 => 0 | 5 => 0 | 6 => 0 | 9 => 0 | 11 => (-1) | 12 => (-1) | 13 => 0 | 14 => 0 | 15 => (-1) | 16 => 0 | 20 => (-1) | 21 => 0 | 22 => 0 | 23 => 0 | 24 => (-1) | 25 => 0 | 43 => 0 | 45 => 0 | 48 => 0 | 49 => 0 | 50 => 0 | _ => (-2147483648))
  | 1 => 0
  | 2 => 0
  | 3 => 0
  | 4 => 0
  | 5 => 0
  | 6 => 0
  | 7 => 0
  | 8 => 0
  | 11 => 0
  | 12 => 0
  | 13 => 0
  | 15 => 0
  | 16 => 0
  | 17 => 0
  | 18 => 0
  | 19 => if j < 3 then 0 else (-2147483648)
  | 20 => 0
  | 21 => 0
  | 22 => (-1)
  | 23 => 0
  | _ => (-2147483648)
def hiM : Nat → Nat → Int := fun k j => match k with
  | 0 => (match j with | 4 => 40 | 5 => 40 | 6 => 8 | 9 => 120 | 11 => 120 | 12 => 0 | 13 => 120 | 14 => 120 | 15 => 120 | 16 => 6 | 20 => 7 | 21 => 61 | 22 => 487 | 23 => 1 | 24 => 7 | 25 => 60 | 43 => 1 | 45 => 50 | 48 => 19 | 49 => 7 | 50 => 49 | _ => 2147483647)
  | 1 => if j < 64 then 60 else 99
  | 2 => 70
  | 3 => 99
  | 4 => 99
  | 5 => 60
  | 6 => 255
  | 7 => 255
  | 8 => 60
  | 11 => 1
  | 12 => 60
  | 13 => 60
  | 15 => 7
  | 16 => 7
  | 17 => 1
  | 18 => 1
  | 19 => if j < 3 then 60 else 2147483647
  | 20 => 7
  | 21 => 81
  | 22 => 54
  | 23 => 60
  | _ => 2147483647
theorem segM1_r {f : sg_F} (hI : sgI loM hiM f) {j : Nat} : 0 ≤ (f 1 j).toInt ∧ (f 1 j).toInt ≤ 99 ∧ (j < 64 → 0 ≤ (f 1 j).toInt ∧ (f 1 j).toInt ≤ 60) := by
  have h := hI 1 j
  have g := bn_top (f 1 j)
  have h : (0 : Int) ≤ (f 1 j).toInt ∧ (f 1 j).toInt ≤ (if j < 64 then (60 : Int) else 99) := h
  by_cases c : j < 64
  · simp only [if_pos c] at h; exact ⟨by omega, by omega, fun _ => ⟨by omega, by omega⟩⟩
  · simp only [if_neg c] at h; exact ⟨by omega, by omega, fun z => absurd z c⟩
theorem segM1_w (x : Int32) {j : Nat} (h : 0 ≤ x.toInt ∧ x.toInt ≤ 99 ∧ (j < 64 → 0 ≤ x.toInt ∧ x.toInt ≤ 60)) : loM 1 j ≤ x.toInt ∧ x.toInt ≤ hiM 1 j := by
  show (0 : Int) ≤ x.toInt ∧ x.toInt ≤ (if j < 64 then (60 : Int) else 99)
  by_cases c : j < 64
  · have := h.2.2 c; simp only [if_pos c]; exact ⟨by omega, by omega⟩
  · have g := bn_top x; simp only [if_neg c]; exact ⟨by omega, by omega⟩
theorem segM19_r {f : sg_F} (hI : sgI loM hiM f) {j : Nat} : (-2147483648) ≤ (f 19 j).toInt ∧ (f 19 j).toInt ≤ 2147483647 ∧ (j < 3 → 0 ≤ (f 19 j).toInt ∧ (f 19 j).toInt ≤ 60) := by
  have h := hI 19 j
  have g := bn_top (f 19 j)
  have h : (if j < 3 then (0 : Int) else (-2147483648)) ≤ (f 19 j).toInt ∧ (f 19 j).toInt ≤ (if j < 3 then (60 : Int) else 2147483647) := h
  by_cases c : j < 3
  · simp only [if_pos c] at h; exact ⟨by omega, by omega, fun _ => ⟨by omega, by omega⟩⟩
  · simp only [if_neg c] at h; exact ⟨by omega, by omega, fun z => absurd z c⟩
theorem segM19_w (x : Int32) {j : Nat} (h : (-2147483648) ≤ x.toInt ∧ x.toInt ≤ 2147483647 ∧ (j < 3 → 0 ≤ x.toInt ∧ x.toInt ≤ 60)) : loM 19 j ≤ x.toInt ∧ x.toInt ≤ hiM 19 j := by
  show (if j < 3 then (0 : Int) else (-2147483648)) ≤ x.toInt ∧ x.toInt ≤ (if j < 3 then (60 : Int) else 2147483647)
  by_cases c : j < 3
  · have := h.2.2 c; simp only [if_pos c]; exact ⟨by omega, by omega⟩
  · have g := bn_top x; simp only [if_neg c]; exact ⟨by omega, by omega⟩
theorem shb_1 {f : sg_F} (hI : sgI loX hiX f) {t : Nat} (ht : t < 6) : (-2) ≤ (f (40 + 2 * t) 1).toInt ∧ (f (40 + 2 * t) 1).toInt ≤ 4 := by
  rcases (show t = 0 ∨ t = 1 ∨ t = 2 ∨ t = 3 ∨ t = 4 ∨ t = 5 by omega) with rfl | rfl | rfl | rfl | rfl | rfl
  · exact hI 40 1
  · exact hI 42 1
  · exact hI 44 1
  · exact hI 46 1
  · exact hI 48 1
  · exact hI 50 1
theorem shp_1 {x : Int32} {t : Nat} (ht : t < 6) (h : (-2) ≤ x.toInt ∧ x.toInt ≤ 4) : loX (40 + 2 * t) 1 ≤ x.toInt ∧ x.toInt ≤ hiX (40 + 2 * t) 1 := by
  rcases (show t = 0 ∨ t = 1 ∨ t = 2 ∨ t = 3 ∨ t = 4 ∨ t = 5 by omega) with rfl | rfl | rfl | rfl | rfl | rfl <;> exact h
theorem shb_2 {f : sg_F} (hI : sgI loX hiX f) {t : Nat} (ht : t < 6) : 0 ≤ (f (40 + 2 * t) 2).toInt ∧ (f (40 + 2 * t) 2).toInt ≤ 60 := by
  rcases (show t = 0 ∨ t = 1 ∨ t = 2 ∨ t = 3 ∨ t = 4 ∨ t = 5 by omega) with rfl | rfl | rfl | rfl | rfl | rfl
  · exact hI 40 2
  · exact hI 42 2
  · exact hI 44 2
  · exact hI 46 2
  · exact hI 48 2
  · exact hI 50 2
theorem shp_2 {x : Int32} {t : Nat} (ht : t < 6) (h : 0 ≤ x.toInt ∧ x.toInt ≤ 60) : loX (40 + 2 * t) 2 ≤ x.toInt ∧ x.toInt ≤ hiX (40 + 2 * t) 2 := by
  rcases (show t = 0 ∨ t = 1 ∨ t = 2 ∨ t = 3 ∨ t = 4 ∨ t = 5 by omega) with rfl | rfl | rfl | rfl | rfl | rfl <;> exact h
theorem shb_3 {f : sg_F} (hI : sgI loX hiX f) {t : Nat} (ht : t < 6) : (-1) ≤ (f (40 + 2 * t) 3).toInt ∧ (f (40 + 2 * t) 3).toInt ≤ 49 := by
  rcases (show t = 0 ∨ t = 1 ∨ t = 2 ∨ t = 3 ∨ t = 4 ∨ t = 5 by omega) with rfl | rfl | rfl | rfl | rfl | rfl
  · exact hI 40 3
  · exact hI 42 3
  · exact hI 44 3
  · exact hI 46 3
  · exact hI 48 3
  · exact hI 50 3
theorem shp_3 {x : Int32} {t : Nat} (ht : t < 6) (h : (-1) ≤ x.toInt ∧ x.toInt ≤ 49) : loX (40 + 2 * t) 3 ≤ x.toInt ∧ x.toInt ≤ hiX (40 + 2 * t) 3 := by
  rcases (show t = 0 ∨ t = 1 ∨ t = 2 ∨ t = 3 ∨ t = 4 ∨ t = 5 by omega) with rfl | rfl | rfl | rfl | rfl | rfl <;> exact h
