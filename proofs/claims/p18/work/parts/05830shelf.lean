/-! SHELVES -/
/-- refusals of a place on a shelf (z: none) -/
def rfX (f : sg_F) (d i : Int32) (z : Int) (r : Int32) : Prop := (¬ (0 ≤ d.toInt ∧ d.toInt ≤ 5) ∧ r.toInt = -1) ∨ ((0 ≤ d.toInt ∧ d.toInt ≤ 5) ∧ (((f (40 + 2 * d.toNatClampNeg) 1).toInt = -1 ∧ r.toInt = -11) ∨ ((f (40 + 2 * d.toNatClampNeg) 1).toInt = -2 ∧ r.toInt = -12) ∨ (0 ≤ (f (40 + 2 * d.toNatClampNeg) 1).toInt ∧ 0 ≤ i.toInt ∧ i.toInt < (f (40 + 2 * d.toNatClampNeg) 2).toInt ∧ r.toInt = z) ∨ (0 ≤ (f (40 + 2 * d.toNatClampNeg) 1).toInt ∧ ¬ (0 ≤ i.toInt ∧ i.toInt < (f (40 + 2 * d.toNatClampNeg) 2).toInt) ∧ r.toInt = -13)))
def rfM (f : sg_F) (d i : Int32) (z : Int) (r : Int32) : Prop := (¬ (0 ≤ d.toInt ∧ d.toInt ≤ 5) ∧ r.toInt = -1) ∨ ((0 ≤ d.toInt ∧ d.toInt ≤ 5) ∧ (((f 22 d.toNatClampNeg).toInt < 0 ∧ r.toInt = -11) ∨ (0 ≤ (f 22 d.toNatClampNeg).toInt ∧ (f 22 d.toNatClampNeg).toInt < 50 ∧ r.toInt = -12) ∨ (50 ≤ (f 22 d.toNatClampNeg).toInt ∧ 0 ≤ i.toInt ∧ i.toInt < (f 23 d.toNatClampNeg).toInt ∧ r.toInt = z) ∨ (50 ≤ (f 22 d.toNatClampNeg).toInt ∧ ¬ (0 ≤ i.toInt ∧ i.toInt < (f 23 d.toNatClampNeg).toInt) ∧ r.toInt = -13)))
def okX (f : sg_F) (d i : Int32) : Prop := (0 ≤ d.toInt ∧ d.toInt ≤ 5) ∧ 0 ≤ (f (40 + 2 * d.toNatClampNeg) 1).toInt ∧ 0 ≤ i.toInt ∧ i.toInt < (f (40 + 2 * d.toNatClampNeg) 2).toInt
def okM (f : sg_F) (d i : Int32) : Prop := (0 ≤ d.toInt ∧ d.toInt ≤ 5) ∧ 50 ≤ (f 22 d.toNatClampNeg).toInt ∧ 0 ≤ i.toInt ∧ i.toInt < (f 23 d.toNatClampNeg).toInt
def cutF (s : Int) (v : Int64) : Int64 := if s = 0 then Int32.toInt64 (Int32.toInt8 (Int64.toInt32 v)).toInt32 else if s = 1 then Int32.toInt64 (Int32.toInt16 (Int64.toInt32 v)).toInt32 else if s = 2 then Int32.toInt64 (Int64.toInt32 v) else if s = 4 then (if v.toInt = 0 then 0 else 1) else v
def shD (f : sg_F) (t : Nat) (x : Int32) : sg_F := sg_up f (40 + 2 * t) (sgu (sgu (f (40 + 2 * t)) 1 (if x.toInt < 0 then (-1) else (-2))) 3 x)
def shR (f : sg_F) (t : Nat) (x y : Int32) : sg_F := sg_up f (40 + 2 * t) (sgu (sgu (f (40 + 2 * t)) 1 x) 2 y)
def tkF (k w r : Int) : Prop := (((k = 0 ∧ (w = 0)) ∨ (k = 1 ∧ (w = 1 ∨ w = 0)) ∨ (k = 2 ∧ (w = 2 ∨ w = 0)) ∨ (k = 3 ∧ (w = 3 ∨ w = 2 ∨ w = 0)) ∨ (k = 4 ∧ (w = 4 ∨ w = 1 ∨ w = 0)) ∨ (k = 5 ∧ (w = 5 ∨ w = 3 ∨ w = 2 ∨ w = 0)) ∨ (k = 6 ∧ (w = 6 ∨ w = 0)) ∨ (k = 7 ∧ (w = 7 ∨ w = 4 ∨ w = 1 ∨ w = 0))) ∧ r = k) ∨ (¬ ((k = 0 ∧ (w = 0)) ∨ (k = 1 ∧ (w = 1 ∨ w = 0)) ∨ (k = 2 ∧ (w = 2 ∨ w = 0)) ∨ (k = 3 ∧ (w = 3 ∨ w = 2 ∨ w = 0)) ∨ (k = 4 ∧ (w = 4 ∨ w = 1 ∨ w = 0)) ∨ (k = 5 ∧ (w = 5 ∨ w = 3 ∨ w = 2 ∨ w = 0)) ∨ (k = 6 ∧ (w = 6 ∨ w = 0)) ∨ (k = 7 ∧ (w = 7 ∨ w = 4 ∨ w = 1 ∨ w = 0))) ∧ r = -12)
def tkX (f : sg_F) (d w : Int32) (r : Int) : Prop := (¬ ((0 ≤ d.toInt ∧ d.toInt ≤ 5) ∧ 0 ≤ w.toInt ∧ w.toInt ≤ 7) ∧ r = -1) ∨ (((0 ≤ d.toInt ∧ d.toInt ≤ 5) ∧ 0 ≤ w.toInt ∧ w.toInt ≤ 7) ∧ (((f (40 + 2 * d.toNatClampNeg) 1).toInt = -1 ∧ r = -11) ∨ (0 ≤ (f (40 + 2 * d.toNatClampNeg) 1).toInt ∧ r = -12) ∨ ((f (40 + 2 * d.toNatClampNeg) 1).toInt = -2 ∧ tkF (f 37 (f (40 + 2 * d.toNatClampNeg) 3).toNatClampNeg).toInt w.toInt r)))
def tkM (f : sg_F) (d w : Int32) (r : Int) : Prop := (¬ ((0 ≤ d.toInt ∧ d.toInt ≤ 5) ∧ 0 ≤ w.toInt ∧ w.toInt ≤ 7) ∧ r = -1) ∨ (((0 ≤ d.toInt ∧ d.toInt ≤ 5) ∧ 0 ≤ w.toInt ∧ w.toInt ≤ 7) ∧ (((f 22 d.toNatClampNeg).toInt < 0 ∧ r = -11) ∨ (50 ≤ (f 22 d.toNatClampNeg).toInt ∧ r = -12) ∨ (0 ≤ (f 22 d.toNatClampNeg).toInt ∧ (f 22 d.toNatClampNeg).toInt < 50 ∧ tkF (f 20 (f 22 d.toNatClampNeg).toNatClampNeg).toInt w.toInt r)))
def sfX (f : sg_F) (d i e j n : Int32) (r : Int) : Prop := (¬ ((0 ≤ d.toInt ∧ d.toInt ≤ 5) ∧ (0 ≤ e.toInt ∧ e.toInt ≤ 5)) ∧ r = -1) ∨ (((0 ≤ d.toInt ∧ d.toInt ≤ 5) ∧ (0 ≤ e.toInt ∧ e.toInt ≤ 5)) ∧ ((((f (40 + 2 * d.toNatClampNeg) 1).toInt = -1 ∨ (f (40 + 2 * e.toNatClampNeg) 1).toInt = -1) ∧ r = -11) ∨ ((f (40 + 2 * d.toNatClampNeg) 1).toInt ≠ -1 ∧ (f (40 + 2 * e.toNatClampNeg) 1).toInt ≠ -1 ∧ ((((f (40 + 2 * d.toNatClampNeg) 1).toInt < 0 ∨ (f (40 + 2 * d.toNatClampNeg) 1).toInt ≠ (f (40 + 2 * e.toNatClampNeg) 1).toInt) ∧ r = -12) ∨ (0 ≤ (f (40 + 2 * d.toNatClampNeg) 1).toInt ∧ (f (40 + 2 * d.toNatClampNeg) 1).toInt = (f (40 + 2 * e.toNatClampNeg) 1).toInt ∧ ((¬ (0 ≤ n.toInt ∧ 0 ≤ i.toInt ∧ 0 ≤ j.toInt ∧ i.toInt + n.toInt ≤ (f (40 + 2 * d.toNatClampNeg) 2).toInt ∧ j.toInt + n.toInt ≤ (f (40 + 2 * e.toNatClampNeg) 2).toInt) ∧ r = -13) ∨ ((0 ≤ n.toInt ∧ 0 ≤ i.toInt ∧ 0 ≤ j.toInt ∧ i.toInt + n.toInt ≤ (f (40 + 2 * d.toNatClampNeg) 2).toInt ∧ j.toInt + n.toInt ≤ (f (40 + 2 * e.toNatClampNeg) 2).toInt) ∧ r = n.toInt)))))))
def sfM (f : sg_F) (d i e j n : Int32) (r : Int) : Prop := (¬ ((0 ≤ d.toInt ∧ d.toInt ≤ 5) ∧ (0 ≤ e.toInt ∧ e.toInt ≤ 5)) ∧ r = -1) ∨ (((0 ≤ d.toInt ∧ d.toInt ≤ 5) ∧ (0 ≤ e.toInt ∧ e.toInt ≤ 5)) ∧ ((((f 22 d.toNatClampNeg).toInt < 0 ∨ (f 22 e.toNatClampNeg).toInt < 0) ∧ r = -11) ∨ (0 ≤ (f 22 d.toNatClampNeg).toInt ∧ 0 ≤ (f 22 e.toNatClampNeg).toInt ∧ ((((f 22 d.toNatClampNeg).toInt < 50 ∨ (f 22 d.toNatClampNeg).toInt ≠ (f 22 e.toNatClampNeg).toInt) ∧ r = -12) ∨ (50 ≤ (f 22 d.toNatClampNeg).toInt ∧ (f 22 d.toNatClampNeg).toInt = (f 22 e.toNatClampNeg).toInt ∧ ((¬ (0 ≤ n.toInt ∧ 0 ≤ i.toInt ∧ 0 ≤ j.toInt ∧ i.toInt + n.toInt ≤ (f 23 d.toNatClampNeg).toInt ∧ j.toInt + n.toInt ≤ (f 23 e.toNatClampNeg).toInt) ∧ r = -13) ∨ ((0 ≤ n.toInt ∧ 0 ≤ i.toInt ∧ 0 ≤ j.toInt ∧ i.toInt + n.toInt ≤ (f 23 d.toNatClampNeg).toInt ∧ j.toInt + n.toInt ≤ (f 23 e.toNatClampNeg).toInt) ∧ r = n.toInt)))))))
theorem sg_upup {α : Type} {f : Nat → Nat → α} {k : Nat} {g g1 : Nat → α} : sg_up (sg_up f k g) k g1 = sg_up f k g1 := by
  funext i
  by_cases h : i = k
  · rw [h, sg_up_s, sg_up_s]
  · rw [sg_up_n h, sg_up_n h, sg_up_n h]
theorem sg_fill {g g0 : Nat → Int64} {a : Int} {x y : Int32} (h : ∀ j : Nat, g j = if a ≤ (j : Int) ∧ (j : Int) < x.toInt then 0 else g0 j) (hx : 0 ≤ x.toInt) (ha : a ≤ x.toInt) (hy : y.toInt = x.toInt + 1) (j : Nat) : sgu g x.toNatClampNeg 0 j = if a ≤ (j : Int) ∧ (j : Int) < y.toInt then 0 else g0 j := by
  have e := bn_clI hx
  by_cases z : j = x.toNatClampNeg
  · rw [z, sgu_s, if_pos ⟨by omega, by omega⟩]
  · rw [sgu_n z, h j]
    by_cases q : a ≤ (j : Int) ∧ (j : Int) < x.toInt
    · rw [if_pos q, if_pos ⟨q.1, by omega⟩]
    · rw [if_neg q, if_neg (fun w => q ⟨w.1, by omega⟩)]
theorem shD_s1 {f : sg_F} {t : Nat} {x : Int32} : shD f t x (40 + 2 * t) 1 = if x.toInt < 0 then (-1) else (-2) := by
  unfold shD
  rw [sg_up_s, sgu_n (by decide), sgu_s]
theorem shD_s3 {f : sg_F} {t : Nat} {x : Int32} : shD f t x (40 + 2 * t) 3 = x := by
  unfold shD
  rw [sg_up_s, sgu_s]
theorem shD_n {f : sg_F} {t k : Nat} {x : Int32} (h : k ≠ 40 + 2 * t) : shD f t x k = f k := by
  unfold shD
  exact sg_up_n h
theorem shR_s1 {f : sg_F} {t : Nat} {x y : Int32} : shR f t x y (40 + 2 * t) 1 = x := by
  unfold shR
  rw [sg_up_s, sgu_n (by decide), sgu_s]
theorem shR_s2 {f : sg_F} {t : Nat} {x y : Int32} : shR f t x y (40 + 2 * t) 2 = y := by
  unfold shR
  rw [sg_up_s, sgu_s]
theorem shR_n {f : sg_F} {t k : Nat} {x y : Int32} (h : k ≠ 40 + 2 * t) : shR f t x y k = f k := by
  unfold shR
  exact sg_up_n h
/-- the shelves of both hold the same, but for elements -/
def rShelf (fX fM : sg_F) : Prop := ∀ t : Nat, t < 6 → ((fX (40 + 2 * t) 1).toInt = -1 ∧ (fM 22 t).toInt = -1) ∨ ((fX (40 + 2 * t) 1).toInt = -2 ∧ (fM 22 t).toInt = (fX (40 + 2 * t) 3).toInt ∧ 0 ≤ (fX (40 + 2 * t) 3).toInt ∧ (fX (40 + 2 * t) 3).toInt < (fX 36 2).toInt) ∨ (0 ≤ (fX (40 + 2 * t) 1).toInt ∧ (fX (40 + 2 * t) 1).toInt ≤ 4 ∧ (fM 22 t).toInt = 50 + (fX (40 + 2 * t) 1).toInt ∧ (fX (40 + 2 * t) 2).toInt = (fM 23 t).toInt)
theorem rShelf.zero : rShelf f0X f0M := by
  intro t ht
  have e : f0M 22 t = -1 := by rcases (show t = 0 ∨ t = 1 ∨ t = 2 ∨ t = 3 ∨ t = 4 ∨ t = 5 by omega) with rfl | rfl | rfl | rfl | rfl | rfl <;> rfl
  exact Or.inl ⟨by rw [f0X_sh ht, sgu_s]; decide, by rw [e]; decide⟩
theorem rShelf.fr {fX fX1 fM fM1 : sg_F} (h : rShelf fX fM) (a : ∀ t j : Nat, fX1 (40 + 2 * t) j = fX (40 + 2 * t) j) (b : fX1 36 2 = fX 36 2) (c : ∀ j : Nat, fM1 22 j = fM 22 j) (d : ∀ j : Nat, fM1 23 j = fM 23 j) : rShelf fX1 fM1 := by
  intro t ht
  rw [a, a, a, c, d, b]
  exact h t ht
theorem rShelf.more {fX fX1 fM fM1 : sg_F} (h : rShelf fX fM) (a : ∀ t j : Nat, fX1 (40 + 2 * t) j = fX (40 + 2 * t) j) (b : (fX 36 2).toInt ≤ (fX1 36 2).toInt) (c : ∀ j : Nat, fM1 22 j = fM 22 j) (d : ∀ j : Nat, fM1 23 j = fM 23 j) : rShelf fX1 fM1 := by
  intro t ht
  rw [a, a, a, c, d]
  rcases h t ht with q | ⟨q1, q2, q3, q4⟩ | q
  · exact Or.inl q
  · exact Or.inr (Or.inl ⟨q1, q2, q3, by omega⟩)
  · exact Or.inr (Or.inr q)
theorem rShelf.keep {fX fX1 fM fM1 : sg_F} {d w : Int32} (h : rShelf fX fM) (hd : rDesk fX fM) (a : fX1 = if 0 ≤ d.toInt ∧ d.toInt ≤ 5 ∧ -1 ≤ w.toInt ∧ w.toInt < (fX 36 2).toInt then shD fX d.toNatClampNeg w else fX) (b : fM1 = if 0 ≤ d.toInt ∧ d.toInt ≤ 5 ∧ -1 ≤ w.toInt ∧ w.toInt < (fM 0 45).toInt then sg_up (sg_up fM 22 (sgu (fM 22) d.toNatClampNeg w)) 23 (sgu (fM 23) d.toNatClampNeg 0) else fM) : rShelf fX1 fM1 := by
  have hd1 := hd.1
  rw [← hd1] at b
  by_cases q : 0 ≤ d.toInt ∧ d.toInt ≤ 5 ∧ -1 ≤ w.toInt ∧ w.toInt < (fX 36 2).toInt
  · rw [if_pos q] at a b
    intro t ht
    have k0 : fX1 36 2 = fX 36 2 := by rw [a]; exact congrFun (shD_n (by omega)) 2
    by_cases z : t = d.toNatClampNeg
    · have k1 : fX1 (40 + 2 * t) 1 = if w.toInt < 0 then (-1) else (-2) := by rw [a, z]; exact shD_s1
      have k3 : fX1 (40 + 2 * t) 3 = w := by rw [a, z]; exact shD_s3
      have m1 : fM1 22 t = w := by rw [b, z, sg_up_n (by decide), sg_up_s, sgu_s]
      rw [k1, k3, k0, m1]
      by_cases y : w.toInt < 0
      · rw [if_pos y]; exact Or.inl ⟨by decide, by omega⟩
      · rw [if_neg y]; exact Or.inr (Or.inl ⟨by decide, rfl, by omega, q.2.2.2⟩)
    · have k : ∀ j : Nat, fX1 (40 + 2 * t) j = fX (40 + 2 * t) j := fun j => by rw [a]; exact congrFun (shD_n (by omega)) j
      have m1 : fM1 22 t = fM 22 t := by rw [b, sg_up_n (by decide), sg_up_s, sgu_n z]
      have m2 : fM1 23 t = fM 23 t := by rw [b, sg_up_s, sgu_n z]
      rw [k, k, k, k0, m1, m2]
      exact h t ht
  · rw [if_neg q] at a b
    rw [a, b]
    exact h
theorem rShelf.row {fX fX1 fM fM1 : sg_F} {d s n : Int32} (h : rShelf fX fM) (a : fX1 = if 0 ≤ d.toInt ∧ d.toInt ≤ 5 ∧ 0 ≤ s.toInt ∧ s.toInt ≤ 4 ∧ 0 ≤ n.toInt ∧ n.toInt ≤ 60 then shR fX d.toNatClampNeg s n else fX) (b : fM1 = if 0 ≤ d.toInt ∧ d.toInt ≤ 5 ∧ 0 ≤ s.toInt ∧ s.toInt ≤ 4 ∧ 0 ≤ n.toInt ∧ n.toInt ≤ 60 then sg_up (sg_up fM 22 (sgu (fM 22) d.toNatClampNeg (50 + s))) 23 (sgu (fM 23) d.toNatClampNeg n) else fM) : rShelf fX1 fM1 := by
  by_cases q : 0 ≤ d.toInt ∧ d.toInt ≤ 5 ∧ 0 ≤ s.toInt ∧ s.toInt ≤ 4 ∧ 0 ≤ n.toInt ∧ n.toInt ≤ 60
  · rw [if_pos q] at a b
    intro t ht
    have k0 : fX1 36 2 = fX 36 2 := by rw [a]; exact congrFun (shR_n (by omega)) 2
    by_cases z : t = d.toNatClampNeg
    · have k1 : fX1 (40 + 2 * t) 1 = s := by rw [a, z]; exact shR_s1
      have k2 : fX1 (40 + 2 * t) 2 = n := by rw [a, z]; exact shR_s2
      have m1 : fM1 22 t = 50 + s := by rw [b, z, sg_up_n (by decide), sg_up_s, sgu_s]
      have m2 : fM1 23 t = n := by rw [b, z, sg_up_s, sgu_s]
      have k50 : (50 : Int32).toInt = 50 := by decide
      have e : (50 + s : Int32).toInt = 50 + s.toInt := (bn_addI (by omega) (by omega)).trans (by omega)
      rw [k1, k2, m1, m2]
      exact Or.inr (Or.inr ⟨q.2.2.1, q.2.2.2.1, e, rfl⟩)
    · have k : ∀ j : Nat, fX1 (40 + 2 * t) j = fX (40 + 2 * t) j := fun j => by rw [a]; exact congrFun (shR_n (by omega)) j
      have m1 : fM1 22 t = fM 22 t := by rw [b, sg_up_n (by decide), sg_up_s, sgu_n z]
      have m2 : fM1 23 t = fM 23 t := by rw [b, sg_up_s, sgu_n z]
      rw [k, k, k, k0, m1, m2]
      exact h t ht
  · rw [if_neg q] at a b
    rw [a, b]
    exact h
theorem rShelf.at {fX fM : sg_F} (h : rShelf fX fM) {d : Int32} (h0 : 0 ≤ d.toInt) (h5 : d.toInt ≤ 5) : ((fX (40 + 2 * d.toNatClampNeg) 1).toInt = -1 ∧ (fM 22 d.toNatClampNeg).toInt = -1) ∨ ((fX (40 + 2 * d.toNatClampNeg) 1).toInt = -2 ∧ (fM 22 d.toNatClampNeg).toInt = (fX (40 + 2 * d.toNatClampNeg) 3).toInt ∧ 0 ≤ (fX (40 + 2 * d.toNatClampNeg) 3).toInt ∧ (fX (40 + 2 * d.toNatClampNeg) 3).toInt < (fX 36 2).toInt) ∨ (0 ≤ (fX (40 + 2 * d.toNatClampNeg) 1).toInt ∧ (fX (40 + 2 * d.toNatClampNeg) 1).toInt ≤ 4 ∧ (fM 22 d.toNatClampNeg).toInt = 50 + (fX (40 + 2 * d.toNatClampNeg) 1).toInt ∧ (fX (40 + 2 * d.toNatClampNeg) 2).toInt = (fM 23 d.toNatClampNeg).toInt) := by
  have e := bn_clI h0
  exact h _ (by omega)
theorem rShelf.put {fX fM : sg_F} (h : rShelf fX fM) (hb : ∀ t : Nat, t < 6 → (fX 36 2).toInt ≤ 50) {d i : Int32} {z : Int} {r1 r2 : Int32} (h1 : rfX fX d i z r1) (h2 : rfM fM d i z r2) : r1 = r2 := by
  have h9 := hb 0 (by omega)
  unfold rfX at h1
  unfold rfM at h2
  refine Int32.toInt_inj.mp ?_
  by_cases q : 0 ≤ d.toInt ∧ d.toInt ≤ 5
  · have g := h.at q.1 q.2
    omega
  · omega
theorem rShelf.shift {fX fM : sg_F} (h : rShelf fX fM) (h9 : (fX 36 2).toInt ≤ 50) {d i e j n r1 r2 : Int32} (h1 : sfX fX d i e j n r1.toInt) (h2 : sfM fM d i e j n r2.toInt) : r1 = r2 := by
  unfold sfX at h1
  unfold sfM at h2
  refine Int32.toInt_inj.mp ?_
  by_cases q : (0 ≤ d.toInt ∧ d.toInt ≤ 5) ∧ 0 ≤ e.toInt ∧ e.toInt ≤ 5
  · have g := h.at q.1.1 q.1.2
    have g1 := h.at q.2.1 q.2.2
    omega
  · omega
theorem tkF.one {k w r1 r2 : Int} (h1 : tkF k w r1) (h2 : tkF k w r2) : r1 = r2 := by
  unfold tkF at h1 h2
  rcases h1 with ⟨a, b⟩ | ⟨a, b⟩ <;> rcases h2 with ⟨c, d⟩ | ⟨c, d⟩
  · rw [b, d]
  · exact absurd a c
  · exact absurd c a
  · rw [b, d]
theorem rShelf.taken {fX fM : sg_F} (h : rShelf fX fM) (hd : rDesk fX fM) (h9 : (fX 36 2).toInt ≤ 50) {d w r1 r2 : Int32} (h1 : tkX fX d w r1.toInt) (h2 : tkM fM d w r2.toInt) : r1 = r2 := by
  unfold tkX at h1
  unfold tkM at h2
  refine Int32.toInt_inj.mp ?_
  by_cases q : (0 ≤ d.toInt ∧ d.toInt ≤ 5) ∧ 0 ≤ w.toInt ∧ w.toInt ≤ 7
  · have g := h.at q.1.1 q.1.2
    rcases h1 with ⟨a, -⟩ | ⟨-, h1⟩
    · exact absurd q a
    rcases h2 with ⟨a, -⟩ | ⟨-, h2⟩
    · exact absurd q a
    rcases h1 with ⟨a1, b1⟩ | ⟨a1, b1⟩ | ⟨a1, b1⟩ <;> rcases h2 with ⟨a2, b2⟩ | ⟨a2, b2⟩ | ⟨a2, c2, b2⟩
    all_goals first | (exfalso; omega) | (rw [b1, b2]; done) | skip
    rcases g with g | ⟨-, g2, g3, g4⟩ | g
    · exfalso; omega
    · have e : (fX (40 + 2 * d.toNatClampNeg) 3).toNatClampNeg = (fM 22 d.toNatClampNeg).toNatClampNeg := by show (fX (40 + 2 * d.toNatClampNeg) 3).toInt.toNat = (fM 22 d.toNatClampNeg).toInt.toNat; rw [g2]
      have e2 := hd.2 (fX (40 + 2 * d.toNatClampNeg) 3).toNatClampNeg (by rw [bn_clI g3]; exact g4)
      rw [e2, e] at b1
      exact b1.one b2
    · exfalso; omega
  · rcases h1 with ⟨-, a⟩ | ⟨a, -⟩
    · rcases h2 with ⟨-, b⟩ | ⟨b, -⟩
      · rw [a, b]
      · exact absurd b q
    · exact absurd a q
/-- the elements of both are the same -/
def rEl (fX : sg_F) (LX LM : sg_L) : Prop := ∀ t : Nat, t < 6 → 0 ≤ (fX (40 + 2 * t) 1).toInt → ∀ i : Nat, (i : Int) < (fX (40 + 2 * t) 2).toInt → LX (41 + 2 * t) i = LM 24 (60 * t + i)
theorem rEl.zero : rEl f0X L0 L0 := fun _ _ _ _ _ => rfl
theorem rEl.fr {fX fX1 : sg_F} {LX LM : sg_L} (h : rEl fX LX LM) (a : ∀ t j : Nat, fX1 (40 + 2 * t) j = fX (40 + 2 * t) j) : rEl fX1 LX LM := by
  intro t ht h1 i hi
  rw [a] at h1 hi
  exact h t ht h1 i hi
theorem rEl.keep {fX fX1 : sg_F} {LX LM : sg_L} {d w : Int32} (h : rEl fX LX LM) (a : fX1 = if 0 ≤ d.toInt ∧ d.toInt ≤ 5 ∧ -1 ≤ w.toInt ∧ w.toInt < (fX 36 2).toInt then shD fX d.toNatClampNeg w else fX) : rEl fX1 LX LM := by
  by_cases q : 0 ≤ d.toInt ∧ d.toInt ≤ 5 ∧ -1 ≤ w.toInt ∧ w.toInt < (fX 36 2).toInt
  · rw [if_pos q] at a
    intro t ht h1 i hi
    by_cases z : t = d.toNatClampNeg
    · exfalso
      rw [a, z, shD_s1] at h1
      by_cases y : w.toInt < 0
      · rw [if_pos y] at h1; exact absurd h1 (by decide)
      · rw [if_neg y] at h1; exact absurd h1 (by decide)
    · rw [a, shD_n (by omega)] at h1 hi
      exact h t ht h1 i hi
  · rw [if_neg q] at a
    rw [a]; exact h
theorem rEl.row {fX fX1 : sg_F} {LX LX1 LM LM1 : sg_L} {d s n : Int32} (h : rEl fX LX LM) (hb : ∀ t : Nat, t < 6 → (fX (40 + 2 * t) 2).toInt ≤ 60) (a : fX1 = if 0 ≤ d.toInt ∧ d.toInt ≤ 5 ∧ 0 ≤ s.toInt ∧ s.toInt ≤ 4 ∧ 0 ≤ n.toInt ∧ n.toInt ≤ 60 then shR fX d.toNatClampNeg s n else fX)
    (b : (¬ (0 ≤ d.toInt ∧ d.toInt ≤ 5 ∧ 0 ≤ s.toInt ∧ s.toInt ≤ 4 ∧ 0 ≤ n.toInt ∧ n.toInt ≤ 60) ∧ LX1 = LX) ∨ ((0 ≤ d.toInt ∧ d.toInt ≤ 5 ∧ 0 ≤ s.toInt ∧ s.toInt ≤ 4 ∧ 0 ≤ n.toInt ∧ n.toInt ≤ 60) ∧ (∀ k : Nat, k ≠ 41 + 2 * d.toNatClampNeg → LX1 k = LX k) ∧ ∀ i : Nat, (i : Int) < n.toInt → LX1 (41 + 2 * d.toNatClampNeg) i = 0))
    (c : (¬ (0 ≤ d.toInt ∧ d.toInt ≤ 5 ∧ 0 ≤ s.toInt ∧ s.toInt ≤ 4 ∧ 0 ≤ n.toInt ∧ n.toInt ≤ 60) ∧ LM1 = LM) ∨ ((0 ≤ d.toInt ∧ d.toInt ≤ 5 ∧ 0 ≤ s.toInt ∧ s.toInt ≤ 4 ∧ 0 ≤ n.toInt ∧ n.toInt ≤ 60) ∧ ∀ j : Nat, LM1 24 j = if 60 * d.toInt ≤ (j : Int) ∧ (j : Int) < 60 * d.toInt + 60 then 0 else LM 24 j)) : rEl fX1 LX1 LM1 := by
  rcases b with ⟨q, b⟩ | ⟨q, b1, b2⟩ <;> rcases c with ⟨g, c⟩ | ⟨g, c⟩
  · rw [if_neg q] at a; rw [a, b, c]; exact h
  · exact absurd g q
  · exact absurd q g
  · rw [if_pos q] at a
    have e := bn_clI q.1
    intro t ht h1 i hi
    by_cases z : t = d.toNatClampNeg
    · rw [a, z, shR_s2] at hi
      rw [z, b2 i hi, c, if_pos ⟨by omega, by omega⟩]
    · rw [a, shR_n (by omega)] at h1 hi
      have g9 := hb t ht
      rw [b1 _ (by omega), c, if_neg (by omega)]
      exact h t ht h1 i hi
theorem rEl.put {fX fM : sg_F} {LX LX1 LM LM1 : sg_L} {d i : Int32} {v : Int64} (h : rEl fX LX LM) (hs : rShelf fX fM) (hb : ∀ t : Nat, t < 6 → (fX (40 + 2 * t) 2).toInt ≤ 60) (h9 : (fX 36 2).toInt ≤ 50)
    (a : (¬ okX fX d i ∧ LX1 = LX) ∨ (okX fX d i ∧ LX1 = sg_up LX (41 + 2 * d.toNatClampNeg) (sgu (LX (41 + 2 * d.toNatClampNeg)) i.toNatClampNeg (cutF (fX (40 + 2 * d.toNatClampNeg) 1).toInt v))))
    (b : (¬ okM fM d i ∧ LM1 = LM) ∨ (okM fM d i ∧ LM1 = sg_up LM 24 (sgu (LM 24) (60 * d.toNatClampNeg + i.toNatClampNeg) (cutF ((fM 22 d.toNatClampNeg).toInt - 50) v)))) : rEl fX LX1 LM1 := by
  have ho : okX fX d i ↔ okM fM d i := by
    unfold okX okM
    by_cases q : 0 ≤ d.toInt ∧ d.toInt ≤ 5
    · have g := hs.at q.1 q.2
      omega
    · omega
  rcases a with ⟨q, a⟩ | ⟨q, a⟩ <;> rcases b with ⟨g, b⟩ | ⟨g, b⟩
  · rw [a, b]; exact h
  · exact absurd (ho.mpr g) q
  · exact absurd (ho.mp q) g
  · unfold okX at q
    unfold okM at g
    have k := hs.at q.1.1 q.1.2
    have e0 := bn_clI q.1.1
    have e1 := bn_clI q.2.2.1
    have g1 := hb d.toNatClampNeg (by omega)
    have es : (fM 22 d.toNatClampNeg).toInt - 50 = (fX (40 + 2 * d.toNatClampNeg) 1).toInt := by omega
    rw [es] at b
    intro t ht h1 j hj
    rw [a, b, sg_up_s]
    have g2 := hb t ht
    by_cases z : t = d.toNatClampNeg
    · rw [z, sg_up_s]
      by_cases y : j = i.toNatClampNeg
      · rw [y, sgu_s, sgu_s]
      · rw [sgu_n y, sgu_n (by omega), ← z]
        exact h t ht h1 j hj
    · rw [sg_up_n (by omega), sgu_n (by omega)]
      exact h t ht h1 j hj
theorem rEl.shift {fX fM : sg_F} {LX LX1 LM LM1 : sg_L} {d i e j n r1 r2 : Int32} (h : rEl fX LX LM) (hs : rShelf fX fM) (hb : ∀ t : Nat, t < 6 → (fX (40 + 2 * t) 2).toInt ≤ 60) (h9 : (fX 36 2).toInt ≤ 50) (h1 : sfX fX d i e j n r1.toInt) (h2 : sfM fM d i e j n r2.toInt)
    (a : (r1.toInt < 0 ∧ LX1 = LX) ∨ (0 ≤ r1.toInt ∧ LX1 = sg_up LX (41 + 2 * e.toNatClampNeg) (va_cpy (LX (41 + 2 * d.toNatClampNeg)) (LX (41 + 2 * e.toNatClampNeg)) i.toNatClampNeg j.toNatClampNeg n.toNatClampNeg)))
    (b : (r2.toInt < 0 ∧ LM1 = LM) ∨ (0 ≤ r2.toInt ∧ LM1 24 = va_cpy (LM 24) (LM 24) (60 * d.toNatClampNeg + i.toNatClampNeg) (60 * e.toNatClampNeg + j.toNatClampNeg) n.toNatClampNeg)) : rEl fX LX1 LM1 := by
  have hr := hs.shift h9 h1 h2
  subst hr
  rcases a with ⟨q, a⟩ | ⟨q, a⟩ <;> rcases b with ⟨g, b⟩ | ⟨g, b⟩
  · rw [a, b]; exact h
  · exfalso; omega
  · exfalso; omega
  · unfold sfX at h1
    rcases h1 with ⟨-, y⟩ | ⟨⟨y1, y2⟩, y⟩
    · exfalso; omega
    have k1 := hs.at y1.1 y1.2
    have k2 := hs.at y2.1 y2.2
    have e1 := bn_clI y1.1
    have e2 := bn_clI y2.1
    rcases y with ⟨-, y⟩ | ⟨-, -, ⟨-, y⟩ | ⟨u0, u1, ⟨-, y⟩ | ⟨⟨y3, y4, y5, y6, y7⟩, -⟩⟩⟩
    · exfalso; omega
    · exfalso; omega
    · exfalso; omega
    have e3 := bn_clI y3
    have e4 := bn_clI y4
    have e5 := bn_clI y5
    have b1 := hb d.toNatClampNeg (by omega)
    have b2 := hb e.toNatClampNeg (by omega)
    intro t ht g1 x hx
    have b3 := hb t ht
    rw [a, b]
    by_cases z : t = e.toNatClampNeg
    · rw [z, sg_up_s]
      unfold va_cpy
      by_cases w : j.toNatClampNeg ≤ x ∧ x < j.toNatClampNeg + n.toNatClampNeg
      · rw [if_pos w, if_pos ⟨by omega, by omega⟩, h d.toNatClampNeg (by omega) u0 _ (by omega)]
        exact congrArg (LM 24) (by omega)
      · rw [if_neg w, if_neg (by omega), ← z]
        exact h t ht g1 x hx
    · rw [sg_up_n (by omega)]
      unfold va_cpy
      rw [if_neg (by omega)]
      exact h t ht g1 x hx
theorem rEl.same {fX fM : sg_F} {LX LM : sg_L} {d i : Int32} {r1 r2 : Int64} (h : rEl fX LX LM) (hs : rShelf fX fM) (h9 : (fX 36 2).toInt ≤ 50) (a : (¬ okX fX d i ∧ r1 = (-9223372036854775808)) ∨ (okX fX d i ∧ r1 = LX (41 + 2 * d.toNatClampNeg) i.toNatClampNeg)) (b : (¬ okM fM d i ∧ r2 = (-9223372036854775808)) ∨ (okM fM d i ∧ r2 = LM 24 (60 * d.toNatClampNeg + i.toNatClampNeg))) : r1 = r2 := by
  have ho : okX fX d i ↔ okM fM d i := by
    unfold okX okM
    by_cases q : 0 ≤ d.toInt ∧ d.toInt ≤ 5
    · have g := hs.at q.1 q.2
      omega
    · omega
  rcases a with ⟨q, a⟩ | ⟨q, a⟩ <;> rcases b with ⟨g, b⟩ | ⟨g, b⟩
  · rw [a, b]
  · exact absurd (ho.mpr g) q
  · exact absurd (ho.mp q) g
  · unfold okX at q
    have e0 := bn_clI q.1.1
    have e1 := bn_clI q.2.2.1
    rw [a, b]
    exact h _ (by omega) q.2.1 _ (by omega)
/-! what the calls of shelves do, read off the functions -/
theorem pX_hasPlaces (x n : Int32) (t : Nat) (f : sg_F) (L : sg_L) (hb : 0 ≤ (f (40 + 2 * t) 2).toInt ∧ (f (40 + 2 * t) 2).toInt ≤ 60) : sX7_hasPlaces x n t f L = if 0 ≤ x.toInt ∧ 0 ≤ n.toInt ∧ x.toInt + n.toInt ≤ (f (40 + 2 * t) 2).toInt then 1 else 0 := by
  unfold sX7_hasPlaces; (repeat first | rw [spl_d] | rw [spl2_d])
  by_cases h1 : x.toInt < 0
  · rw [if_pos h1, if_neg (by omega)]
  rw [if_neg h1]
  by_cases h2 : n.toInt < 0
  · rw [if_pos h2, if_neg (by omega)]
  rw [if_neg h2]
  by_cases h3 : (f (40 + 2 * t) 2).toInt < x.toInt
  · rw [if_pos h3, if_neg (by omega)]
  rw [if_neg h3]
  have e : (f (40 + 2 * t) 2 - x).toInt = (f (40 + 2 * t) 2).toInt - x.toInt := bn_subI (by omega) (by omega)
  rw [e]
  by_cases h4 : (f (40 + 2 * t) 2).toInt - x.toInt < n.toInt
  · rw [if_pos h4, if_neg (by omega)]
  · rw [if_neg h4, if_pos (by omega)]
theorem bX_keep (d w : Int32) (f : sg_F) (L : sg_L) : sX11_keep d w f L = if 0 ≤ d.toInt ∧ d.toInt ≤ 5 ∧ -1 ≤ w.toInt ∧ w.toInt < (f 36 2).toInt then (1, shD f d.toNatClampNeg w) else (-1, f) := by
  unfold sX11_keep; (repeat first | rw [spl_d] | rw [spl2_d])
  rw [pX_isShelf]
  by_cases h : 0 ≤ d.toInt ∧ d.toInt ≤ 5
  case neg => rw [if_neg h, if_neg zk0, if_neg (by omega)]
  rw [if_pos h, if_pos rfl]
  by_cases h1 : w.toInt < -1
  · rw [if_pos h1, if_neg (by omega)]
  rw [if_neg h1]
  by_cases h2 : w.toInt < (f 36 2).toInt
  case neg => rw [if_neg h2, if_neg (by omega)]
  rw [if_pos h2, if_pos (by omega)]
  unfold sX7_takesDesk shD; (repeat first | rw [spl_d] | rw [spl2_d])
  by_cases h3 : w.toInt < 0
  · rw [if_pos h3, if_pos h3, sg_upup, sg_up_s]
  · rw [if_neg h3, if_neg h3, sg_upup, sg_up_s]
theorem bM_keep (d w : Int32) (f : sg_F) (L : sg_L) (hb : 0 ≤ (f 0 45).toInt ∧ (f 0 45).toInt ≤ 50) : sX12_keep d w f L = if 0 ≤ d.toInt ∧ d.toInt ≤ 5 ∧ -1 ≤ w.toInt ∧ w.toInt < (f 0 45).toInt then (1, sg_up (sg_up f 22 (sgu (f 22) d.toNatClampNeg w)) 23 (sgu (f 23) d.toNatClampNeg 0)) else (-1, f) := by
  unfold sX12_keep; (repeat first | rw [spl_d] | rw [spl2_d])
  rw [pM_isShelf, pM_isBody _ _ _ hb]
  have e : sX12_keep_b22 d w f L = (1, sg_up (sg_up f 22 (sgu (f 22) d.toNatClampNeg w)) 23 (sgu (f 23) d.toNatClampNeg 0)) := by
    unfold sX12_keep_b22; (repeat first | rw [spl_d] | rw [spl2_d])
    rw [sg_up_n (by decide)]
  rw [e]
  by_cases h : 0 ≤ d.toInt ∧ d.toInt ≤ 5
  case neg => rw [if_neg h, if_neg zk0, if_neg (by omega)]
  rw [if_pos h, if_pos rfl]
  by_cases h1 : w.toInt = -1
  · rw [if_pos h1, if_pos (by omega)]
  rw [if_neg h1]
  by_cases h2 : 0 ≤ w.toInt ∧ w.toInt < (f 0 45).toInt
  · rw [if_pos h2, if_pos rfl, if_pos (by omega)]
  · rw [if_neg h2, if_neg zk0, if_neg (by omega)]
/-- what a row of nothing leaves, from a on, up to b -/
def zfill (g : Nat → Int64) (a b : Nat) : Nat → Int64 := fun j => if a ≤ j ∧ j < b then 0 else g j
theorem zfill_s {g : Nat → Int64} {a b : Nat} (h : a ≤ b) : sgu (zfill g a b) b 0 = zfill g a (b + 1) := by
  funext j
  by_cases z : j = b
  · rw [z, sgu_s]; unfold zfill; rw [if_pos ⟨h, by omega⟩]
  · rw [sgu_n z]; unfold zfill
    by_cases q : a ≤ j ∧ j < b
    · rw [if_pos q, if_pos ⟨q.1, by omega⟩]
    · rw [if_neg q, if_neg (fun w => q ⟨w.1, by omega⟩)]
theorem zfill_0 {g : Nat → Int64} {a : Nat} : zfill g a a = g := by
  funext j; unfold zfill; rw [if_neg (by omega)]
theorem cl_inc {x : Int32} (h : 0 ≤ x.toInt) (h1 : x.toInt < 2000000000) : (x + 1).toInt = x.toInt + 1 ∧ (x + 1).toNatClampNeg = x.toNatClampNeg + 1 := by
  have k1 : (1 : Int32).toInt = 1 := by decide
  have e : (x + 1).toInt = x.toInt + 1 := (bn_addI (by omega) (by omega)).trans (by omega)
  have a := bn_clI h
  have b := bn_clI (x := x + 1) (by omega)
  exact ⟨e, by omega⟩
theorem bX_rowl (s n : Int32) (t : Nat) (f : sg_F) (L : sg_L) (hn : n.toInt ≤ 60) (hf : (f (40 + 2 * t) 2) = n) : ∀ (m : Nat) (y : Int32), 0 ≤ y.toInt → y.toInt ≤ n.toInt → n.toInt - y.toInt < (m : Int) → ∀ a : Nat, a ≤ y.toNatClampNeg → sX7_takesRow_l12 s n t m y f (sg_up L (41 + 2 * t) (zfill (L (41 + 2 * t)) a y.toNatClampNeg)) = (f, sg_up L (41 + 2 * t) (zfill (L (41 + 2 * t)) a n.toNatClampNeg)) := by
  intro m
  induction m with
  | zero => intro y h0 h1 h2; exact absurd h2 (by omega)
  | succ m ih =>
    intro y h0 h1 h2 a ha
    show sX7_takesRow_h12 s n t (sX7_takesRow_l12 s n t m) y f _ = _
    unfold sX7_takesRow_h12; (repeat first | rw [spl_d] | rw [spl2_d])
    have e0 := bn_clI h0
    by_cases c : y.toInt < n.toInt
    · obtain ⟨e1, e2⟩ := cl_inc h0 (by omega)
      rw [if_pos c, sg_up_s, sg_upup, zfill_s ha, ← e2]
      exact ih (y + 1) (by omega) (by omega) (by omega) a (by omega)
    · rw [if_neg c, show y.toNatClampNeg = n.toNatClampNeg from by have := bn_clI (x := n) (by omega); omega]
theorem bX_row (d s n : Int32) (f : sg_F) (L : sg_L) : (0 ≤ d.toInt ∧ d.toInt ≤ 5 ∧ 0 ≤ s.toInt ∧ s.toInt ≤ 4 ∧ 0 ≤ n.toInt ∧ n.toInt ≤ 60 ∧ sX11_row d s n f L = (1, shR f d.toNatClampNeg s n, sg_up L (41 + 2 * d.toNatClampNeg) (zfill (L (41 + 2 * d.toNatClampNeg)) 0 n.toNatClampNeg))) ∨ (¬ (0 ≤ d.toInt ∧ d.toInt ≤ 5 ∧ 0 ≤ s.toInt ∧ s.toInt ≤ 4 ∧ 0 ≤ n.toInt ∧ n.toInt ≤ 60) ∧ ∃ r : Int32, sX11_row d s n f L = (r, f, L)) := by
  unfold sX11_row; (repeat first | rw [spl_d] | rw [spl2_d])
  rw [pX_isShelf]
  by_cases h : 0 ≤ d.toInt ∧ d.toInt ≤ 5
  case neg => rw [if_neg h, if_neg zk0]; exact Or.inr ⟨by omega, _, rfl⟩
  rw [if_pos h, if_pos rfl]
  by_cases h1 : s.toInt < 0
  · rw [if_pos h1]; exact Or.inr ⟨by omega, _, rfl⟩
  rw [if_neg h1]
  by_cases h2 : 4 < s.toInt
  · rw [if_pos h2]; exact Or.inr ⟨by omega, _, rfl⟩
  rw [if_neg h2]
  by_cases h3 : 60 < n.toInt
  · rw [if_pos h3]; exact Or.inr ⟨by omega, _, rfl⟩
  rw [if_neg h3]
  by_cases h4 : n.toInt < 0
  · rw [if_pos h4]; exact Or.inr ⟨by omega, _, rfl⟩
  rw [if_neg h4]
  refine Or.inl ⟨h.1, h.2, by omega, by omega, by omega, by omega, ?_⟩
  have e : sX7_takesRow s n d.toNatClampNeg f L = (shR f d.toNatClampNeg s n, sg_up L (41 + 2 * d.toNatClampNeg) (zfill (L (41 + 2 * d.toNatClampNeg)) 0 n.toNatClampNeg)) := by
    unfold sX7_takesRow; (repeat first | rw [spl_d] | rw [spl2_d])
    have ef : sg_up (sg_up f (40 + 2 * d.toNatClampNeg) (sgu (f (40 + 2 * d.toNatClampNeg)) 1 s)) (40 + 2 * d.toNatClampNeg) (sgu (sg_up f (40 + 2 * d.toNatClampNeg) (sgu (f (40 + 2 * d.toNatClampNeg)) 1 s) (40 + 2 * d.toNatClampNeg)) 2 n) = shR f d.toNatClampNeg s n := by
      unfold shR
      rw [sg_upup, sg_up_s]
    rw [ef]
    have z := bX_rowl s n d.toNatClampNeg (shR f d.toNatClampNeg s n) L (by omega) shR_s2 61 0 (by decide) (by show (0 : Int32).toInt ≤ _; have : (0 : Int32).toInt = 0 := (by decide); omega) (by have : (0 : Int32).toInt = 0 := (by decide); omega) 0 (Nat.zero_le _)
    rw [show (0 : Int32).toNatClampNeg = 0 from by decide, zfill_0, sg_up_id] at z
    exact z
  rw [e]
theorem bM_rowl (d s n : Int32) (f : sg_F) (L : sg_L) (hd : 0 ≤ d.toInt ∧ d.toInt ≤ 5) : ∀ (m : Nat) (y : Int32), 60 * d.toInt ≤ y.toInt → y.toInt ≤ 60 * d.toInt + 60 → 60 * d.toInt + 60 - y.toInt < (m : Int) → sX12_row_l57 d s n m y f (sg_up L 24 (zfill (L 24) (60 * d.toNatClampNeg) y.toNatClampNeg)) = (1, f, sg_up L 24 (zfill (L 24) (60 * d.toNatClampNeg) (60 * d.toNatClampNeg + 60))) := by
  have k60 : (60 : Int32).toInt = 60 := by decide
  have em : (60 * d).toInt = 60 * d.toInt := bn_mulJ k60 (by omega) (by omega)
  have ea : (60 * d + 60).toInt = 60 * d.toInt + 60 := (bn_addI (by omega) (by omega)).trans (by omega)
  have ed := bn_clI hd.1
  intro m
  induction m with
  | zero => intro y h0 h1 h2; exact absurd h2 (by omega)
  | succ m ih =>
    intro y h0 h1 h2
    show sX12_row_h57 d s n (sX12_row_l57 d s n m) y f _ = _
    unfold sX12_row_h57; (repeat first | rw [spl_d] | rw [spl2_d])
    rw [ea]
    have e0 := bn_clI (x := y) (by omega)
    by_cases c : y.toInt < 60 * d.toInt + 60
    · obtain ⟨e1, e2⟩ := cl_inc (x := y) (by omega) (by omega)
      rw [if_pos c, sg_up_s, sg_upup, zfill_s (by omega), ← e2]
      exact ih (y + 1) (by omega) (by omega) (by omega)
    · rw [if_neg c, show y.toNatClampNeg = 60 * d.toNatClampNeg + 60 from by omega]
theorem bM_row (d s n : Int32) (f : sg_F) (L : sg_L) : (0 ≤ d.toInt ∧ d.toInt ≤ 5 ∧ 0 ≤ s.toInt ∧ s.toInt ≤ 4 ∧ 0 ≤ n.toInt ∧ n.toInt ≤ 60 ∧ sX12_row d s n f L = (1, sg_up (sg_up f 22 (sgu (f 22) d.toNatClampNeg (50 + s))) 23 (sgu (f 23) d.toNatClampNeg n), sg_up L 24 (zfill (L 24) (60 * d.toNatClampNeg) (60 * d.toNatClampNeg + 60)))) ∨ (¬ (0 ≤ d.toInt ∧ d.toInt ≤ 5 ∧ 0 ≤ s.toInt ∧ s.toInt ≤ 4 ∧ 0 ≤ n.toInt ∧ n.toInt ≤ 60) ∧ ∃ r : Int32, sX12_row d s n f L = (r, f, L)) := by
  have k0 : (0 : Int64).toInt = 0 := by decide
  have k4 : (4 : Int64).toInt = 4 := by decide
  have e := Int32.toInt_toInt64 s
  unfold sX12_row; (repeat first | rw [spl_d] | rw [spl2_d])
  rw [pM_isShelf, pM_within, k0, k4, e]
  by_cases h : 0 ≤ d.toInt ∧ d.toInt ≤ 5
  case neg => rw [if_neg h, if_neg zk0]; exact Or.inr ⟨by omega, _, rfl⟩
  rw [if_pos h, if_pos rfl]
  by_cases h1 : 0 ≤ s.toInt ∧ s.toInt ≤ 4
  case neg => rw [if_neg h1, if_neg zk0]; exact Or.inr ⟨by omega, _, rfl⟩
  rw [if_pos h1, if_pos rfl]
  by_cases h3 : 60 < n.toInt
  · rw [if_pos h3]; exact Or.inr ⟨by omega, _, rfl⟩
  rw [if_neg h3]
  by_cases h4 : n.toInt < 0
  · rw [if_pos h4]; exact Or.inr ⟨by omega, _, rfl⟩
  rw [if_neg h4]
  refine Or.inl ⟨h.1, h.2, h1.1, h1.2, by omega, by omega, ?_⟩
  have k60 : (60 : Int32).toInt = 60 := by decide
  have em : (60 * d).toInt = 60 * d.toInt := bn_mulJ k60 (by omega) (by omega)
  have ed := bn_clI h.1
  have ey := bn_clI (x := 60 * d) (by omega)
  rw [sg_up_n (show 23 ≠ 22 by decide)]
  have z := bM_rowl d s n (sg_up (sg_up f 22 (sgu (f 22) d.toNatClampNeg (50 + s))) 23 (sgu (f 23) d.toNatClampNeg n)) L h 361 (60 * d) (by omega) (by omega) (by omega)
  rw [show (60 * d).toNatClampNeg = 60 * d.toNatClampNeg from by omega, zfill_0, sg_up_id] at z
  exact z
theorem rShelf.crow {fX fX1 fM fM1 : sg_F} {LX LM LX1 LM1 : sg_L} {d s n r1 r2 : Int32} (h : rShelf fX fM) (he : rEl fX LX LM) (hb : ∀ t : Nat, t < 6 → (fX (40 + 2 * t) 2).toInt ≤ 60) (e1 : (r1, fX1, LX1) = sX11_row d s n fX LX) (e2 : (r2, fM1, LM1) = sX12_row d s n fM LM) : rShelf fX1 fM1 ∧ rEl fX1 LX1 LM1 := by
  have h1 := bX_row d s n fX LX
  have h2 := bM_row d s n fM LM
  rw [← e1] at h1
  rw [← e2] at h2
  rcases h1 with ⟨q1, q2, q3, q4, q5, q6, q⟩ | ⟨q, r, g⟩
  · rcases h2 with ⟨-, -, -, -, -, -, g⟩ | ⟨g, -⟩
    · obtain ⟨-, a⟩ := Prod.mk.inj q
      obtain ⟨a, b⟩ := Prod.mk.inj a
      obtain ⟨-, c⟩ := Prod.mk.inj g
      obtain ⟨c, d9⟩ := Prod.mk.inj c
      have q := (⟨q1, q2, q3, q4, q5, q6⟩ : 0 ≤ d.toInt ∧ d.toInt ≤ 5 ∧ 0 ≤ s.toInt ∧ s.toInt ≤ 4 ∧ 0 ≤ n.toInt ∧ n.toInt ≤ 60)
      refine ⟨h.row (d := d) (s := s) (n := n) (by rw [if_pos q]; exact a) (by rw [if_pos q]; exact c), ?_⟩
      refine he.row (d := d) (s := s) (n := n) hb (by rw [if_pos q]; exact a) (Or.inr ⟨q, fun k hk => by rw [b, sg_up_n hk], fun i hi => ?_⟩) (Or.inr ⟨q, fun j => ?_⟩)
      · rw [b, sg_up_s]; unfold zfill; rw [if_pos ⟨Nat.zero_le _, by have := bn_clI (x := n) (by omega); omega⟩]
      · rw [d9, sg_up_s]; unfold zfill
        have ed := bn_clI (x := d) (by omega)
        by_cases z : 60 * d.toInt ≤ (j : Int) ∧ (j : Int) < 60 * d.toInt + 60
        · rw [if_pos z, if_pos (by omega)]
        · rw [if_neg z, if_neg (by omega)]
    · exact absurd ⟨q1, q2, q3, q4, q5, q6⟩ g
  · rcases h2 with ⟨g1, g2, g3, g4, g5, g6, -⟩ | ⟨-, r9, g9⟩
    · exact absurd ⟨g1, g2, g3, g4, g5, g6⟩ q
    · obtain ⟨-, a⟩ := Prod.mk.inj g
      obtain ⟨a, b⟩ := Prod.mk.inj a
      obtain ⟨-, c⟩ := Prod.mk.inj g9
      obtain ⟨c, d9⟩ := Prod.mk.inj c
      rw [a, b, c, d9]
      exact ⟨h, he⟩
theorem rShelf.ckeep {fX fX1 fM fM1 : sg_F} {LX LM : sg_L} {d w r1 r2 : Int32} (h : rShelf fX fM) (hd : rDesk fX fM) (he : rEl fX LX LM) (hp : 0 ≤ (fX 36 2).toInt ∧ (fX 36 2).toInt ≤ 50) (e1 : (r1, fX1) = sX11_keep d w fX LX) (e2 : (r2, fM1) = sX12_keep d w fM LM) : r1 = r2 ∧ rShelf fX1 fM1 ∧ rEl fX1 LX LM := by
  have h1 := hd.1
  rw [bX_keep] at e1
  rw [bM_keep _ _ _ _ (by omega), ← h1] at e2
  by_cases q : 0 ≤ d.toInt ∧ d.toInt ≤ 5 ∧ -1 ≤ w.toInt ∧ w.toInt < (fX 36 2).toInt
  · rw [if_pos q] at e1 e2
    obtain ⟨a, b⟩ := Prod.mk.inj e1
    obtain ⟨c, d9⟩ := Prod.mk.inj e2
    exact ⟨by rw [a, c], h.keep (d := d) (w := w) hd (by rw [if_pos q]; exact b) (by rw [← h1, if_pos q]; exact d9), he.keep (d := d) (w := w) (by rw [if_pos q]; exact b)⟩
  · rw [if_neg q] at e1 e2
    obtain ⟨a, b⟩ := Prod.mk.inj e1
    obtain ⟨c, d9⟩ := Prod.mk.inj e2
    rw [a, b, c, d9]
    exact ⟨rfl, h, he⟩
theorem rfX_at (d i : Int32) (f : sg_F) (L : sg_L) (hs : ∀ t : Nat, t < 6 → -2 ≤ (f (40 + 2 * t) 1).toInt ∧ (f (40 + 2 * t) 1).toInt ≤ 4) (hb : ∀ t : Nat, t < 6 → 0 ≤ (f (40 + 2 * t) 2).toInt ∧ (f (40 + 2 * t) 2).toInt ≤ 60) : rfX f d i 0 (sX11_refusalAt d i f L) := by
  have k0 : (0 : Int32).toInt = 0 := by decide
  have k1 : (1 : Int32).toInt = 1 := by decide
  have k2 : (-1 : Int32).toInt = -1 := by decide
  have k3 : (-11 : Int32).toInt = -11 := by decide
  have k4 : (-12 : Int32).toInt = -12 := by decide
  have k5 : (-13 : Int32).toInt = -13 := by decide
  unfold sX11_refusalAt sX7_isRow rfX; (repeat first | rw [spl_d] | rw [spl2_d])
  rw [pX_isShelf]
  by_cases h : 0 ≤ d.toInt ∧ d.toInt ≤ 5
  case neg => rw [if_neg h, if_neg zk0]; omega
  have ed := bn_clI h.1
  have s9 := hs d.toNatClampNeg (by omega)
  rw [pX_hasPlaces _ _ _ _ _ (hb d.toNatClampNeg (by omega)), if_pos h, if_pos rfl]
  by_cases h1 : (f (40 + 2 * d.toNatClampNeg) 1).toInt = -1
  · rw [if_pos h1]; omega
  rw [if_neg h1]
  by_cases h2 : (f (40 + 2 * d.toNatClampNeg) 1).toInt < 0
  · rw [if_pos h2, if_pos k0]; omega
  rw [if_neg h2, if_neg (by rw [k1]; decide)]
  by_cases h3 : 0 ≤ i.toInt ∧ 0 ≤ (1 : Int32).toInt ∧ i.toInt + (1 : Int32).toInt ≤ (f (40 + 2 * d.toNatClampNeg) 2).toInt
  · rw [if_pos h3, if_pos rfl]; omega
  · rw [if_neg h3, if_neg zk0]; omega
theorem rfM_at (d i : Int32) (f : sg_F) (L : sg_L) : rfM f d i 0 (sX12_refusal d i f L) := by
  have k0 : (0 : Int32).toInt = 0 := by decide
  have k2 : (-1 : Int32).toInt = -1 := by decide
  have k3 : (-11 : Int32).toInt = -11 := by decide
  have k4 : (-12 : Int32).toInt = -12 := by decide
  have k5 : (-13 : Int32).toInt = -13 := by decide
  unfold sX12_refusal rfM; (repeat first | rw [spl_d] | rw [spl2_d])
  rw [pM_isShelf]
  by_cases h : 0 ≤ d.toInt ∧ d.toInt ≤ 5
  case neg => rw [if_neg h, if_neg zk0]; omega
  rw [if_pos h, if_pos rfl]
  by_cases h1 : (f 22 d.toNatClampNeg).toInt < 0
  · rw [if_pos h1]; omega
  rw [if_neg h1]
  by_cases h2 : (f 22 d.toNatClampNeg).toInt < 50
  · rw [if_pos h2]; omega
  rw [if_neg h2]
  by_cases h3 : i.toInt < 0
  · rw [if_pos h3]; omega
  rw [if_neg h3]
  by_cases h4 : i.toInt < (f 23 d.toNatClampNeg).toInt
  · rw [if_pos h4]; omega
  · rw [if_neg h4]; omega
theorem okX_iff {f : sg_F} {d i r : Int32} (h : rfX f d i 0 r) : okX f d i ↔ r = 0 := by
  have k0 : (0 : Int32).toInt = 0 := by decide
  constructor
  · intro q
    refine Int32.toInt_inj.mp ?_
    unfold rfX at h; unfold okX at q
    omega
  · intro q
    rw [q, rfX, k0] at h
    unfold okX
    omega
theorem okM_iff {f : sg_F} {d i r : Int32} (h : rfM f d i 0 r) : okM f d i ↔ r = 0 := by
  have k0 : (0 : Int32).toInt = 0 := by decide
  constructor
  · intro q
    refine Int32.toInt_inj.mp ?_
    unfold rfM at h; unfold okM at q
    omega
  · intro q
    rw [q, rfM, k0] at h
    unfold okM
    omega
theorem lcmp0 (x : Int64) : ((lg_cmp x 0).toInt = 0) ↔ x.toInt = 0 := by
  have z := bn_lcmpI x 0
  have k : (0 : Int64).toInt = 0 := by decide
  omega
theorem bX_cut (v : Int64) (t : Nat) (f : sg_F) (L : sg_L) : sX7_cut v t f L = cutF (f (40 + 2 * t) 1).toInt v := by
  unfold sX7_cut cutF; (repeat first | rw [spl_d] | rw [spl2_d])
  by_cases h0 : (f (40 + 2 * t) 1).toInt = 0
  · rw [if_pos h0, if_pos h0]
  rw [if_neg h0, if_neg h0]
  by_cases h1 : (f (40 + 2 * t) 1).toInt = 1
  · rw [if_pos h1, if_pos h1]
  rw [if_neg h1, if_neg h1]
  by_cases h2 : (f (40 + 2 * t) 1).toInt = 2
  · rw [if_pos h2, if_pos h2]
  rw [if_neg h2, if_neg h2]
  by_cases h4 : (f (40 + 2 * t) 1).toInt = 4
  · rw [if_pos h4, if_pos h4]
    by_cases z : v.toInt = 0
    · rw [if_pos ((lcmp0 v).mpr z), if_pos z]
    · rw [if_neg (fun q => z ((lcmp0 v).mp q)), if_neg z]
  rw [if_neg h4, if_neg h4]
  by_cases h3 : (f (40 + 2 * t) 1).toInt = 3
  · rw [if_pos h3]
  · rw [if_neg h3]
theorem bM_cut (s : Int32) (v : Int64) (f : sg_F) (L : sg_L) : sX12_asSort s v f L = cutF s.toInt v := by
  unfold sX12_asSort cutF; (repeat first | rw [spl_d] | rw [spl2_d])
  by_cases h0 : s.toInt = 0
  · rw [if_pos h0, if_pos h0]
  rw [if_neg h0, if_neg h0]
  by_cases h1 : s.toInt = 1
  · rw [if_pos h1, if_pos h1]
  rw [if_neg h1, if_neg h1]
  by_cases h2 : s.toInt = 2
  · rw [if_pos h2, if_pos h2]
  rw [if_neg h2, if_neg h2]
  by_cases h4 : s.toInt = 4
  · rw [if_pos h4, if_pos h4]
    by_cases z : v.toInt = 0
    · rw [if_pos ((lcmp0 v).mpr z), if_pos z]
    · rw [if_neg (fun q => z ((lcmp0 v).mp q)), if_neg z]
  rw [if_neg h4, if_neg h4]
/-- bounds of shelves, out of the bounds of all -/
theorem shB {f : sg_F} (hI : sgI loX hiX f) : (∀ t : Nat, t < 6 → -2 ≤ (f (40 + 2 * t) 1).toInt ∧ (f (40 + 2 * t) 1).toInt ≤ 4) ∧ ∀ t : Nat, t < 6 → 0 ≤ (f (40 + 2 * t) 2).toInt ∧ (f (40 + 2 * t) 2).toInt ≤ 60 := ⟨fun _ ht => shb_1 hI ht, fun _ ht => shb_2 hI ht⟩
theorem rShelf.cput {fX fM : sg_F} {LX LM LX1 LM1 : sg_L} {d i r1 r2 : Int32} {v : Int64} (h : rShelf fX fM) (he : rEl fX LX LM) (hI : sgI loX hiX fX) (h9 : (fX 36 2).toInt ≤ 50) (e1 : (r1, LX1) = sX11_put d i v fX LX) (e2 : (r2, LM1) = sX12_put d i v fM LM) : r1 = r2 ∧ rEl fX LX1 LM1 := by
  obtain ⟨hs, hb⟩ := shB hI
  have a1 := rfX_at d i fX LX hs hb
  have a2 := rfM_at d i fM LM
  have hr := h.put (fun _ _ => h9) a1 a2
  have o1 := okX_iff a1
  have o2 := okM_iff a2
  unfold sX11_put at e1; (repeat first | rw [spl_d] at e1 | rw [spl2_d] at e1)
  unfold sX12_put at e2; (repeat first | rw [spl_d] at e2 | rw [spl2_d] at e2)
  rw [bX_cut] at e1
  rw [bM_cut] at e2
  by_cases q : sX11_refusalAt d i fX LX = 0
  · rw [if_pos q] at e1
    rw [if_pos (by rw [← hr]; exact q)] at e2
    have qx := o1.mpr q
    have qm := o2.mpr (by rw [← hr]; exact q)
    have e2 : (r2, LM1) = _ := e2
    unfold sX12_put_b37 at e2
    rw [if_pos (by decide)] at e2
    obtain ⟨a, b⟩ := Prod.mk.inj e1
    obtain ⟨c, g⟩ := Prod.mk.inj e2
    refine ⟨by rw [a, c], he.put (d := d) (i := i) (v := v) h (fun t ht => (hb t ht).2) h9 (Or.inr ⟨qx, b⟩) (Or.inr ⟨qm, ?_⟩)⟩
    unfold okM at qm
    have k50 : (50 : Int32).toInt = 50 := by decide
    have k60 : (60 : Int32).toInt = 60 := by decide
    have em : (60 * d).toInt = 60 * d.toInt := bn_mulJ k60 (by omega) (by omega)
    have hq := h.at qm.1.1 qm.1.2
    have bl := hb d.toNatClampNeg (by have := bn_clI qm.1.1; omega)
    have ea : (60 * d + i).toInt = 60 * d.toInt + i.toInt := (bn_addI (by omega) (by omega)).trans (by omega)
    have es : (fM 22 d.toNatClampNeg - 50).toInt = (fM 22 d.toNatClampNeg).toInt - 50 := (bn_subI (by omega) (by omega)).trans (by omega)
    have c1 := bn_clI qm.1.1
    have c2 := bn_clI qm.2.2.1
    have c3 := bn_clI (x := 60 * d + i) (by omega)
    rw [g, es, show (60 * d + i).toNatClampNeg = 60 * d.toNatClampNeg + i.toNatClampNeg from by omega]
  · rw [if_neg q] at e1
    rw [if_neg (by rw [← hr]; exact q)] at e2
    unfold sX12_put_b37 at e2
    obtain ⟨a, b⟩ := Prod.mk.inj e1
    rw [if_neg (fun z => q (by rw [hr]; exact Int32.toInt_inj.mp (z.trans (by decide))))] at e2
    obtain ⟨c, g⟩ := Prod.mk.inj e2
    rw [a, b, c, g]
    exact ⟨hr, he⟩
theorem rShelf.celement {fX fM : sg_F} {LX LM : sg_L} {d i : Int32} {r1 r2 : Int64} (h : rShelf fX fM) (he : rEl fX LX LM) (hI : sgI loX hiX fX) (h9 : (fX 36 2).toInt ≤ 50) (e1 : r1 = sX11_element d i fX LX) (e2 : r2 = sX12_element d i fM LM) : r1 = r2 := by
  obtain ⟨hs, hb⟩ := shB hI
  have a1 := rfX_at d i fX LX hs hb
  have a2 := rfM_at d i fM LM
  have hr := h.put (fun _ _ => h9) a1 a2
  have o1 := okX_iff a1
  have o2 := okM_iff a2
  unfold sX11_element at e1; (repeat first | rw [spl_d] at e1 | rw [spl2_d] at e1)
  unfold sX12_element at e2; (repeat first | rw [spl_d] at e2 | rw [spl2_d] at e2)
  by_cases q : sX11_refusalAt d i fX LX = 0
  · rw [if_pos q] at e1
    rw [if_pos (by rw [← hr]; exact q)] at e2
    have qx := o1.mpr q
    have qm := o2.mpr (by rw [← hr]; exact q)
    refine he.same (d := d) (i := i) h h9 (Or.inr ⟨qx, e1⟩) (Or.inr ⟨qm, ?_⟩)
    unfold okM at qm
    have k60 : (60 : Int32).toInt = 60 := by decide
    have em : (60 * d).toInt = 60 * d.toInt := bn_mulJ k60 (by omega) (by omega)
    have hq := h.at qm.1.1 qm.1.2
    have bl := hb d.toNatClampNeg (by have := bn_clI qm.1.1; omega)
    have ea : (60 * d + i).toInt = 60 * d.toInt + i.toInt := (bn_addI (by omega) (by omega)).trans (by omega)
    have c1 := bn_clI qm.1.1
    have c2 := bn_clI qm.2.2.1
    have c3 := bn_clI (x := 60 * d + i) (by omega)
    rw [e2, show (60 * d + i).toNatClampNeg = 60 * d.toNatClampNeg + i.toNatClampNeg from by omega]
  · rw [if_neg q] at e1
    rw [if_neg (by rw [← hr]; exact q)] at e2
    rw [e1, e2]
/-! elements that are carried over -/
theorem sg_cpy1 {α : Type} {f g : Nat → α} {a b n : Nat} : sgu (va_cpy f g a b n) (b + n) (f (a + n)) = va_cpy f g a b (n + 1) := by
  funext j
  by_cases h : j = b + n
  · rw [h, sgu_s]
    unfold va_cpy
    rw [if_pos ⟨by omega, by omega⟩, show b + n - b = n from by omega]
  · rw [sgu_n h]
    unfold va_cpy
    by_cases q : b ≤ j ∧ j < b + n
    · rw [if_pos q, if_pos ⟨q.1, by omega⟩]
    · rw [if_neg q, if_neg (fun w => q ⟨w.1, by omega⟩)]
theorem sg_cpy0 {α : Type} {f g : Nat → α} {a b : Nat} : va_cpy f g a b 0 = g := by
  funext j
  unfold va_cpy
  rw [if_neg (by omega)]
theorem bM_sh2 (d i e j n : Int32) (f : sg_F) (L : sg_L) (he : 0 ≤ e.toInt ∧ e.toInt ≤ 5) (hj : 0 ≤ j.toInt) (hn : n.toInt ≤ 60) (hjn : j.toInt + n.toInt ≤ 60) (G : Nat → Int64) (c0 : Nat → Int64) (a0 : Nat) (hc : ∀ q : Nat, (q : Int) < n.toInt → L 25 q = c0 (a0 + q)) : ∀ (m : Nat) (y : Int32), 0 ≤ y.toInt → y.toInt ≤ n.toInt → n.toInt - y.toInt < (m : Int) → sX12_shift_l150 d i e j n m y f (sg_up L 24 (va_cpy c0 G a0 (60 * e.toNatClampNeg + j.toNatClampNeg) y.toNatClampNeg)) = (n, sg_up L 24 (va_cpy c0 G a0 (60 * e.toNatClampNeg + j.toNatClampNeg) n.toNatClampNeg)) := by
  have k60 : (60 : Int32).toInt = 60 := by decide
  have em : (60 * e).toInt = 60 * e.toInt := bn_mulJ k60 (by omega) (by omega)
  have c1 := bn_clI he.1
  have c2 := bn_clI hj
  intro m
  induction m with
  | zero => intro y h0 h1 h2; exact absurd h2 (by omega)
  | succ m ih =>
    intro y h0 h1 h2
    show sX12_shift_h150 d i e j n (sX12_shift_l150 d i e j n m) y f _ = _
    unfold sX12_shift_h150; (repeat first | rw [spl_d] | rw [spl2_d])
    have e0 := bn_clI h0
    by_cases c : y.toInt < n.toInt
    · obtain ⟨e1, e2⟩ := cl_inc h0 (by omega)
      have ea : (60 * e + j).toInt = 60 * e.toInt + j.toInt := (bn_addI (by omega) (by omega)).trans (by omega)
      have eb : (60 * e + j + y).toInt = 60 * e.toInt + j.toInt + y.toInt := (bn_addI (by omega) (by omega)).trans (by omega)
      have ec := bn_clI (x := 60 * e + j + y) (by omega)
      rw [if_pos c, sg_up_s, sg_upup, show (60 * e + j + y).toNatClampNeg = 60 * e.toNatClampNeg + j.toNatClampNeg + y.toNatClampNeg from by omega, sg_up_n (show 25 ≠ 24 by decide), hc y.toNatClampNeg (by omega), sg_cpy1, ← e2]
      exact ih (y + 1) (by omega) (by omega) (by omega)
    · rw [if_neg c, show y.toNatClampNeg = n.toNatClampNeg from by have := bn_clI (x := n) (by omega); omega]
theorem bM_sh1 (d i e j n : Int32) (f : sg_F) (L : sg_L) (hd : 0 ≤ d.toInt ∧ d.toInt ≤ 5) (hi : 0 ≤ i.toInt) (he : 0 ≤ e.toInt ∧ e.toInt ≤ 5) (hj : 0 ≤ j.toInt) (hn : 0 ≤ n.toInt ∧ n.toInt ≤ 60) (hin : i.toInt + n.toInt ≤ 60) (hjn : j.toInt + n.toInt ≤ 60) : ∀ (m : Nat) (y : Int32), 0 ≤ y.toInt → y.toInt ≤ n.toInt → n.toInt - y.toInt < (m : Int) → ∃ L1 : sg_L, sX12_shift_l113 d i e j n m y f (sg_up L 25 (va_cpy (L 24) (L 25) (60 * d.toNatClampNeg + i.toNatClampNeg) 0 y.toNatClampNeg)) = (n, L1) ∧ L1 24 = va_cpy (L 24) (L 24) (60 * d.toNatClampNeg + i.toNatClampNeg) (60 * e.toNatClampNeg + j.toNatClampNeg) n.toNatClampNeg := by
  have k60 : (60 : Int32).toInt = 60 := by decide
  have k0 : (0 : Int32).toInt = 0 := by decide
  have em : (60 * d).toInt = 60 * d.toInt := bn_mulJ k60 (by omega) (by omega)
  have c1 := bn_clI hd.1
  have c2 := bn_clI hi
  intro m
  induction m with
  | zero => intro y h0 h1 h2; exact absurd h2 (by omega)
  | succ m ih =>
    intro y h0 h1 h2
    have hg : sX12_shift_l113 d i e j n (m + 1) y f (sg_up L 25 (va_cpy (L 24) (L 25) (60 * d.toNatClampNeg + i.toNatClampNeg) 0 y.toNatClampNeg)) = sX12_shift_h113 d i e j n (sX12_shift_l113 d i e j n m) y f (sg_up L 25 (va_cpy (L 24) (L 25) (60 * d.toNatClampNeg + i.toNatClampNeg) 0 y.toNatClampNeg)) := rfl
    rw [hg]
    unfold sX12_shift_h113; (repeat first | rw [spl_d] | rw [spl2_d])
    have e0 := bn_clI h0
    by_cases c : y.toInt < n.toInt
    · obtain ⟨e1, e2⟩ := cl_inc h0 (by omega)
      have ea : (60 * d + i).toInt = 60 * d.toInt + i.toInt := (bn_addI (by omega) (by omega)).trans (by omega)
      have eb : (60 * d + i + y).toInt = 60 * d.toInt + i.toInt + y.toInt := (bn_addI (by omega) (by omega)).trans (by omega)
      have ec := bn_clI (x := 60 * d + i + y) (by omega)
      have z := sg_cpy1 (f := L 24) (g := L 25) (a := 60 * d.toNatClampNeg + i.toNatClampNeg) (b := 0) (n := y.toNatClampNeg)
      rw [Nat.zero_add] at z
      rw [if_pos c, sg_up_s, sg_upup, show (60 * d + i + y).toNatClampNeg = 60 * d.toNatClampNeg + i.toNatClampNeg + y.toNatClampNeg from by omega, sg_up_n (show 24 ≠ 25 by decide), z, ← e2]
      exact ih (y + 1) (by omega) (by omega) (by omega)
    · have en := bn_clI hn.1
      rw [if_neg c, show y.toNatClampNeg = n.toNatClampNeg from by omega]
      obtain ⟨L9, e9⟩ : ∃ z : sg_L, z = sg_up L 25 (va_cpy (L 24) (L 25) (60 * d.toNatClampNeg + i.toNatClampNeg) 0 n.toNatClampNeg) := ⟨_, rfl⟩
      have q4 : L9 24 = L 24 := by rw [e9, sg_up_n (by decide)]
      have q5 : ∀ q : Nat, (q : Int) < n.toInt → L9 25 q = L 24 (60 * d.toNatClampNeg + i.toNatClampNeg + q) := by
        intro q hq
        rw [e9, sg_up_s]
        unfold va_cpy
        rw [if_pos ⟨Nat.zero_le _, by omega⟩, Nat.sub_zero]
      have w := bM_sh2 d i e j n f L9 he hj hn.2 hjn (L 24) (L 24) (60 * d.toNatClampNeg + i.toNatClampNeg) q5 61 0 (by omega) (by omega) (by omega)
      rw [show (0 : Int32).toNatClampNeg = 0 from by decide, sg_cpy0, ← q4, sg_up_id] at w
      rw [← e9, w, q4]
      exact ⟨_, rfl, sg_up_s⟩
theorem rShelf.cshift {fX fM : sg_F} {LX LM LX1 LM1 : sg_L} {d i e j n r1 r2 : Int32} (h : rShelf fX fM) (he : rEl fX LX LM) (hI : sgI loX hiX fX) (h9 : (fX 36 2).toInt ≤ 50) (hM : ∀ t : Nat, 0 ≤ (fM 23 t).toInt ∧ (fM 23 t).toInt ≤ 60) (e1 : (r1, LX1) = sX11_shift d i e j n fX LX) (e2 : (r2, LM1) = sX12_shift d i e j n fM LM) : r1 = r2 ∧ rEl fX LX1 LM1 := by
  obtain ⟨hs, hb⟩ := shB hI
  have k0 : (0 : Int32).toInt = 0 := by decide
  have k1 : (1 : Int32).toInt = 1 := by decide
  have k2 : (-1 : Int32).toInt = -1 := by decide
  have k3 : (-11 : Int32).toInt = -11 := by decide
  have k4 : (-12 : Int32).toInt = -12 := by decide
  have k5 : (-13 : Int32).toInt = -13 := by decide
  have a1 : sfX fX d i e j n r1.toInt ∧ ((r1.toInt < 0 ∧ LX1 = LX) ∨ (0 ≤ r1.toInt ∧ LX1 = sg_up LX (41 + 2 * e.toNatClampNeg) (va_cpy (LX (41 + 2 * d.toNatClampNeg)) (LX (41 + 2 * e.toNatClampNeg)) i.toNatClampNeg j.toNatClampNeg n.toNatClampNeg))) := by
    clear e2 hM
    unfold sX11_shift sX7_isRow at e1; (repeat first | rw [spl_d] at e1 | rw [spl2_d] at e1)
    rw [pX_isShelf, pX_isShelf] at e1
    unfold sfX
    by_cases q1 : 0 ≤ d.toInt ∧ d.toInt ≤ 5
    case neg => rw [if_neg q1, if_neg zk0] at e1; obtain ⟨a, b⟩ := Prod.mk.inj e1; rw [a]; exact ⟨by omega, Or.inl ⟨by omega, b⟩⟩
    by_cases q2 : 0 ≤ e.toInt ∧ e.toInt ≤ 5
    case neg => rw [if_pos q1, if_pos rfl, if_neg q2, if_neg zk0] at e1; obtain ⟨a, b⟩ := Prod.mk.inj e1; rw [a]; exact ⟨by omega, Or.inl ⟨by omega, b⟩⟩
    have ed := bn_clI q1.1
    have ee := bn_clI q2.1
    rw [pX_hasPlaces _ _ _ _ _ (hb d.toNatClampNeg (by omega)), pX_hasPlaces _ _ _ _ _ (hb e.toNatClampNeg (by omega)), if_pos q1, if_pos rfl, if_pos q2, if_pos rfl] at e1
    have s1 := hs d.toNatClampNeg (by omega)
    have s2 := hs e.toNatClampNeg (by omega)
    by_cases q3 : (fX (40 + 2 * d.toNatClampNeg) 1).toInt = -1
    · rw [if_pos q3] at e1; obtain ⟨a, b⟩ := Prod.mk.inj e1; rw [a]; exact ⟨by omega, Or.inl ⟨by omega, b⟩⟩
    rw [if_neg q3] at e1
    by_cases q4 : (fX (40 + 2 * e.toNatClampNeg) 1).toInt = -1
    · rw [if_pos q4] at e1; obtain ⟨a, b⟩ := Prod.mk.inj e1; rw [a]; exact ⟨by omega, Or.inl ⟨by omega, b⟩⟩
    rw [if_neg q4] at e1
    by_cases q5 : (fX (40 + 2 * d.toNatClampNeg) 1).toInt < 0
    · rw [if_pos q5, if_pos k0] at e1; obtain ⟨a, b⟩ := Prod.mk.inj e1; rw [a]; exact ⟨by omega, Or.inl ⟨by omega, b⟩⟩
    rw [if_neg q5, if_neg (by rw [k1]; decide)] at e1
    by_cases q6 : (fX (40 + 2 * d.toNatClampNeg) 1).toInt = (fX (40 + 2 * e.toNatClampNeg) 1).toInt
    case neg => rw [if_neg q6] at e1; obtain ⟨a, b⟩ := Prod.mk.inj e1; rw [a]; exact ⟨by omega, Or.inl ⟨by omega, b⟩⟩
    rw [if_pos q6] at e1
    by_cases q7 : 0 ≤ i.toInt ∧ 0 ≤ n.toInt ∧ i.toInt + n.toInt ≤ (fX (40 + 2 * d.toNatClampNeg) 2).toInt
    case neg => rw [if_neg q7, if_neg zk0] at e1; obtain ⟨a, b⟩ := Prod.mk.inj e1; rw [a]; exact ⟨by omega, Or.inl ⟨by omega, b⟩⟩
    rw [if_pos q7, if_pos rfl] at e1
    by_cases q8 : 0 ≤ j.toInt ∧ 0 ≤ n.toInt ∧ j.toInt + n.toInt ≤ (fX (40 + 2 * e.toNatClampNeg) 2).toInt
    case neg => rw [if_neg q8, if_neg zk0] at e1; obtain ⟨a, b⟩ := Prod.mk.inj e1; rw [a]; exact ⟨by omega, Or.inl ⟨by omega, b⟩⟩
    rw [if_pos q8, if_pos rfl] at e1
    obtain ⟨a, b⟩ := Prod.mk.inj e1
    rw [a]
    exact ⟨by omega, Or.inr ⟨by omega, b⟩⟩
  have a2 : sfM fM d i e j n r2.toInt ∧ ((r2.toInt < 0 ∧ LM1 = LM) ∨ (0 ≤ r2.toInt ∧ LM1 24 = va_cpy (LM 24) (LM 24) (60 * d.toNatClampNeg + i.toNatClampNeg) (60 * e.toNatClampNeg + j.toNatClampNeg) n.toNatClampNeg)) := by
    clear e1 a1
    unfold sX12_shift at e2; (repeat first | rw [spl_d] at e2 | rw [spl2_d] at e2)
    rw [pM_isShelf, pM_isShelf] at e2
    unfold sfM
    have b1 := hM d.toNatClampNeg
    have b2 := hM e.toNatClampNeg
    by_cases q1 : 0 ≤ d.toInt ∧ d.toInt ≤ 5
    case neg => rw [if_neg q1, if_neg zk0] at e2; obtain ⟨a, b⟩ := Prod.mk.inj e2; rw [a]; exact ⟨by omega, Or.inl ⟨by omega, b⟩⟩
    by_cases q2 : 0 ≤ e.toInt ∧ e.toInt ≤ 5
    case neg => rw [if_pos q1, if_pos rfl, if_neg q2, if_neg zk0] at e2; obtain ⟨a, b⟩ := Prod.mk.inj e2; rw [a]; exact ⟨by omega, Or.inl ⟨by omega, b⟩⟩
    rw [if_pos q1, if_pos rfl, if_pos q2, if_pos rfl] at e2
    by_cases q3 : (fM 22 d.toNatClampNeg).toInt < 0
    · rw [if_pos q3] at e2; obtain ⟨a, b⟩ := Prod.mk.inj e2; rw [a]; exact ⟨by omega, Or.inl ⟨by omega, b⟩⟩
    rw [if_neg q3] at e2
    by_cases q4 : (fM 22 e.toNatClampNeg).toInt < 0
    · rw [if_pos q4] at e2; obtain ⟨a, b⟩ := Prod.mk.inj e2; rw [a]; exact ⟨by omega, Or.inl ⟨by omega, b⟩⟩
    rw [if_neg q4] at e2
    by_cases q5 : (fM 22 d.toNatClampNeg).toInt < 50
    · rw [if_pos q5] at e2; obtain ⟨a, b⟩ := Prod.mk.inj e2; rw [a]; exact ⟨by omega, Or.inl ⟨by omega, b⟩⟩
    rw [if_neg q5] at e2
    by_cases q6 : (fM 22 d.toNatClampNeg).toInt = (fM 22 e.toNatClampNeg).toInt
    case neg => rw [if_neg q6] at e2; obtain ⟨a, b⟩ := Prod.mk.inj e2; rw [a]; exact ⟨by omega, Or.inl ⟨by omega, b⟩⟩
    rw [if_pos q6] at e2
    by_cases q7 : n.toInt < 0
    · rw [if_pos q7] at e2; obtain ⟨a, b⟩ := Prod.mk.inj e2; rw [a]; exact ⟨by omega, Or.inl ⟨by omega, b⟩⟩
    rw [if_neg q7] at e2
    by_cases q8 : i.toInt < 0
    · rw [if_pos q8] at e2; obtain ⟨a, b⟩ := Prod.mk.inj e2; rw [a]; exact ⟨by omega, Or.inl ⟨by omega, b⟩⟩
    rw [if_neg q8] at e2
    by_cases q9 : j.toInt < 0
    · rw [if_pos q9] at e2; obtain ⟨a, b⟩ := Prod.mk.inj e2; rw [a]; exact ⟨by omega, Or.inl ⟨by omega, b⟩⟩
    rw [if_neg q9] at e2
    have z1 : (fM 23 d.toNatClampNeg - n).toInt = (fM 23 d.toNatClampNeg).toInt - n.toInt := by
      have := bn_top n
      exact bn_subI (by omega) (by omega)
    have z2 : (fM 23 e.toNatClampNeg - n).toInt = (fM 23 e.toNatClampNeg).toInt - n.toInt := by
      have := bn_top n
      exact bn_subI (by omega) (by omega)
    rw [z1, z2] at e2
    by_cases q10 : (fM 23 d.toNatClampNeg).toInt - n.toInt < i.toInt
    · rw [if_pos q10] at e2; obtain ⟨a, b⟩ := Prod.mk.inj e2; rw [a]; exact ⟨by omega, Or.inl ⟨by omega, b⟩⟩
    rw [if_neg q10] at e2
    by_cases q11 : (fM 23 e.toNatClampNeg).toInt - n.toInt < j.toInt
    · rw [if_pos q11] at e2; obtain ⟨a, b⟩ := Prod.mk.inj e2; rw [a]; exact ⟨by omega, Or.inl ⟨by omega, b⟩⟩
    rw [if_neg q11] at e2
    obtain ⟨L1, g1, g2⟩ := bM_sh1 d i e j n fM LM q1 (by omega) q2 (by omega) ⟨by omega, by omega⟩ (by omega) (by omega) 61 0 (by omega) (by omega) (by omega)
    rw [show (0 : Int32).toNatClampNeg = 0 from by decide, sg_cpy0, sg_up_id] at g1
    rw [g1] at e2
    obtain ⟨a, b⟩ := Prod.mk.inj e2
    rw [a, b]
    exact ⟨by omega, Or.inr ⟨by omega, g2⟩⟩
  exact ⟨h.shift h9 a1.1 a2.1, he.shift h (fun t ht => (hb t ht).2) h9 a1.1 a2.1 a1.2 a2.2⟩
/-! what a shelf holds, taken for a kind -/
theorem zABOVE_up {y : Int32} (h : 1 ≤ y.toInt ∧ y.toInt ≤ 7) (f : sg_F) (L : sg_L) : sX12_above y f L = zABOVE y.toNatClampNeg ∧ 0 ≤ (zABOVE y.toNatClampNeg).toInt ∧ (zABOVE y.toNatClampNeg).toInt < y.toInt := by
  rcases (show y.toInt = 1 ∨ y.toInt = 2 ∨ y.toInt = 3 ∨ y.toInt = 4 ∨ y.toInt = 5 ∨ y.toInt = 6 ∨ y.toInt = 7 from by omega) with c | c | c | c | c | c | c
  · obtain rfl : y = 1 := Int32.toInt_inj.mp (c.trans (by decide))
    exact ⟨rfl, by decide, by decide⟩
  · obtain rfl : y = 2 := Int32.toInt_inj.mp (c.trans (by decide))
    exact ⟨rfl, by decide, by decide⟩
  · obtain rfl : y = 3 := Int32.toInt_inj.mp (c.trans (by decide))
    exact ⟨rfl, by decide, by decide⟩
  · obtain rfl : y = 4 := Int32.toInt_inj.mp (c.trans (by decide))
    exact ⟨rfl, by decide, by decide⟩
  · obtain rfl : y = 5 := Int32.toInt_inj.mp (c.trans (by decide))
    exact ⟨rfl, by decide, by decide⟩
  · obtain rfl : y = 6 := Int32.toInt_inj.mp (c.trans (by decide))
    exact ⟨rfl, by decide, by decide⟩
  · obtain rfl : y = 7 := Int32.toInt_inj.mp (c.trans (by decide))
    exact ⟨rfl, by decide, by decide⟩
theorem tk_b75 (d k y : Int32) (g : sg_F) (M : sg_L) : sX12_taken_b75 d k y g M = if y.toInt = k.toInt then g 20 (g 22 d.toNatClampNeg).toNatClampNeg else (-12) := by
  unfold sX12_taken_b75 sX12_kindOf; (repeat first | rw [spl_d] | rw [spl2_d])
theorem tk_two (a k d : Int32) (f g : sg_F) (L M : sg_L) (e : f 37 a.toNatClampNeg = g 20 (g 22 d.toNatClampNeg).toNatClampNeg) : ∀ (n m : Nat) (y c : Int32), 0 ≤ y.toInt → y.toInt ≤ 7 → y.toInt < (n : Int) → 0 ≤ c.toInt → c.toInt + y.toInt ≤ 7 → 8 - c.toInt < (m : Int) → sX3_takenFor_l10 a k m y c f L = sX12_taken_l58 d k n y g M := by
  intro n
  induction n with
  | zero => intro m y c h0 h7 h1; exact absurd h1 (by omega)
  | succ n ih =>
    intro m y c h0 h7 h1 h2 h3 h4
    match m, h4 with
    | 0, h4 => exact absurd h4 (by omega)
    | m + 1, h4 =>
      show sX3_takenFor_h10 a k (sX3_takenFor_l10 a k m) y c f L = sX12_taken_h58 d k (sX12_taken_l58 d k n) y g M
      unfold sX3_takenFor_h10 sX12_taken_h58; (repeat first | rw [spl_d] | rw [spl2_d])
      rw [tk_b75, if_pos (show c.toInt < 8 from by omega), if_neg (show ¬ y.toInt < 0 from by omega)]
      by_cases z : y.toInt = k.toInt
      · rw [if_pos z, if_pos z, if_pos z]; exact e
      rw [if_neg z, if_neg z, if_neg z]
      obtain ⟨e1, e2⟩ := cl_inc h2 (by omega)
      by_cases w : 0 < y.toInt
      · rw [if_pos w]
        obtain ⟨u1, u2, u3⟩ := zABOVE_up (y := y) ⟨by omega, h7⟩ g M
        rw [u1]
        exact ih m _ (c + 1) u2 (by omega) (by omega) (by omega) (by omega) (by omega)
      · rw [if_neg w]
        obtain rfl : y = 0 := Int32.toInt_inj.mp ((show y.toInt = 0 from by omega).trans (by decide))
        match m, h4 with
        | 0, h4 => exact absurd h4 (by omega)
        | m + 1, h4 =>
          show sX3_takenFor_h10 a k (sX3_takenFor_l10 a k m) (-1) (c + 1) f L = _
          unfold sX3_takenFor_h10; (repeat first | rw [spl_d] | rw [spl2_d])
          rw [if_pos (show (-1 : Int32).toInt < 0 from by decide)]
          by_cases q : (c + 1).toInt < 8
          · rw [if_pos q]
          · rw [if_neg q]
theorem rShelf.ctaken {fX fM : sg_F} {LX LM : sg_L} {d w r1 r2 : Int32} (h : rShelf fX fM) (hd : rDesk fX fM) (hI : sgI loX hiX fX) (h9 : (fX 36 2).toInt ≤ 50) (hk : ∀ j : Nat, 0 ≤ (fX 37 j).toInt ∧ (fX 37 j).toInt ≤ 7) (e1 : r1 = sX11_taken d w fX LX) (e2 : r2 = sX12_taken d w fM LM) : r1 = r2 := by
  have k0 : (0 : Int64).toInt = 0 := by decide
  have k7 : (7 : Int64).toInt = 7 := by decide
  have e := Int32.toInt_toInt64 w
  unfold sX11_taken at e1; (repeat first | rw [spl_d] at e1 | rw [spl2_d] at e1)
  unfold sX12_taken at e2; (repeat first | rw [spl_d] at e2 | rw [spl2_d] at e2)
  rw [pX_isShelf, pX_isKind] at e1
  rw [pM_isShelf, pM_within, k0, k7, e] at e2
  rw [e1, e2]
  by_cases q1 : 0 ≤ d.toInt ∧ d.toInt ≤ 5
  case neg => rw [if_neg q1, if_neg zk0, if_neg zk0]
  rw [if_pos q1, if_pos rfl, if_pos rfl]
  by_cases q2 : 0 ≤ w.toInt ∧ w.toInt ≤ 7
  case neg => rw [if_neg q2, if_neg zk0, if_neg zk0]
  rw [if_pos q2, if_pos rfl, if_pos rfl]
  rcases h.at q1.1 q1.2 with ⟨a, b⟩ | ⟨a, b, c1, c2⟩ | ⟨a, b, c1, c2⟩
  · rw [if_pos a, if_pos (by omega)]
  · rw [if_neg (by omega), if_pos a, if_neg (by omega), if_pos (by omega)]
    have ek : (fX (40 + 2 * d.toNatClampNeg) 3).toNatClampNeg = (fM 22 d.toNatClampNeg).toNatClampNeg := by show (fX (40 + 2 * d.toNatClampNeg) 3).toInt.toNat = (fM 22 d.toNatClampNeg).toInt.toNat; rw [b]
    have ev := hd.2 (fX (40 + 2 * d.toNatClampNeg) 3).toNatClampNeg (by rw [bn_clI c1]; exact c2)
    rw [ek] at ev
    show sX3_takenFor_l10 _ w 9 (fX 37 (fX (40 + 2 * d.toNatClampNeg) 3).toNatClampNeg) 0 fX LX = sX12_taken_l58 d w 8 (sX12_kindOf (fM 22 d.toNatClampNeg) fM LM) fM LM
    have kz : (0 : Int32).toInt = 0 := by decide
    have bk := hk (fM 22 d.toNatClampNeg).toNatClampNeg
    rw [show sX12_kindOf (fM 22 d.toNatClampNeg) fM LM = fM 20 (fM 22 d.toNatClampNeg).toNatClampNeg from rfl, ek, ← ev]
    exact tk_two _ w d fX fM LX LM (by rw [ek]; exact ev) 8 9 _ 0 bk.1 bk.2 (by omega) (by omega) (by omega) (by omega)
  · rw [if_neg (by omega), if_neg (by omega), if_neg (by omega), if_neg (by omega)]
