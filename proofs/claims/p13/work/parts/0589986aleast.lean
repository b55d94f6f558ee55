/-! LEAST COSTS, shift by shift: what both work out -/
/-- turns between two settings, paid for -/
def dst (q : Int) (u v : Nat) : Int := (((u - v) + (v - u) : Nat) : Int) * q
theorem dst_s (q : Int) (u : Nat) : dst q u u = 0 := by
  unfold dst
  rw [show (u - u) + (u - u) = 0 from by omega]
  exact Int.zero_mul q
theorem dst_up {q : Int} {u v : Nat} (h : u ≤ v) : dst q u (v + 1) = dst q u v + q := by
  unfold dst
  rw [show (u - (v + 1)) + (v + 1 - u) = ((u - v) + (v - u)) + 1 from by omega, Int.natCast_add, Int.add_mul]
  rw [show (((1 : Nat) : Int)) * q = q from Int.one_mul q]
theorem dst_dn {q : Int} {u v : Nat} (h : v + 1 ≤ u) : dst q u v = dst q u (v + 1) + q := by
  unfold dst
  rw [show (u - v) + (v - u) = ((u - (v + 1)) + (v + 1 - u)) + 1 from by omega, Int.natCast_add, Int.add_mul]
  rw [show (((1 : Nat) : Int)) * q = q from Int.one_mul q]
theorem dst_tr {q : Int} (hq : 0 ≤ q) (u w v : Nat) : dst q u v ≤ dst q u w + dst q w v := by
  unfold dst
  rw [← Int.add_mul, ← Int.natCast_add]
  exact Int.mul_le_mul_of_nonneg_right (Int.ofNat_le.mpr (by omega)) hq
theorem dst_b {q : Int} (hq : 0 ≤ q ∧ q ≤ 99) {u v : Nat} (hu : u ≤ 60) (hv : v ≤ 60) : 0 ≤ dst q u v ∧ dst q u v ≤ 5940 := by
  unfold dst
  have h : (((u - v) + (v - u) : Nat) : Int) ≤ 60 := by omega
  have h0 : 0 ≤ (((u - v) + (v - u) : Nat) : Int) := by omega
  refine ⟨Int.mul_nonneg h0 hq.1, ?_⟩
  have a : (((u - v) + (v - u) : Nat) : Int) * q ≤ 60 * 99 := Int.mul_le_mul h hq.2 hq.1 (by decide)
  omega
/-- the turns of both programs -/
theorem dsI {u v c : Int32} (hu : 0 ≤ u.toInt ∧ u.toInt ≤ 60) (hv : 0 ≤ v.toInt ∧ v.toInt ≤ 60) (hc : 0 ≤ c.toInt ∧ c.toInt ≤ 99) : (ab (u - v) * c).toInt = dst c.toInt u.toNatClampNeg v.toNatClampNeg := by
  have cu := bn_clI hu.1
  have cv := bn_clI hv.1
  obtain ⟨a1, a2, a3, a4⟩ := ab_le hu hv
  obtain ⟨b1, b2, b3⟩ := mul_le (x := 60) (y := 99) ⟨a2, a3⟩ hc (by decide)
  rw [b1]
  unfold dst
  rw [show (ab (u - v)).toInt = (((u.toNatClampNeg - v.toNatClampNeg) + (v.toNatClampNeg - u.toNatClampNeg) : Nat) : Int) from by omega]
/-- the least, by any setting -/
def isM (x : Nat → Int) (q : Int) (v : Nat) (z : Int) : Prop := (∀ u : Nat, u ≤ 60 → z ≤ x u + dst q u v) ∧ ∃ u : Nat, u ≤ 60 ∧ z = x u + dst q u v
theorem isM.one {x : Nat → Int} {q : Int} {v : Nat} {z w : Int} (h : isM x q v z) (k : isM x q v w) : z = w := by
  obtain ⟨h1, u, h2, h3⟩ := h
  obtain ⟨k1, t, k2, k3⟩ := k
  have a := h1 t k2
  have b := k1 u h2
  omega
theorem isM_k (x : Nat → Int) (q : Int) (v : Nat) : ∀ k : Nat, ∃ z : Int, (∀ u : Nat, u ≤ k → z ≤ x u + dst q u v) ∧ ∃ u : Nat, u ≤ k ∧ z = x u + dst q u v := by
  intro k
  induction k with
  | zero => exact ⟨x 0 + dst q 0 v, fun u hu => by rw [show u = 0 from by omega]; exact Int.le_refl _, 0, by omega, rfl⟩
  | succ k ih =>
    obtain ⟨z, z1, t, z2, z3⟩ := ih
    by_cases c : x (k + 1) + dst q (k + 1) v < z
    · refine ⟨x (k + 1) + dst q (k + 1) v, fun u hu => ?_, k + 1, by omega, rfl⟩
      by_cases d : u = k + 1
      · rw [d]; exact Int.le_refl _
      · have := z1 u (by omega); omega
    · refine ⟨z, fun u hu => ?_, t, by omega, z3⟩
      by_cases d : u = k + 1
      · rw [d]; omega
      · exact z1 u (by omega)
noncomputable def lstO (x : Nat → Int) (q : Int) (v : Nat) : Int := Classical.choose (isM_k x q v 60)
theorem lstO_M (x : Nat → Int) (q : Int) (v : Nat) : isM x q v (lstO x q v) := Classical.choose_spec (isM_k x q v 60)
theorem isM.eq {x : Nat → Int} {q : Int} {v : Nat} {z : Int} (h : isM x q v z) : z = lstO x q v := h.one (lstO_M x q v)
theorem isM.cg {x y : Nat → Int} {q : Int} {v : Nat} {z : Int} (h : isM x q v z) (e : ∀ u : Nat, u ≤ 60 → x u = y u) : isM y q v z := by
  obtain ⟨h1, u, h2, h3⟩ := h
  exact ⟨fun t ht => by rw [← e t ht]; exact h1 t ht, u, h2, by rw [← e u h2]; exact h3⟩
/-- what is still to be paid with so many shifts left (true: each is set ahead of) -/
noncomputable def Vc (e : Bool) (lo : Nat → Nat → Int) (sl : Nat → Nat) (q : Int) (N : Nat) : Nat → Nat → Int
  | 0 => fun _ => 0
  | r + 1 => fun v => if e = true then lstO (fun u => lo (N - (r + 1)) u + Vc e lo sl q N r (sl u)) q v else lo (N - (r + 1)) v + Vc e lo sl q N r (sl v)
theorem Vc_b {e : Bool} {lo : Nat → Nat → Int} {sl : Nat → Nat} {q : Int} {N : Nat} (hq : 0 ≤ q) (hlo : ∀ i v : Nat, v ≤ 60 → 0 ≤ lo i v ∧ lo i v ≤ 9999) (hsl : ∀ v : Nat, v ≤ 60 → sl v ≤ 60) : ∀ r v : Nat, v ≤ 60 → 0 ≤ Vc e lo sl q N r v ∧ Vc e lo sl q N r v ≤ 9999 * (r : Int) := by
  intro r
  induction r with
  | zero => intro v _; exact ⟨show (0 : Int) ≤ 0 by decide, show (0 : Int) ≤ 9999 * ((0 : Nat) : Int) by decide⟩
  | succ r ih =>
    intro v hv
    have st : Vc e lo sl q N (r + 1) v = if e = true then lstO (fun u => lo (N - (r + 1)) u + Vc e lo sl q N r (sl u)) q v else lo (N - (r + 1)) v + Vc e lo sl q N r (sl v) := rfl
    have hx : ∀ u : Nat, u ≤ 60 → 0 ≤ lo (N - (r + 1)) u + Vc e lo sl q N r (sl u) ∧ lo (N - (r + 1)) u + Vc e lo sl q N r (sl u) ≤ 9999 * ((r + 1 : Nat) : Int) := fun u hu => by
      have a := hlo (N - (r + 1)) u hu
      have b := ih (sl u) (hsl u hu)
      omega
    rw [st]
    by_cases c : e = true
    · rw [if_pos c]
      obtain ⟨m1, t, m2, m3⟩ := lstO_M (fun u => lo (N - (r + 1)) u + Vc e lo sl q N r (sl u)) q v
      have a := m1 v hv
      rw [dst_s] at a
      have b := hx t m2
      have d : 0 ≤ dst q t v := by unfold dst; exact Int.mul_nonneg (by omega) hq
      have f := hx v hv
      dsimp only at a m3
      omega
    · rw [if_neg c]; exact hx v hv
/-- from below, then from above: the least -/
def isF (x : Nat → Int) (q : Int) (v : Nat) (z : Int) : Prop := (∀ u : Nat, u ≤ v → z ≤ x u + dst q u v) ∧ ∃ u : Nat, u ≤ v ∧ z = x u + dst q u v
def isB (y : Nat → Int) (q : Int) (v : Nat) (z : Int) : Prop := (∀ u : Nat, v ≤ u → u ≤ 60 → z ≤ y u + dst q u v) ∧ ∃ u : Nat, v ≤ u ∧ u ≤ 60 ∧ z = y u + dst q u v
theorem isB.M {x y : Nat → Int} {q : Int} {v : Nat} {z : Int} (hq : 0 ≤ q) (hv : v ≤ 60) (h : isB y q v z) (hy : ∀ u : Nat, u ≤ 60 → isF x q u (y u)) : isM x q v z := by
  obtain ⟨h1, w, h2, h3, h4⟩ := h
  have lower : ∀ u : Nat, u ≤ 60 → z ≤ x u + dst q u v := fun u hu => by
    by_cases c : u ≤ v
    · have a := h1 v (Nat.le_refl v) hv
      rw [dst_s] at a
      have b := (hy v hv).1 u c
      omega
    · have a := h1 u (by omega) hu
      have b := (hy u hu).1 u (Nat.le_refl u)
      rw [dst_s] at b
      omega
  refine ⟨lower, ?_⟩
  obtain ⟨u, u1, u2⟩ := (hy w h3).2
  have t := dst_tr hq u w v
  have l := lower u (by omega)
  exact ⟨u, by omega, by omega⟩
theorem isF.next {x : Nat → Int} {q : Int} {j : Nat} {a b z : Int} (h : isF x q j a) (hb : b = x (j + 1)) (hz : (a + q < b ∧ z = a + q) ∨ (b ≤ a + q ∧ z = b)) : isF x q (j + 1) z := by
  obtain ⟨h1, t, h2, h3⟩ := h
  refine ⟨fun u hu => ?_, ?_⟩
  · by_cases c : u = j + 1
    · rw [c, dst_s]; omega
    · have e := h1 u (by omega)
      rw [dst_up (show u ≤ j by omega)]; omega
  · rcases hz with ⟨c1, c2⟩ | ⟨c1, c2⟩
    · exact ⟨t, by omega, by rw [dst_up h2]; omega⟩
    · exact ⟨j + 1, by omega, by rw [dst_s]; omega⟩
theorem isB.next {y : Nat → Int} {q : Int} {j : Nat} {a b z : Int} (hj : j + 1 ≤ 60) (h : isB y q (j + 1) a) (hb : b = y j) (hz : (a + q < b ∧ z = a + q) ∨ (b ≤ a + q ∧ z = b)) : isB y q j z := by
  obtain ⟨h1, t, h2, h3, h4⟩ := h
  refine ⟨fun u hu hu2 => ?_, ?_⟩
  · by_cases c : u = j
    · rw [c, dst_s]; omega
    · have e := h1 u (by omega) hu2
      rw [dst_dn (show j + 1 ≤ u by omega)]; omega
  · rcases hz with ⟨c1, c2⟩ | ⟨c1, c2⟩
    · exact ⟨t, by omega, h3, by rw [dst_dn h2]; omega⟩
    · exact ⟨j, by omega, by omega, by rw [dst_s]; omega⟩
