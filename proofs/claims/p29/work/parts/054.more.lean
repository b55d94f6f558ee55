/-! rows for contracts of any state: what a method leaves alone, and bounds. By hand -/
def sgin (W : List (Nat × Nat × Option Nat)) (k j : Nat) : Bool := W.any (fun q => Nat.ble q.1 k && (Nat.ble k q.2.1 && (match q.2.2 with | none => true | some i => Nat.beq i j)))
/-- outside W nothing has changed -/
def sgK (W : List (Nat × Nat × Option Nat)) (f f1 : sg_F) : Prop := ∀ k j : Nat, sgin W k j = false → f1 k j = f k j
theorem sgK.rf {W : List (Nat × Nat × Option Nat)} {f : sg_F} : sgK W f f := fun _ _ _ => rfl
theorem sgK.put {W : List (Nat × Nat × Option Nat)} {f0 f f1 : sg_F} {k j : Nat} {x : Int32} (h : sgK W f0 f) (e : f1 = sg_up f k (sgu (f k) j x)) (hw : sgin W k j = true) : sgK W f0 f1 := by
  intro a b hab
  by_cases hk : a = k
  · by_cases hj : b = j
    · rw [hk, hj, hw] at hab; cases hab
    · rw [e, hk, sg_up_s, sgu_n hj]; rw [hk] at hab; exact h _ _ hab
  · rw [e, sg_up_n hk]; exact h _ _ hab
theorem sgK.row {W : List (Nat × Nat × Option Nat)} {f0 f f1 : sg_F} {k : Nat} {g : Nat → Int32} (h : sgK W f0 f) (e : f1 = sg_up f k g) (hw : ∀ j : Nat, sgin W k j = true) : sgK W f0 f1 := by
  intro a b hab
  by_cases hk : a = k
  · rw [hk, hw] at hab; cases hab
  · rw [e, sg_up_n hk]; exact h _ _ hab
theorem sgin_mono {W1 W : List (Nat × Nat × Option Nat)} (hs : ∀ q ∈ W1, q ∈ W) {k j : Nat} (h : sgin W k j = false) : sgin W1 k j = false := by
  unfold sgin at h ⊢
  rw [List.any_eq_false] at h ⊢
  exact fun q hq => h q (hs q hq)
theorem sgK.tr {W1 W : List (Nat × Nat × Option Nat)} {f0 f f1 : sg_F} (h : sgK W f0 f) (h1 : sgK W1 f f1) (hs : ∀ q ∈ W1, q ∈ W) : sgK W f0 f1 := fun k j hkj => (h1 k j (sgin_mono hs hkj)).trans (h k j hkj)
theorem sgin_r {W : List (Nat × Nat × Option Nat)} {a b : Nat} {o : Option Nat} {k j : Nat} (hm : (a, b, o) ∈ W) (h1 : a ≤ k) (h2 : k ≤ b) (ho : o = none ∨ o = some j) : sgin W k j = true := by
  unfold sgin
  rw [List.any_eq_true]
  refine ⟨(a, b, o), hm, ?_⟩
  rw [Bool.and_eq_true, Bool.and_eq_true]
  refine ⟨Nat.ble_eq_true_of_le h1, Nat.ble_eq_true_of_le h2, ?_⟩
  rcases ho with rfl | rfl
  · rfl
  · exact Nat.beq_refl j
/-- cells below c are all that W names -/
theorem sgin_lo {W : List (Nat × Nat × Option Nat)} {c k j : Nat} (hW : W.all (fun q => Nat.ble (q.2.1 + 1) c) = true) (hk : c ≤ k) : sgin W k j = false := by
  unfold sgin
  rw [List.any_eq_false]
  intro q hq
  have h := Nat.le_of_ble_eq_true (List.all_eq_true.mp hW q hq)
  have : Nat.ble k q.2.1 = false := by
    cases hb : Nat.ble k q.2.1
    · rfl
    · have := Nat.le_of_ble_eq_true hb; omega
  rw [this, Bool.false_and, Bool.and_false]
  exact Bool.false_ne_true
theorem bn_top (x : Int32) : -2147483648 ≤ x.toInt ∧ x.toInt ≤ 2147483647 := bn_any x
theorem bn_nz {x : Int32} (h : x.toInt ≠ 0) : ¬ x = 0 := fun z => h (by rw [z]; rfl)
theorem bn_n0 {x : Int32} (h : 0 ≤ x.toInt) : ¬ x < 0 := fun z => by
  have := bn_lt z
  have k : (0 : Int32).toInt = 0 := rfl
  omega
theorem bn_clI {x : Int32} (h : 0 ≤ x.toInt) : ((x.toNatClampNeg : Nat) : Int) = x.toInt := by
  show ((x.toInt.toNat : Nat) : Int) = x.toInt
  omega
theorem bn_cp {a b : Int32} {N : Nat} (ha : 0 ≤ a.toInt) (hb : 0 ≤ b.toInt) (h : a.toInt + b.toInt ≤ (N : Int)) : a.toNatClampNeg + b.toNatClampNeg ≤ N := by
  have := bn_clI ha
  have := bn_clI hb
  omega
theorem bn_cp0 {b : Int32} {N : Nat} (hb : 0 ≤ b.toInt) (h : b.toInt ≤ (N : Int)) : (0 : Int32).toNatClampNeg + b.toNatClampNeg ≤ N := by
  have := bn_clI hb
  have k : (0 : Int32).toNatClampNeg = 0 := rfl
  omega
theorem bn_l2i {w : Int64} (h1 : -2147483648 ≤ w.toInt) (h2 : w.toInt ≤ 2147483647) : (Int64.toInt32 w).toInt = w.toInt := by
  rw [Int64.toInt_toInt32]
  exact Int.bmod_eq_of_le (by omega) (by omega)
theorem bn_bool {x : Int32} (h0 : 0 ≤ x.toInt) (h1 : x.toInt ≤ 1) : x = 0 ∨ x = 1 := by
  rcases (show x.toInt = 0 ∨ x.toInt = 1 by omega) with h | h
  · exact Or.inl (Int32.toInt_inj.mp h)
  · exact Or.inr (Int32.toInt_inj.mp h)
theorem bn_nar {x : Int32} (h0 : 0 ≤ x.toInt) (h1 : x.toInt ≤ 1) : vp_nar .boolean x = x := by
  rcases bn_bool h0 h1 with rfl | rfl <;> decide
theorem bn_tn {x : Int32} (h : 0 ≤ x.toInt) : (x.toBitVec.toNat : Int) = x.toInt := by
  have e : x.toInt = x.toBitVec.toInt := rfl
  rw [e] at h ⊢
  rw [BitVec.toInt_eq_toNat_cond] at h ⊢
  have hl := x.toBitVec.isLt
  by_cases c : 2 * x.toBitVec.toNat < 2 ^ 32
  · rw [if_pos c]
  · rw [if_neg c] at h
    exfalso
    omega
theorem bn_nt {x : Int32} {n : Nat} (h : x.toBitVec.toNat ≤ n) (hn : n < 2147483648) : 0 ≤ x.toInt ∧ x.toInt ≤ (n : Int) := by
  have e : x.toInt = x.toBitVec.toInt := rfl
  rw [e, BitVec.toInt_eq_toNat_cond, if_pos (by omega)]
  exact ⟨by omega, by omega⟩
theorem bn_andN (x y : Int32) : (x &&& y).toBitVec.toNat = x.toBitVec.toNat &&& y.toBitVec.toNat := by
  rw [Int32.toBitVec_and, BitVec.toNat_and]
theorem bn_orN (x y : Int32) : (x ||| y).toBitVec.toNat = x.toBitVec.toNat ||| y.toBitVec.toNat := by
  rw [Int32.toBitVec_or, BitVec.toNat_or]
theorem bn_and255 {x y : Int32} (h0 : 0 ≤ x.toInt) (h1 : x.toInt ≤ 255) : 0 ≤ (x &&& y).toInt ∧ (x &&& y).toInt ≤ 255 := by
  refine bn_nt (n := 255) ?_ (by decide)
  rw [bn_andN]
  have := bn_tn h0
  exact Nat.le_trans Nat.and_le_left (by omega)
theorem bn_andm {x y : Int32} (h0 : 0 ≤ x.toInt) (h1 : x.toInt ≤ 255) (h : y.toInt = x.toInt - 1) : 0 ≤ (x &&& y).toInt ∧ (x &&& y).toInt ≤ 255 ∧ (x.toInt ≠ 0 → (x &&& y).toInt < x.toInt) := by
  have a := bn_and255 (y := y) h0 h1
  refine ⟨a.1, a.2, fun hz => ?_⟩
  have hy : 0 ≤ y.toInt := by omega
  have e : (x &&& y).toBitVec.toNat ≤ y.toBitVec.toNat := by rw [bn_andN]; exact Nat.and_le_right
  have e1 := bn_tn hy
  have e2 := bn_tn a.1
  omega
theorem bn_or255 {x y : Int32} (h0 : 0 ≤ x.toInt) (h1 : x.toInt ≤ 255) (g0 : 0 ≤ y.toInt) (g1 : y.toInt ≤ 255) : 0 ≤ (x ||| y).toInt ∧ (x ||| y).toInt ≤ 255 := by
  refine bn_nt (n := 255) ?_ (by decide)
  rw [bn_orN]
  have a := bn_tn h0
  have b := bn_tn g0
  have := Nat.or_lt_two_pow (n := 8) (x := x.toBitVec.toNat) (y := y.toBitVec.toNat) (by omega) (by omega)
  omega
theorem bn_or1 {x y : Int32} (h0 : 0 ≤ x.toInt) (h1 : x.toInt ≤ 1) (g0 : 0 ≤ y.toInt) (g1 : y.toInt ≤ 1) : 0 ≤ (x ||| y).toInt ∧ (x ||| y).toInt ≤ 1 := by
  rcases bn_bool h0 h1 with rfl | rfl <;> rcases bn_bool g0 g1 with rfl | rfl <;> decide
theorem bn_and1 {x y : Int32} (h0 : 0 ≤ x.toInt) (h1 : x.toInt ≤ 1) (g0 : 0 ≤ y.toInt) (g1 : y.toInt ≤ 1) : 0 ≤ (x &&& y).toInt ∧ (x &&& y).toInt ≤ 1 := by
  rcases bn_bool h0 h1 with rfl | rfl <;> rcases bn_bool g0 g1 with rfl | rfl <;> decide
theorem bn_and1c (x : Int32) : 0 ≤ (x &&& 1).toInt ∧ (x &&& 1).toInt ≤ 1 := by
  refine bn_nt (n := 1) ?_ (by decide)
  rw [bn_andN]
  exact Nat.and_le_right
theorem bn_shl1 {y : Int32} (h0 : 0 ≤ y.toInt) (h8 : y.toInt ≤ 8) : (y.toInt = 0 ∧ ((1 : Int32) <<< (y &&& 31)).toInt = 1) ∨ (y.toInt = 1 ∧ ((1 : Int32) <<< (y &&& 31)).toInt = 2) ∨ (y.toInt = 2 ∧ ((1 : Int32) <<< (y &&& 31)).toInt = 4) ∨ (y.toInt = 3 ∧ ((1 : Int32) <<< (y &&& 31)).toInt = 8) ∨ (y.toInt = 4 ∧ ((1 : Int32) <<< (y &&& 31)).toInt = 16) ∨ (y.toInt = 5 ∧ ((1 : Int32) <<< (y &&& 31)).toInt = 32) ∨ (y.toInt = 6 ∧ ((1 : Int32) <<< (y &&& 31)).toInt = 64) ∨ (y.toInt = 7 ∧ ((1 : Int32) <<< (y &&& 31)).toInt = 128) ∨ (y.toInt = 8 ∧ ((1 : Int32) <<< (y &&& 31)).toInt = 256) := by
  rcases (show y.toInt = 0 ∨ y.toInt = 1 ∨ y.toInt = 2 ∨ y.toInt = 3 ∨ y.toInt = 4 ∨ y.toInt = 5 ∨ y.toInt = 6 ∨ y.toInt = 7 ∨ y.toInt = 8 by omega) with h | h | h | h | h | h | h | h | h
  · obtain rfl : y = 0 := Int32.toInt_inj.mp h
    exact Or.inl ⟨rfl, by decide⟩
  · obtain rfl : y = 1 := Int32.toInt_inj.mp h
    exact Or.inr (Or.inl ⟨rfl, by decide⟩)
  · obtain rfl : y = 2 := Int32.toInt_inj.mp h
    exact Or.inr (Or.inr (Or.inl ⟨rfl, by decide⟩))
  · obtain rfl : y = 3 := Int32.toInt_inj.mp h
    exact Or.inr (Or.inr (Or.inr (Or.inl ⟨rfl, by decide⟩)))
  · obtain rfl : y = 4 := Int32.toInt_inj.mp h
    exact Or.inr (Or.inr (Or.inr (Or.inr (Or.inl ⟨rfl, by decide⟩))))
  · obtain rfl : y = 5 := Int32.toInt_inj.mp h
    exact Or.inr (Or.inr (Or.inr (Or.inr (Or.inr (Or.inl ⟨rfl, by decide⟩)))))
  · obtain rfl : y = 6 := Int32.toInt_inj.mp h
    exact Or.inr (Or.inr (Or.inr (Or.inr (Or.inr (Or.inr (Or.inl ⟨rfl, by decide⟩))))))
  · obtain rfl : y = 7 := Int32.toInt_inj.mp h
    exact Or.inr (Or.inr (Or.inr (Or.inr (Or.inr (Or.inr (Or.inr (Or.inl ⟨rfl, by decide⟩)))))))
  · obtain rfl : y = 8 := Int32.toInt_inj.mp h
    exact Or.inr (Or.inr (Or.inr (Or.inr (Or.inr (Or.inr (Or.inr (Or.inr (⟨rfl, by decide⟩))))))))
theorem bn_shl2 {y : Int32} (h0 : 0 ≤ y.toInt) (h8 : y.toInt ≤ 8) : (y.toInt = 0 ∧ ((2 : Int32) <<< (y &&& 31)).toInt = 2) ∨ (y.toInt = 1 ∧ ((2 : Int32) <<< (y &&& 31)).toInt = 4) ∨ (y.toInt = 2 ∧ ((2 : Int32) <<< (y &&& 31)).toInt = 8) ∨ (y.toInt = 3 ∧ ((2 : Int32) <<< (y &&& 31)).toInt = 16) ∨ (y.toInt = 4 ∧ ((2 : Int32) <<< (y &&& 31)).toInt = 32) ∨ (y.toInt = 5 ∧ ((2 : Int32) <<< (y &&& 31)).toInt = 64) ∨ (y.toInt = 6 ∧ ((2 : Int32) <<< (y &&& 31)).toInt = 128) ∨ (y.toInt = 7 ∧ ((2 : Int32) <<< (y &&& 31)).toInt = 256) ∨ (y.toInt = 8 ∧ ((2 : Int32) <<< (y &&& 31)).toInt = 512) := by
  rcases (show y.toInt = 0 ∨ y.toInt = 1 ∨ y.toInt = 2 ∨ y.toInt = 3 ∨ y.toInt = 4 ∨ y.toInt = 5 ∨ y.toInt = 6 ∨ y.toInt = 7 ∨ y.toInt = 8 by omega) with h | h | h | h | h | h | h | h | h
  · obtain rfl : y = 0 := Int32.toInt_inj.mp h
    exact Or.inl ⟨rfl, by decide⟩
  · obtain rfl : y = 1 := Int32.toInt_inj.mp h
    exact Or.inr (Or.inl ⟨rfl, by decide⟩)
  · obtain rfl : y = 2 := Int32.toInt_inj.mp h
    exact Or.inr (Or.inr (Or.inl ⟨rfl, by decide⟩))
  · obtain rfl : y = 3 := Int32.toInt_inj.mp h
    exact Or.inr (Or.inr (Or.inr (Or.inl ⟨rfl, by decide⟩)))
  · obtain rfl : y = 4 := Int32.toInt_inj.mp h
    exact Or.inr (Or.inr (Or.inr (Or.inr (Or.inl ⟨rfl, by decide⟩))))
  · obtain rfl : y = 5 := Int32.toInt_inj.mp h
    exact Or.inr (Or.inr (Or.inr (Or.inr (Or.inr (Or.inl ⟨rfl, by decide⟩)))))
  · obtain rfl : y = 6 := Int32.toInt_inj.mp h
    exact Or.inr (Or.inr (Or.inr (Or.inr (Or.inr (Or.inr (Or.inl ⟨rfl, by decide⟩))))))
  · obtain rfl : y = 7 := Int32.toInt_inj.mp h
    exact Or.inr (Or.inr (Or.inr (Or.inr (Or.inr (Or.inr (Or.inr (Or.inl ⟨rfl, by decide⟩)))))))
  · obtain rfl : y = 8 := Int32.toInt_inj.mp h
    exact Or.inr (Or.inr (Or.inr (Or.inr (Or.inr (Or.inr (Or.inr (Or.inr (⟨rfl, by decide⟩))))))))
theorem bn_lookD {ps : List (Int × Int)} {d k : Int} (h : ∀ q ∈ ps, q.1 ≠ k) : Op.lookupswitch.offset ps d k = d := by
  induction ps with
  | nil => rfl
  | cons q r ih =>
    obtain ⟨a, o⟩ := q
    rw [Op.lookupswitch.offset_cons, if_neg (h (a, o) (List.mem_cons_self ..))]
    exact ih (fun q hq => h q (List.mem_cons_of_mem _ hq))
theorem zABOVE_b {i : Int32} (h0 : 0 ≤ i.toInt) (h7 : i.toInt ≤ 7) : -1 ≤ (zABOVE i.toNatClampNeg).toInt ∧ (zABOVE i.toNatClampNeg).toInt ≤ 4 := by
  have h : i.toNatClampNeg < 8 := bn_kI h0 (by omega)
  revert h
  generalize i.toNatClampNeg = j
  revert j
  decide
theorem zOWN_b {i : Int32} (h0 : 0 ≤ i.toInt) (h7 : i.toInt ≤ 31) : 0 ≤ (zOWN i.toNatClampNeg).toInt ∧ (zOWN i.toNatClampNeg).toInt ≤ 81 := by
  have h : i.toNatClampNeg < 32 := bn_kI h0 (by omega)
  revert h
  generalize i.toNatClampNeg = j
  revert j
  decide
theorem zLEAST_b {i : Int32} (h0 : 0 ≤ i.toInt) (h7 : i.toInt ≤ 10) : 0 ≤ (zLEAST i.toNatClampNeg).toInt ∧ (zLEAST i.toNatClampNeg).toInt ≤ 1 := by
  have h : i.toNatClampNeg < 11 := bn_kI h0 (by omega)
  revert h
  generalize i.toNatClampNeg = j
  revert j
  decide
theorem zMOST_b {i : Int32} (h0 : 0 ≤ i.toInt) (h7 : i.toInt ≤ 10) : 3 ≤ (zMOST i.toNatClampNeg).toInt ∧ (zMOST i.toNatClampNeg).toInt ≤ 99 ∧ (i.toInt ≠ 10 → (zMOST i.toNatClampNeg).toInt ≤ 60) := by
  have h : i.toNatClampNeg < 11 := bn_kI h0 (by omega)
  have e := bn_clI h0
  have z : 3 ≤ (zMOST i.toNatClampNeg).toInt ∧ (zMOST i.toNatClampNeg).toInt ≤ 99 ∧ (i.toNatClampNeg ≠ 10 → (zMOST i.toNatClampNeg).toInt ≤ 60) := by
    clear e h0 h7
    revert h
    generalize i.toNatClampNeg = j
    revert j
    decide
  exact ⟨z.1, z.2.1, fun g => z.2.2 (by omega)⟩
/-- what holds between fields of the class at the ends of its calls -/
def JX (f : sg_F) : Prop := (∀ d : Nat, 64 ≤ (f 33 d).toInt ∨ ((f 34 d).toInt ≤ 60 ∧ (f 35 d).toInt ≤ 60)) ∧ ∀ t : Nat, t < 6 → (f (40 + 2 * t) 1).toInt = -2 → 0 ≤ (f (40 + 2 * t) 3).toInt
theorem JX.of {f f1 : sg_F} (hJ : JX f) (h1 : f1 33 = f 33) (h2 : f1 34 = f 34) (h3 : f1 35 = f 35) (h4 : ∀ t : Nat, t < 6 → f1 (40 + 2 * t) = f (40 + 2 * t)) : JX f1 := by
  refine ⟨fun d => ?_, fun t ht => ?_⟩
  · rw [h1, h2, h3]; exact hJ.1 d
  · rw [h4 t ht]; exact hJ.2 t ht
theorem JX.put {f f1 : sg_F} {k : Nat} {g : Nat → Int32} (hJ : JX f) (e : f1 = sg_up f k g) (hk : k < 33 ∨ 35 < k ∧ k < 40) : JX f1 :=
  hJ.of (by rw [e]; exact sg_up_n (by omega)) (by rw [e]; exact sg_up_n (by omega)) (by rw [e]; exact sg_up_n (by omega)) (fun t _ => by rw [e]; exact sg_up_n (by omega))
theorem JX.fr {W : List (Nat × Nat × Option Nat)} {f f1 : sg_F} (hJ : JX f) (hk : sgK W f f1) (h1 : ∀ j : Nat, sgin W 33 j = false) (h2 : ∀ j : Nat, sgin W 34 j = false) (h3 : ∀ j : Nat, sgin W 35 j = false) (h4 : ∀ t j : Nat, t < 6 → sgin W (40 + 2 * t) j = false) : JX f1 :=
  hJ.of (funext fun j => hk _ _ (h1 j)) (funext fun j => hk _ _ (h2 j)) (funext fun j => hk _ _ (h3 j)) (fun t ht => funext fun j => hk _ _ (h4 t j ht))
theorem JX.len {f f1 : sg_F} {t : Nat} {x : Int32} (hJ : JX f) (e : f1 = sg_up f (40 + 2 * t) (sgu (f (40 + 2 * t)) 2 x)) (ht : t < 6) : JX f1 := by
  refine ⟨fun d => ?_, fun u hu => ?_⟩
  · rw [e, sg_up_n (by omega), sg_up_n (by omega), sg_up_n (by omega)]; exact hJ.1 d
  · by_cases h : u = t
    · subst h; rw [e, sg_up_s, sgu_n (by decide), sgu_n (by decide)]; exact hJ.2 u hu
    · rw [e, sg_up_n (by omega)]; exact hJ.2 u hu
theorem JX.sort {f f1 : sg_F} {t : Nat} {x : Int32} (hJ : JX f) (e : f1 = sg_up f (40 + 2 * t) (sgu (f (40 + 2 * t)) 1 x)) (ht : t < 6) (hx : x.toInt ≠ -2) : JX f1 := by
  refine ⟨fun d => ?_, fun u hu => ?_⟩
  · rw [e, sg_up_n (by omega), sg_up_n (by omega), sg_up_n (by omega)]; exact hJ.1 d
  · by_cases h : u = t
    · subst h; rw [e, sg_up_s, sgu_s]; exact fun z => absurd z hx
    · rw [e, sg_up_n (by omega)]; exact hJ.2 u hu
theorem JX.desk {f f1 f2 : sg_F} {t : Nat} {x y : Int32} (hJ : JX f) (e1 : f1 = sg_up f (40 + 2 * t) (sgu (f (40 + 2 * t)) 1 x)) (e2 : f2 = sg_up f1 (40 + 2 * t) (sgu (f1 (40 + 2 * t)) 3 y)) (ht : t < 6) (hx : x.toInt = -2 → 0 ≤ y.toInt) : JX f2 := by
  refine ⟨fun d => ?_, fun u hu => ?_⟩
  · rw [e2, e1, sg_up_n (by omega), sg_up_n (by omega), sg_up_n (by omega), sg_up_n (by omega), sg_up_n (by omega), sg_up_n (by omega)]; exact hJ.1 d
  · by_cases h : u = t
    · subst h; rw [e2, sg_up_s, sgu_s, sgu_n (by decide), e1, sg_up_s, sgu_s]; exact hx
    · rw [e2, e1, sg_up_n (by omega), sg_up_n (by omega)]; exact hJ.2 u hu
theorem JX.three {f f1 f2 f3 : sg_F} {d : Nat} {a b c : Int32} (hJ : JX f) (e1 : f1 = sg_up f 33 (sgu (f 33) d a)) (e2 : f2 = sg_up f1 34 (sgu (f1 34) d b)) (e3 : f3 = sg_up f2 35 (sgu (f2 35) d c)) (h : 64 ≤ a.toInt ∨ (b.toInt ≤ 60 ∧ c.toInt ≤ 60)) : JX f3 := by
  have x1 : f3 33 = sgu (f 33) d a := by rw [e3, sg_up_n (by decide), e2, sg_up_n (by decide), e1, sg_up_s]
  have x2 : f3 34 = sgu (f 34) d b := by rw [e3, sg_up_n (by decide), e2, sg_up_s, e1, sg_up_n (by decide)]
  have x3 : f3 35 = sgu (f 35) d c := by rw [e3, sg_up_s, e2, sg_up_n (by decide), e1, sg_up_n (by decide)]
  refine ⟨fun i => ?_, fun u hu => ?_⟩
  · rw [x1, x2, x3]
    by_cases hi : i = d
    · rw [hi, sgu_s, sgu_s, sgu_s]; exact h
    · rw [sgu_n hi, sgu_n hi, sgu_n hi]; exact hJ.1 i
  · rw [e3, e2, e1, sg_up_n (by omega), sg_up_n (by omega), sg_up_n (by omega)]; exact hJ.2 u hu
theorem JX.drop {f f1 f2 f3 : sg_F} {a b n : Nat} (hJ : JX f) (e1 : f1 = sg_up f 33 (va_cpy (f 33) (f 33) a b n)) (e2 : f2 = sg_up f1 34 (va_cpy (f1 34) (f1 34) a b n)) (e3 : f3 = sg_up f2 35 (va_cpy (f2 35) (f2 35) a b n)) : JX f3 := by
  have x1 : f3 33 = va_cpy (f 33) (f 33) a b n := by rw [e3, sg_up_n (by decide), e2, sg_up_n (by decide), e1, sg_up_s]
  have x2 : f3 34 = va_cpy (f 34) (f 34) a b n := by rw [e3, sg_up_n (by decide), e2, sg_up_s, e1, sg_up_n (by decide)]
  have x3 : f3 35 = va_cpy (f 35) (f 35) a b n := by rw [e3, sg_up_s, e2, sg_up_n (by decide), e1, sg_up_n (by decide)]
  refine ⟨fun i => ?_, fun u hu => ?_⟩
  · rw [x1, x2, x3]
    unfold va_cpy
    split
    · exact hJ.1 _
    · exact hJ.1 i
  · rw [e3, e2, e1, sg_up_n (by omega), sg_up_n (by omega), sg_up_n (by omega)]; exact hJ.2 u hu
/-- what holds between fields of the reference at the ends of its calls -/
def JM (f : sg_F) : Prop := (∀ d : Nat, 64 ≤ (f 2 d).toInt ∨ ((f 3 d).toInt ≤ 60 ∧ (f 4 d).toInt ≤ 60)) ∧ (f 0 5).toInt ≤ (f 0 4).toInt
theorem JM.of {f f1 : sg_F} (hJ : JM f) (h1 : f1 2 = f 2) (h2 : f1 3 = f 3) (h3 : f1 4 = f 4) (h4 : f1 0 5 = f 0 5) (h5 : f1 0 4 = f 0 4) : JM f1 := by
  refine ⟨fun d => ?_, ?_⟩
  · rw [h1, h2, h3]; exact hJ.1 d
  · rw [h4, h5]; exact hJ.2
theorem JM.put {f f1 : sg_F} {k : Nat} {g : Nat → Int32} (hJ : JM f) (e : f1 = sg_up f k g) (hk : k ≠ 0 ∧ k ≠ 2 ∧ k ≠ 3 ∧ k ≠ 4) : JM f1 :=
  hJ.of (by rw [e]; exact sg_up_n (by omega)) (by rw [e]; exact sg_up_n (by omega)) (by rw [e]; exact sg_up_n (by omega)) (by rw [e, sg_up_n (by omega)]) (by rw [e, sg_up_n (by omega)])
theorem JM.fld {f f1 : sg_F} {j : Nat} {x : Int32} (hJ : JM f) (e : f1 = sg_up f 0 (sgu (f 0) j x)) (h1 : j ≠ 5) (h2 : j ≠ 4) : JM f1 :=
  hJ.of (by rw [e]; exact sg_up_n (by decide)) (by rw [e]; exact sg_up_n (by decide)) (by rw [e]; exact sg_up_n (by decide)) (by rw [e, sg_up_s, sgu_n (Ne.symm h1)]) (by rw [e, sg_up_s, sgu_n (Ne.symm h2)])
theorem JM.fr {W : List (Nat × Nat × Option Nat)} {f f1 : sg_F} (hJ : JM f) (hk : sgK W f f1) (h1 : ∀ j : Nat, sgin W 2 j = false) (h2 : ∀ j : Nat, sgin W 3 j = false) (h3 : ∀ j : Nat, sgin W 4 j = false) (h4 : sgin W 0 5 = false) (h5 : sgin W 0 4 = false) : JM f1 :=
  hJ.of (funext fun j => hk _ _ (h1 j)) (funext fun j => hk _ _ (h2 j)) (funext fun j => hk _ _ (h3 j)) (hk _ _ h4) (hk _ _ h5)
theorem JM.dn {f f1 : sg_F} {x : Int32} (hJ : JM f) (e : f1 = sg_up f 0 (sgu (f 0) 5 x)) (h : x.toInt ≤ (f 0 4).toInt) : JM f1 := by
  refine ⟨fun d => ?_, ?_⟩
  · rw [e, sg_up_n (by decide), sg_up_n (by decide), sg_up_n (by decide)]; exact hJ.1 d
  · rw [e, sg_up_s, sgu_s, sgu_n (by decide)]; exact h
theorem JM.dk {f f1 f2 : sg_F} {x y : Int32} (hJ : JM f) (e1 : f1 = sg_up f 0 (sgu (f 0) 5 x)) (e2 : f2 = sg_up f1 0 (sgu (f1 0) 4 y)) (h : x.toInt ≤ y.toInt) : JM f2 := by
  refine ⟨fun d => ?_, ?_⟩
  · rw [e2, e1, sg_up_n (by decide), sg_up_n (by decide), sg_up_n (by decide), sg_up_n (by decide), sg_up_n (by decide), sg_up_n (by decide)]; exact hJ.1 d
  · rw [e2, sg_up_s, sgu_s, sgu_n (by decide), e1, sg_up_s, sgu_s]; exact h
theorem JM.three {f f1 f2 f3 : sg_F} {d : Nat} {a b c : Int32} (hJ : JM f) (e1 : f1 = sg_up f 2 (sgu (f 2) d a)) (e2 : f2 = sg_up f1 3 (sgu (f1 3) d b)) (e3 : f3 = sg_up f2 4 (sgu (f2 4) d c)) (h : 64 ≤ a.toInt ∨ (b.toInt ≤ 60 ∧ c.toInt ≤ 60)) : JM f3 := by
  have x1 : f3 2 = sgu (f 2) d a := by rw [e3, sg_up_n (by decide), e2, sg_up_n (by decide), e1, sg_up_s]
  have x2 : f3 3 = sgu (f 3) d b := by rw [e3, sg_up_n (by decide), e2, sg_up_s, e1, sg_up_n (by decide)]
  have x3 : f3 4 = sgu (f 4) d c := by rw [e3, sg_up_s, e2, sg_up_n (by decide), e1, sg_up_n (by decide)]
  refine ⟨fun i => ?_, ?_⟩
  · rw [x1, x2, x3]
    by_cases hi : i = d
    · rw [hi, sgu_s, sgu_s, sgu_s]; exact h
    · rw [sgu_n hi, sgu_n hi, sgu_n hi]; exact hJ.1 i
  · rw [e3, e2, e1, sg_up_n (by decide), sg_up_n (by decide), sg_up_n (by decide)]; exact hJ.2
theorem JM.shift {f f1 f2 f3 : sg_F} {d k : Nat} {a b c : Int32} (hJ : JM f) (e1 : f1 = sg_up f 2 (sgu (f 2) d a)) (e2 : f2 = sg_up f1 3 (sgu (f1 3) d b)) (e3 : f3 = sg_up f2 4 (sgu (f2 4) d c)) (ha : a = f 2 k) (hb : b = f1 3 k) (hc : c = f2 4 k) : JM f3 := by
  refine hJ.three e1 e2 e3 ?_
  rw [ha, hb, hc, e2, sg_up_n (by decide), e1, sg_up_n (by decide), sg_up_n (by decide)]
  exact hJ.1 k
section SGC
variable {p : Program} {l : Launch} {e : Env} {R : Room} {s : State} {m : MethodId} {args : Array Value} {below : List Frame} {meth : Method} {c : Code} {H : Heap} {locs : List Loc} {cells slots : Nat} {Qz : State → Prop}
variable {cc : ByteArray} {pc : Nat} {ls : Array Slot} {rest : List Value} {D : va_G} {cl : List vw_C} {tys : List (ClassId × FieldType)} {n : Nat} {h : Nat → Nat} {ee : sg_E} {f : sg_F} {L : sg_L} {Q : sg_Q} {A : Nat → Prop}
theorem sg_copyl (hx : p.tables.exec = Jvm.exec) (hb : c.code = cc) (hml : c.maxLocals = ls.size) {own : String} {index : Nat} (hown : s.vm.findClass own = some m.cls) (hlink : (Cond.methodLink own index arraycopyName).before args s = true) (hnat : (Cond.native arraycopyName).before args s = true) (hstat : (Cond.static arraycopyName).before args s = true) (hini : (Cond.initialized "java/lang/System").before args s = true)
    (hh : sgH n h) (hA : sgY A n h s.heap.size) (hK : va_K D cl tys s) (hP : va_P D cl (sgw n h ee f L Q) H) (hS : va_S A s.heap H locs) (k0 k1 : Nat) (hk0 : k0 < n) (hk1 : k1 < n) (t0 t1 : Nat) {c0 c1 : ClassId} {n0 n1 : Nat} (he0 : ee k0 (f k0) (L k0) (Q k0) = .inl (c0, n0, .inr (.inl (L k0)))) (he1 : ∀ g : Nat → Int64, ee k1 (f k1) g (Q k1) = .inl (c1, n1, .inr (.inl g))) (ht0 : tys[t0]? = some (c0, .long)) (ht1 : tys[t1]? = some (c1, .long))
    {sp dp nn : Int32} (h1 : ¬ sp < 0) (h2 : ¬ dp < 0) (h3 : ¬ nn < 0) (h4 : sp.toNatClampNeg + nn.toNatClampNeg ≤ n0) (h5 : dp.toNatClampNeg + nn.toNatClampNeg ≤ n1)
    (hframes : 1 ≤ R.frames) (hlocals : (rest.map fun v => v.category).sum + (nativeFrameWords "java/lang/System" "arraycopy" 5 + 11) ≤ R.locals) (hdg : decode cc pc = .ok (.invokestatic index, 3))
    (kk : ∀ (L1 : sg_L) (H1 : Heap) (locs1 : List Loc), L1 = sg_up L k1 (va_cpy (L k0) (L k1) sp.toNatClampNeg dp.toNatClampNeg nn.toNatClampNeg) → va_P D cl (sgw n h ee f L1 Q) H1 → va_S A s.heap H1 locs1 → W p l e R s m args below meth c H1 locs1 cells slots Qz (F0 m (pc + 3) ls rest)) : W p l e R s m args below meth c H locs cells slots Qz (F0 m pc ls (.int nn :: .int dp :: .ref (h k1) :: .int sp :: .ref (h k0) :: rest)) :=
  va_copyl hx hb hml hown hlink hnat hstat hini hK hP (sgD hh hA) hS k0 k1 t0 t1 (by rw [sgw_at hk0, he0]) (by rw [sgw_at hk1, he1]) ht0 ht1 rfl h1 h2 h3 h4 h5 (fun _ _ => rfl) hframes hlocals hdg (fun H1 locs1 hP1 _ hS1 => kk _ H1 locs1 rfl (by
    rw [← he1 (va_cpy (L k0) (L k1) sp.toNatClampNeg dp.toNatClampNeg nn.toNatClampNeg), sgw_set hk1, sg_up_id, sg_up_id] at hP1
    exact hP1) hS1)
end SGC
/-! a method as a function: names, calls (one, two, three answers) -/
def spl {α β : Type} (a : α) (F : α → β) : β := F a
def spl2 {α γ β : Type} (o : α × γ) (F : α → γ → β) : β := F o.1 o.2
def spl3 {α γ δ β : Type} (o : α × γ × δ) (F : α → γ → δ → β) : β := F o.1 o.2.1 o.2.2
theorem spl_d {α β : Type} {a : α} {F : α → β} : spl a F = F a := rfl
theorem spl2_d {α γ β : Type} {o : α × γ} {F : α → γ → β} : spl2 o F = F o.1 o.2 := rfl
theorem spl3_d {α γ δ β : Type} {o : α × γ × δ} {F : α → γ → δ → β} : spl3 o F = F o.1 o.2.1 o.2.2 := rfl
theorem spl_e {α β : Type} {a b : α} {F : α → β} {R : β} (e : b = a) (h : F b = R) : spl a F = R := by subst e; exact h
theorem spl2_e {α γ β : Type} {a : α} {b : γ} {o : α × γ} {F : α → γ → β} {R : β} (e : (a, b) = o) (h : F a b = R) : spl2 o F = R := by subst e; exact h
theorem spl3_e {α γ δ β : Type} {a : α} {b : γ} {c : δ} {o : α × γ × δ} {F : α → γ → δ → β} {R : β} (e : (a, b, c) = o) (h : F a b c = R) : spl3 o F = R := by subst e; exact h
