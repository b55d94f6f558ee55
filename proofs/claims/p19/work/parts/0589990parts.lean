/-! CHAIRS: who sits with whom, both -/
theorem mi_s : ∀ j : Nat, j < 8 → ((Int32.ofNat j &&& 31).toBitVec.smod 32).toNat = j := by decide +kernel
theorem mi_1 : ∀ v : Nat, v < 32 → mi 1 v = decide (v = 0) := by decide +kernel
theorem mi_and (x y : Int32) (v : Nat) : mi (x &&& y) v = (mi x v && mi y v) := by unfold mi; rw [Int32.toBitVec_and, BitVec.getLsbD_and]
theorem mi_w {k s : Int32} (hs : 0 ≤ s.toInt ∧ s.toInt ≤ 7) : ((k >>> (s &&& 31)) &&& 1) = if mi k s.toNatClampNeg = true then 1 else 0 := by
  have c := bn_clI hs.1
  have es := mi_s s.toNatClampNeg (by omega)
  rw [ofNn hs.1] at es
  obtain ⟨j, ej⟩ : ∃ z : Nat, z = s.toNatClampNeg := ⟨_, rfl⟩
  rw [← ej] at es ⊢
  have hj : j < 32 := by omega
  have e0 : mi (k >>> (s &&& 31)) 0 = mi k j := by
    unfold mi
    rw [Int32.toBitVec_shiftRight]
    show (k.toBitVec.sshiftRight ((s &&& 31).toBitVec.smod 32).toNat).getLsbD 0 = _
    rw [es, BitVec.getLsbD_sshiftRight]
    simp [hj]
  refine mi_ext (fun v hv => ?_)
  rw [mi_and]
  by_cases z : v = 0
  · rw [z, e0]
    cases mi k j
    · rw [if_neg Bool.false_ne_true, mi_0]; rfl
    · rw [if_pos rfl]; rfl
  · have m1 : mi 1 v = false := by rw [mi_1 v hv]; exact decide_eq_false z
    rw [m1, Bool.and_false]
    cases mi k j
    · rw [if_neg Bool.false_ne_true, mi_0]
    · rw [if_pos rfl, m1]
theorem isIn_mi {k s : Int32} (hs : 0 ≤ s.toInt ∧ s.toInt ≤ 7) (f : sg_F) (L : sg_L) : sX12_isIn k s f L = if mi k s.toNatClampNeg = true then 1 else 0 := by
  rw [isInM]
  unfold bt
  rw [mi_w hs]
  cases mi k s.toNatClampNeg
  · rfl
  · rfl
/-- the bits of a position -/
def bI : Nat → Int32
  | 0 => 1
  | 1 => 2
  | 2 => 4
  | 3 => 8
  | 4 => 16
  | 5 => 32
  | 6 => 64
  | _ => 128
def cI : Nat → Int32
  | 0 => -2
  | 1 => -3
  | 2 => -5
  | 3 => -9
  | 4 => -17
  | 5 => -33
  | 6 => -65
  | _ => -129
theorem gb_or : ∀ i : Nat, i < 8 → ∀ G : Nat, G < 2 ^ i → (Int32.ofNat G ||| bI i) = Int32.ofNat (2 ^ i + G) := by decide +kernel
theorem gb_and : ∀ i : Nat, i < 8 → ∀ G : Nat, G < 2 ^ i → (Int32.ofNat (2 ^ i + G) &&& cI i) = Int32.ofNat G := by decide +kernel
theorem mi_tb : ∀ G : Nat, G < 256 → ∀ b : Nat, b < 8 → mi (Int32.ofNat G) b = G.testBit b := by decide +kernel
/-- the class's way through the chairs, by position -/
noncomputable def ph15 (b c : Int32) (nxt : sg_F → sg_L → sg_F) (rec : Int32 → sg_F → sg_L → sg_F) (y : Int32) (f : sg_F) (L : sg_L) : sg_F :=
  spl (α := Int32) (f 17 9) fun (v_1 : Int32) =>
  spl (α := Int32) (f 17 10) fun (v_4 : Int32) =>
  if y.toInt < v_4.toInt then (
    spl (α := Int32) (f 23 (Int32.toNatClampNeg y)) fun (v_8 : Int32) =>
    spl (α := Int32) (v_8 ||| b) fun (v_10 : Int32) =>
    spl (α := sg_F) (sg_up f 23 (sgu (f 23) (Int32.toNatClampNeg y) v_10)) fun (f_12 : sg_F) =>
    spl (nxt f_12 L) fun (f_13 : sg_F) =>
    spl (α := Int32) (f_13 23 (Int32.toNatClampNeg y)) fun (v_17 : Int32) =>
    spl (α := Int32) (v_17 &&& c) fun (v_19 : Int32) =>
    spl (α := sg_F) (sg_up f_13 23 (sgu (f_13 23) (Int32.toNatClampNeg y) v_19)) fun (f_21 : sg_F) =>
    if v_19.toInt = 0 then (
      (f_21)) else (
      spl (α := Int32) (y + 1) fun (v_24 : Int32) =>
      rec v_24 f_21 L)) else (
    (f))
noncomputable def pl15 (b c : Int32) (nxt : sg_F → sg_L → sg_F) (n : Nat) : Int32 → sg_F → sg_L → sg_F :=
  Nat.rec (motive := fun _ => Int32 → sg_F → sg_L → sg_F) (fun _ f L => (f)) (fun _ r => ph15 b c nxt r) n
theorem pl15_s (b c : Int32) (nxt : sg_F → sg_L → sg_F) (n : Nat) (y : Int32) (f : sg_F) (L : sg_L) : pl15 b c nxt (n + 1) y f L = ph15 b c nxt (pl15 b c nxt n) y f L := rfl
noncomputable def ptF : Nat → sg_F → sg_L → sg_F
  | 0 => sX8_part_0
  | 1 => sX8_part_1
  | 2 => sX8_part_2
  | 3 => sX8_part_3
  | 4 => sX8_part_4
  | 5 => sX8_part_5
  | 6 => sX8_part_6
  | 7 => sX8_part_7
  | _ => sX8_part_8
theorem ptF_in {i : Nat} (hi : i ≤ 7) {f : sg_F} (L : sg_L) (h : (i : Int) < (f 17 9).toInt) : ptF i f L = pl15 (bI i) (cI i) (ptF (i + 1)) 4 0 f L := by
  rcases (show i = 0 ∨ i = 1 ∨ i = 2 ∨ i = 3 ∨ i = 4 ∨ i = 5 ∨ i = 6 ∨ i = 7 by omega) with rfl | rfl | rfl | rfl | rfl | rfl | rfl | rfl
  · show sX8_part_0 f L = _
    unfold sX8_part_0; rw [spl_d, if_pos (by omega)]; rfl
  · show sX8_part_1 f L = _
    unfold sX8_part_1; rw [spl_d, if_pos (by omega)]; rfl
  · show sX8_part_2 f L = _
    unfold sX8_part_2; rw [spl_d, if_pos (by omega)]; rfl
  · show sX8_part_3 f L = _
    unfold sX8_part_3; rw [spl_d, if_pos (by omega)]; rfl
  · show sX8_part_4 f L = _
    unfold sX8_part_4; rw [spl_d, if_pos (by omega)]; rfl
  · show sX8_part_5 f L = _
    unfold sX8_part_5; rw [spl_d, if_pos (by omega)]; rfl
  · show sX8_part_6 f L = _
    unfold sX8_part_6; rw [spl_d, if_pos (by omega)]; rfl
  · show sX8_part_7 f L = _
    unfold sX8_part_7; rw [spl_d, if_pos (by omega)]; rfl
theorem ptF_out {i : Nat} (hi : i ≤ 8) {f : sg_F} (L : sg_L) (h : (f 17 9).toInt ≤ (i : Int)) : ptF i f L = sX8_weigh f L := by
  rcases (show i = 0 ∨ i = 1 ∨ i = 2 ∨ i = 3 ∨ i = 4 ∨ i = 5 ∨ i = 6 ∨ i = 7 ∨ i = 8 by omega) with rfl | rfl | rfl | rfl | rfl | rfl | rfl | rfl | rfl
  · show sX8_part_0 f L = _
    unfold sX8_part_0; rw [spl_d, if_neg (by omega), spl_d]
  · show sX8_part_1 f L = _
    unfold sX8_part_1; rw [spl_d, if_neg (by omega), spl_d]
  · show sX8_part_2 f L = _
    unfold sX8_part_2; rw [spl_d, if_neg (by omega), spl_d]
  · show sX8_part_3 f L = _
    unfold sX8_part_3; rw [spl_d, if_neg (by omega), spl_d]
  · show sX8_part_4 f L = _
    unfold sX8_part_4; rw [spl_d, if_neg (by omega), spl_d]
  · show sX8_part_5 f L = _
    unfold sX8_part_5; rw [spl_d, if_neg (by omega), spl_d]
  · show sX8_part_6 f L = _
    unfold sX8_part_6; rw [spl_d, if_neg (by omega), spl_d]
  · show sX8_part_7 f L = _
    unfold sX8_part_7; rw [spl_d, if_neg (by omega), spl_d]
  · show sX8_part_8 f L = _
    unfold sX8_part_8; rw [spl_d, spl_d]
/-- the reference's, by sitter -/
noncomputable def chF : Nat → Int32 → Int32 → Int32 → sg_F → sg_L → sg_F
  | 0 => sX12_chairsOn_0
  | 1 => sX12_chairsOn_1
  | 2 => sX12_chairsOn_2
  | 3 => sX12_chairsOn_3
  | 4 => sX12_chairsOn_4
  | 5 => sX12_chairsOn_5
  | 6 => sX12_chairsOn_6
  | 7 => sX12_chairsOn_7
  | _ => sX12_chairsOn_8
noncomputable def chL : Nat → Int32 → Int32 → Int32 → Nat → Int32 → sg_F → sg_L → sg_F
  | 0 => sX12_chairsOn_0_l116
  | 1 => sX12_chairsOn_1_l116
  | 2 => sX12_chairsOn_2_l116
  | 3 => sX12_chairsOn_3_l116
  | 4 => sX12_chairsOn_4_l116
  | 5 => sX12_chairsOn_5_l116
  | 6 => sX12_chairsOn_6_l116
  | _ => sX12_chairsOn_7_l116
theorem chF_skip {s : Nat} (hs : s ≤ 7) {x1 x2 x3 : Int32} {g : sg_F} (L : sg_L) (h : (s : Int) < (g 0 6).toInt) (h2 : mi x2 s = false) : chF s x1 x2 x3 g L = chF (s + 1) x1 x2 x3 g L := by
  have k0 : (0 : Int32).toInt = 0 := by decide
  rcases (show s = 0 ∨ s = 1 ∨ s = 2 ∨ s = 3 ∨ s = 4 ∨ s = 5 ∨ s = 6 ∨ s = 7 by omega) with rfl | rfl | rfl | rfl | rfl | rfl | rfl | rfl
  · show sX12_chairsOn_0 x1 x2 x3 g L = sX12_chairsOn_1 x1 x2 x3 g L
    unfold sX12_chairsOn_0; rw [spl_d, if_neg (by omega), spl_d, isIn_mi (s := 0) (by decide), show (0 : Int32).toNatClampNeg = 0 from by decide, h2, if_neg Bool.false_ne_true, if_pos k0, spl_d]
  · show sX12_chairsOn_1 x1 x2 x3 g L = sX12_chairsOn_2 x1 x2 x3 g L
    unfold sX12_chairsOn_1; rw [spl_d, if_neg (by omega), spl_d, isIn_mi (s := 1) (by decide), show (1 : Int32).toNatClampNeg = 1 from by decide, h2, if_neg Bool.false_ne_true, if_pos k0, spl_d]
  · show sX12_chairsOn_2 x1 x2 x3 g L = sX12_chairsOn_3 x1 x2 x3 g L
    unfold sX12_chairsOn_2; rw [spl_d, if_neg (by omega), spl_d, isIn_mi (s := 2) (by decide), show (2 : Int32).toNatClampNeg = 2 from by decide, h2, if_neg Bool.false_ne_true, if_pos k0, spl_d]
  · show sX12_chairsOn_3 x1 x2 x3 g L = sX12_chairsOn_4 x1 x2 x3 g L
    unfold sX12_chairsOn_3; rw [spl_d, if_neg (by omega), spl_d, isIn_mi (s := 3) (by decide), show (3 : Int32).toNatClampNeg = 3 from by decide, h2, if_neg Bool.false_ne_true, if_pos k0, spl_d]
  · show sX12_chairsOn_4 x1 x2 x3 g L = sX12_chairsOn_5 x1 x2 x3 g L
    unfold sX12_chairsOn_4; rw [spl_d, if_neg (by omega), spl_d, isIn_mi (s := 4) (by decide), show (4 : Int32).toNatClampNeg = 4 from by decide, h2, if_neg Bool.false_ne_true, if_pos k0, spl_d]
  · show sX12_chairsOn_5 x1 x2 x3 g L = sX12_chairsOn_6 x1 x2 x3 g L
    unfold sX12_chairsOn_5; rw [spl_d, if_neg (by omega), spl_d, isIn_mi (s := 5) (by decide), show (5 : Int32).toNatClampNeg = 5 from by decide, h2, if_neg Bool.false_ne_true, if_pos k0, spl_d]
  · show sX12_chairsOn_6 x1 x2 x3 g L = sX12_chairsOn_7 x1 x2 x3 g L
    unfold sX12_chairsOn_6; rw [spl_d, if_neg (by omega), spl_d, isIn_mi (s := 6) (by decide), show (6 : Int32).toNatClampNeg = 6 from by decide, h2, if_neg Bool.false_ne_true, if_pos k0, spl_d]
  · show sX12_chairsOn_7 x1 x2 x3 g L = sX12_chairsOn_8 x1 x2 x3 g L
    unfold sX12_chairsOn_7; rw [spl_d, if_neg (by omega), spl_d, isIn_mi (s := 7) (by decide), show (7 : Int32).toNatClampNeg = 7 from by decide, h2, if_neg Bool.false_ne_true, if_pos k0, spl_d]
theorem chF_sit {s : Nat} (hs : s ≤ 7) {x1 x2 x3 : Int32} {g : sg_F} (L : sg_L) (h : (s : Int) < (g 0 6).toInt) (h2 : mi x2 s = true) : chF s x1 x2 x3 g L = chL s x1 x2 x3 (s + 2) 0 g L := by
  have k1 : ¬ (1 : Int32).toInt = 0 := by decide
  rcases (show s = 0 ∨ s = 1 ∨ s = 2 ∨ s = 3 ∨ s = 4 ∨ s = 5 ∨ s = 6 ∨ s = 7 by omega) with rfl | rfl | rfl | rfl | rfl | rfl | rfl | rfl
  · show sX12_chairsOn_0 x1 x2 x3 g L = sX12_chairsOn_0_l116 x1 x2 x3 2 0 g L
    unfold sX12_chairsOn_0; rw [spl_d, if_neg (by omega), spl_d, isIn_mi (s := 0) (by decide), show (0 : Int32).toNatClampNeg = 0 from by decide, h2, if_pos rfl, if_neg k1]
  · show sX12_chairsOn_1 x1 x2 x3 g L = sX12_chairsOn_1_l116 x1 x2 x3 3 0 g L
    unfold sX12_chairsOn_1; rw [spl_d, if_neg (by omega), spl_d, isIn_mi (s := 1) (by decide), show (1 : Int32).toNatClampNeg = 1 from by decide, h2, if_pos rfl, if_neg k1]
  · show sX12_chairsOn_2 x1 x2 x3 g L = sX12_chairsOn_2_l116 x1 x2 x3 4 0 g L
    unfold sX12_chairsOn_2; rw [spl_d, if_neg (by omega), spl_d, isIn_mi (s := 2) (by decide), show (2 : Int32).toNatClampNeg = 2 from by decide, h2, if_pos rfl, if_neg k1]
  · show sX12_chairsOn_3 x1 x2 x3 g L = sX12_chairsOn_3_l116 x1 x2 x3 5 0 g L
    unfold sX12_chairsOn_3; rw [spl_d, if_neg (by omega), spl_d, isIn_mi (s := 3) (by decide), show (3 : Int32).toNatClampNeg = 3 from by decide, h2, if_pos rfl, if_neg k1]
  · show sX12_chairsOn_4 x1 x2 x3 g L = sX12_chairsOn_4_l116 x1 x2 x3 6 0 g L
    unfold sX12_chairsOn_4; rw [spl_d, if_neg (by omega), spl_d, isIn_mi (s := 4) (by decide), show (4 : Int32).toNatClampNeg = 4 from by decide, h2, if_pos rfl, if_neg k1]
  · show sX12_chairsOn_5 x1 x2 x3 g L = sX12_chairsOn_5_l116 x1 x2 x3 7 0 g L
    unfold sX12_chairsOn_5; rw [spl_d, if_neg (by omega), spl_d, isIn_mi (s := 5) (by decide), show (5 : Int32).toNatClampNeg = 5 from by decide, h2, if_pos rfl, if_neg k1]
  · show sX12_chairsOn_6 x1 x2 x3 g L = sX12_chairsOn_6_l116 x1 x2 x3 8 0 g L
    unfold sX12_chairsOn_6; rw [spl_d, if_neg (by omega), spl_d, isIn_mi (s := 6) (by decide), show (6 : Int32).toNatClampNeg = 6 from by decide, h2, if_pos rfl, if_neg k1]
  · show sX12_chairsOn_7 x1 x2 x3 g L = sX12_chairsOn_7_l116 x1 x2 x3 9 0 g L
    unfold sX12_chairsOn_7; rw [spl_d, if_neg (by omega), spl_d, isIn_mi (s := 7) (by decide), show (7 : Int32).toNatClampNeg = 7 from by decide, h2, if_pos rfl, if_neg k1]
theorem chL_s {s : Nat} (hs : s ≤ 7) {x1 x2 x3 y : Int32} {g : sg_F} (L : sg_L) (n : Nat) (h0 : 0 ≤ y.toInt) (h1 : s = 0 → x1.toInt = 0) : chL s x1 x2 x3 (n + 1) y g L = if y.toInt < x3.toInt then (if x1.toInt < y.toInt then g else chL s x1 x2 x3 n (y + 1) (chF (s + 1) (if y.toInt = x1.toInt then x1 + 1 else x1) x2 x3 (sg_up g 15 (sgu (g 15) s y)) L) L) else g := by
  rcases (show s = 0 ∨ s = 1 ∨ s = 2 ∨ s = 3 ∨ s = 4 ∨ s = 5 ∨ s = 6 ∨ s = 7 by omega) with rfl | rfl | rfl | rfl | rfl | rfl | rfl | rfl
  · have h1 := h1 rfl
    show sX12_chairsOn_0_h116 x1 x2 x3 (sX12_chairsOn_0_l116 x1 x2 x3 n) y g L = _
    unfold sX12_chairsOn_0_h116; (repeat first | rw [spl_d] | rw [spl2_d])
    rw [show (0 : Int32).toNatClampNeg = 0 from by decide]
    by_cases a : y.toInt < x3.toInt
    · rw [if_pos a, if_pos a]
      by_cases b : x1.toInt < y.toInt
      · rw [if_pos b, if_pos b]
      · rw [if_neg b, if_neg b, if_pos (show y.toInt = x1.toInt from by omega)]; rfl
    · rw [if_neg a, if_neg a]
  · show sX12_chairsOn_1_h116 x1 x2 x3 (sX12_chairsOn_1_l116 x1 x2 x3 n) y g L = _
    unfold sX12_chairsOn_1_h116; (repeat first | rw [spl_d] | rw [spl2_d])
    rw [show (1 : Int32).toNatClampNeg = 1 from by decide]
    by_cases c : y.toInt = x1.toInt
    · rw [if_pos c, if_pos c]; rfl
    · rw [if_neg c, if_neg c]; rfl
  · show sX12_chairsOn_2_h116 x1 x2 x3 (sX12_chairsOn_2_l116 x1 x2 x3 n) y g L = _
    unfold sX12_chairsOn_2_h116; (repeat first | rw [spl_d] | rw [spl2_d])
    rw [show (2 : Int32).toNatClampNeg = 2 from by decide]
    by_cases c : y.toInt = x1.toInt
    · rw [if_pos c, if_pos c]; rfl
    · rw [if_neg c, if_neg c]; rfl
  · show sX12_chairsOn_3_h116 x1 x2 x3 (sX12_chairsOn_3_l116 x1 x2 x3 n) y g L = _
    unfold sX12_chairsOn_3_h116; (repeat first | rw [spl_d] | rw [spl2_d])
    rw [show (3 : Int32).toNatClampNeg = 3 from by decide]
    by_cases c : y.toInt = x1.toInt
    · rw [if_pos c, if_pos c]; rfl
    · rw [if_neg c, if_neg c]; rfl
  · show sX12_chairsOn_4_h116 x1 x2 x3 (sX12_chairsOn_4_l116 x1 x2 x3 n) y g L = _
    unfold sX12_chairsOn_4_h116; (repeat first | rw [spl_d] | rw [spl2_d])
    rw [show (4 : Int32).toNatClampNeg = 4 from by decide]
    by_cases c : y.toInt = x1.toInt
    · rw [if_pos c, if_pos c]; rfl
    · rw [if_neg c, if_neg c]; rfl
  · show sX12_chairsOn_5_h116 x1 x2 x3 (sX12_chairsOn_5_l116 x1 x2 x3 n) y g L = _
    unfold sX12_chairsOn_5_h116; (repeat first | rw [spl_d] | rw [spl2_d])
    rw [show (5 : Int32).toNatClampNeg = 5 from by decide]
    by_cases c : y.toInt = x1.toInt
    · rw [if_pos c, if_pos c]; rfl
    · rw [if_neg c, if_neg c]; rfl
  · show sX12_chairsOn_6_h116 x1 x2 x3 (sX12_chairsOn_6_l116 x1 x2 x3 n) y g L = _
    unfold sX12_chairsOn_6_h116; (repeat first | rw [spl_d] | rw [spl2_d])
    rw [show (6 : Int32).toNatClampNeg = 6 from by decide]
    by_cases c : y.toInt = x1.toInt
    · rw [if_pos c, if_pos c]; rfl
    · rw [if_neg c, if_neg c]; rfl
  · show sX12_chairsOn_7_h116 x1 x2 x3 (sX12_chairsOn_7_l116 x1 x2 x3 n) y g L = _
    unfold sX12_chairsOn_7_h116; (repeat first | rw [spl_d] | rw [spl2_d])
    rw [show (7 : Int32).toNatClampNeg = 7 from by decide]
    by_cases c : y.toInt = x1.toInt
    · rw [if_pos c, if_pos c]; rfl
    · rw [if_neg c, if_neg c]; rfl
/-- the reference's end: all sit -/
noncomputable def gh63 (rec : Int32 → sg_F → sg_L → sg_F) (y : Int32) (f : sg_F) (L : sg_L) : sg_F :=
  spl (α := Int32) (f 0 6) fun (v_4 : Int32) =>
  if y.toInt < v_4.toInt then (
    spl (α := Int32) (f 15 (Int32.toNatClampNeg y)) fun (v_9 : Int32) =>
    spl (α := sg_F) (sg_up f 16 (sgu (f 16) (Int32.toNatClampNeg y) v_9)) fun (f_11 : sg_F) =>
    spl (α := Int32) (y + 1) fun (v_12 : Int32) =>
    rec v_12 f_11 L) else (
    (f))
noncomputable def gl63 (n : Nat) : Int32 → sg_F → sg_L → sg_F :=
  Nat.rec (motive := fun _ => Int32 → sg_F → sg_L → sg_F) (fun _ f L => (f)) (fun _ r => gh63 r) n
noncomputable def gb54 (k : Nat) (y5 : Int32) (f : sg_F) (L : sg_L) : sg_F :=
  spl (α := Int32) (f 0 6) fun (v_14 : Int32) =>
  spl (α := sg_F) (sg_up f 0 (sgu (f 0) 35 y5)) fun (f_17 : sg_F) =>
  gl63 k 0 f_17 L
noncomputable def gh14 (k : Nat) (x1 x2 : Int32) (rec : Int32 → Int32 → sg_F → sg_L → sg_F) (y5 y6 : Int32) (f : sg_F) (L : sg_L) : sg_F :=
  spl (α := Int32) (f 0 6) fun (v_18 : Int32) =>
  if y6.toInt < x1.toInt then (
    spl (sX12_chairLoss x2 y6 f L) fun (r_31 : Int32) =>
    spl (α := Int32) (y5 + r_31) fun (v_33 : Int32) =>
    spl (α := Int32) (y6 + 1) fun (v_34 : Int32) =>
    rec v_33 v_34 f L) else (
    spl (α := Int32) (f 0 35) fun (v_23 : Int32) =>
    if v_23.toInt < 0 then (
      gb54 k y5 f L) else (
      if y5.toInt < v_23.toInt then (
        gb54 k y5 f L) else (
        (f))))
noncomputable def gl14 (k : Nat) (x1 x2 : Int32) (n : Nat) : Int32 → Int32 → sg_F → sg_L → sg_F :=
  Nat.rec (motive := fun _ => Int32 → Int32 → sg_F → sg_L → sg_F) (fun _ _ f L => (f)) (fun _ r => gh14 k x1 x2 r) n
theorem gl63_s (n : Nat) (y : Int32) (f : sg_F) (L : sg_L) : gl63 (n + 1) y f L = gh63 (gl63 n) y f L := rfl
theorem gl14_s (k : Nat) (x1 x2 : Int32) (n : Nat) (y5 y6 : Int32) (f : sg_F) (L : sg_L) : gl14 k x1 x2 (n + 1) y5 y6 f L = gh14 k x1 x2 (gl14 k x1 x2 n) y5 y6 f L := rfl
theorem chF_end {s : Nat} (hs : 1 ≤ s ∧ s ≤ 8) {x1 x2 x3 : Int32} {g : sg_F} (L : sg_L) (h : (g 0 6).toInt = (s : Int)) : chF s x1 x2 x3 g L = gl14 (s + 1) x1 x2 (s + 1) 0 0 g L := by
  rcases (show s = 1 ∨ s = 2 ∨ s = 3 ∨ s = 4 ∨ s = 5 ∨ s = 6 ∨ s = 7 ∨ s = 8 by omega) with rfl | rfl | rfl | rfl | rfl | rfl | rfl | rfl
  · show sX12_chairsOn_1 x1 x2 x3 g L = _
    unfold sX12_chairsOn_1; rw [spl_d, if_pos (by omega)]; rfl
  · show sX12_chairsOn_2 x1 x2 x3 g L = _
    unfold sX12_chairsOn_2; rw [spl_d, if_pos (by omega)]; rfl
  · show sX12_chairsOn_3 x1 x2 x3 g L = _
    unfold sX12_chairsOn_3; rw [spl_d, if_pos (by omega)]; rfl
  · show sX12_chairsOn_4 x1 x2 x3 g L = _
    unfold sX12_chairsOn_4; rw [spl_d, if_pos (by omega)]; rfl
  · show sX12_chairsOn_5 x1 x2 x3 g L = _
    unfold sX12_chairsOn_5; rw [spl_d, if_pos (by omega)]; rfl
  · show sX12_chairsOn_6 x1 x2 x3 g L = _
    unfold sX12_chairsOn_6; rw [spl_d, if_pos (by omega)]; rfl
  · show sX12_chairsOn_7 x1 x2 x3 g L = _
    unfold sX12_chairsOn_7; rw [spl_d, if_pos (by omega)]; rfl
  · show sX12_chairsOn_8 x1 x2 x3 g L = _
    unfold sX12_chairsOn_8; rw [spl_d]; rfl
/-- what both have as they go through the chairs -/
def evX (h : Nat → Int32) (X : Nat → Nat → Int) (fr : Int32) (f : sg_F) : Prop := (f 17 9).toInt = (rkS h 8 : Int) ∧ f 17 10 = fr ∧ f 22 0 = 0 ∧ ∀ mask : Nat, mask < 2 ^ rkS h 8 → isL (fun u => sS h (X u) mask 8) 60 (f 22 mask).toInt
def evM (h : Nat → Int32) (X : Nat → Nat → Int) (S : Nat) (g : sg_F) : Prop := (g 0 6).toInt = (S : Int) ∧ ∀ s v : Nat, s < 8 → v ≤ 60 → (g 14 (61 * s + v)).toInt = X v s
def cRel (h : Nat → Int32) (u s : Nat) (G : Nat → Nat) (f g : sg_F) : Prop := (∀ c : Nat, c < 3 → f 23 c = Int32.ofNat (G c) ∧ G c < 2 ^ rkS h s) ∧ (∀ c : Nat, c < 3 → (G c ≠ 0 ↔ c < u)) ∧ ∀ t : Nat, t < s → 0 < (h t).toInt → ∃ c : Nat, c < 3 ∧ (g 15 t).toInt = (c : Int) ∧ ∀ c' : Nat, c' < 3 → ((G c').testBit (rkS h t) = true ↔ c' = c)
def bRel (h : Nat → Int32) (f g : sg_F) : Prop := (f 17 12).toInt ≠ 0 ∧ f 17 11 = g 0 35 ∧ 0 ≤ (g 0 35).toInt ∧ ∃ B : Nat → Nat, (∀ c : Nat, c < 3 → f 24 c = Int32.ofNat (B c) ∧ B c < 2 ^ rkS h 8) ∧ ∀ t : Nat, t < 8 → 0 < (h t).toInt → ∃ c : Nat, c < 3 ∧ (g 16 t).toInt = (c : Int) ∧ ∀ c' : Nat, c' < 3 → ((B c').testBit (rkS h t) = true ↔ c' = c)
def bRel0 (f g : sg_F) : Prop := (f 17 12).toInt = 0 ∧ (g 0 35).toInt = -1
/-- what the ways leave alone -/
def fFr (f f1 : sg_F) : Prop := (∀ k : Nat, k ≠ 17 → k ≠ 23 → k ≠ 24 → f1 k = f k) ∧ f1 17 9 = f 17 9 ∧ f1 17 10 = f 17 10 ∧ ∀ c : Nat, c < 3 → f1 23 c = f 23 c
def gFr (s : Nat) (g g1 : sg_F) : Prop := (∀ k : Nat, k ≠ 0 → k ≠ 15 → k ≠ 16 → g1 k = g k) ∧ (∀ j : Nat, j ≠ 35 → g1 0 j = g 0 j) ∧ ∀ t : Nat, t < s → g1 15 t = g 15 t
theorem fFr.rf {f : sg_F} : fFr f f := ⟨fun _ _ _ _ => rfl, rfl, rfl, fun _ _ => rfl⟩
theorem gFr.rf {s : Nat} {g : sg_F} : gFr s g g := ⟨fun _ _ _ _ => rfl, fun _ _ => rfl, fun _ _ => rfl⟩
theorem fFr.tr {f g h : sg_F} (a : fFr f g) (b : fFr g h) : fFr f h := ⟨fun k x y z => (b.1 k x y z).trans (a.1 k x y z), b.2.1.trans a.2.1, b.2.2.1.trans a.2.2.1, fun c hc => (b.2.2.2 c hc).trans (a.2.2.2 c hc)⟩
theorem gFr.tr {s : Nat} {f g h : sg_F} (a : gFr s f g) (b : gFr s g h) : gFr s f h := ⟨fun k x y z => (b.1 k x y z).trans (a.1 k x y z), fun j hj => (b.2.1 j hj).trans (a.2.1 j hj), fun t ht => (b.2.2 t ht).trans (a.2.2 t ht)⟩
theorem gFr.le {s s1 : Nat} {g g1 : sg_F} (h : gFr s1 g g1) (hs : s ≤ s1) : gFr s g g1 := ⟨h.1, h.2.1, fun t ht => h.2.2 t (by omega)⟩
theorem evX.K {h : Nat → Int32} {X : Nat → Nat → Int} {fr : Int32} {f f1 : sg_F} (e : evX h X fr f) (a : f1 17 9 = f 17 9) (b : f1 17 10 = f 17 10) (c : f1 22 = f 22) : evX h X fr f1 := by
  unfold evX
  rw [a, b, c]
  exact e
theorem evM.K {h : Nat → Int32} {X : Nat → Nat → Int} {S : Nat} {g g1 : sg_F} (e : evM h X S g) (a : g1 0 6 = g 0 6) (b : g1 14 = g 14) : evM h X S g1 := by
  unfold evM
  rw [a, b]
  exact e
theorem sS_ge {h : Nat → Int32} {x : Nat → Int} {mask S : Nat} (hh : ∀ s : Nat, s < 8 → 0 < (h s).toInt → s < S) : ∀ d : Nat, S + d ≤ 8 → sS h x mask (S + d) = sS h x mask S := by
  intro d
  induction d with
  | zero => intro _; rfl
  | succ d ih =>
    intro hd
    show sS h x mask (S + d) + (if 0 < (h (S + d)).toInt ∧ mask.testBit (rkS h (S + d)) = true then x (S + d) else 0) = _
    rw [ih (by omega), if_neg (fun z => by have := hh (S + d) (by omega) z.1; omega)]
    omega
/-- the least loss of a chair, to the reference -/
theorem mcl {h : Nat → Int32} {X : Nat → Nat → Int} {S u : Nat} {G : Nat → Nat} {f g : sg_F} {x2 y : Int32} {c : Nat} {L : sg_L} (hS : S ≤ 8) (hX : ∀ u t : Nat, 0 ≤ X u t ∧ X u t ≤ 209979) (hh : ∀ s : Nat, s < 8 → 0 < (h s).toInt → s < S) (hset : ∀ s : Nat, s < 8 → (mi x2 s = true ↔ 0 < (h s).toInt)) (eg : evM h X S g) (hr : cRel h u S G f g) (ey : y.toInt = (c : Int)) (hc : c < 3) : isL (fun v => sS h (X v) (G c) 8) 60 (sX12_chairLoss x2 y g L).toInt ∧ (0 ≤ (sX12_chairLoss x2 y g L).toInt ∧ (sX12_chairLoss x2 y g L).toInt ≤ 1679832) := by
  have k61 : (61 : Int32).toInt = 61 := by decide
  have km : (-1 : Int32).toInt = -1 := by decide
  have k0 : (0 : Int32).toInt = 0 := by decide
  have k1 : ¬ (1 : Int32).toInt = 0 := by decide
  have full : ∀ v : Nat, sS h (X v) (G c) S = sS h (X v) (G c) 8 := fun v => by
    have := sS_ge (x := X v) (mask := G c) hh (8 - S) (by omega)
    rw [show S + (8 - S) = 8 from by omega] at this
    exact this.symm
  have go : ∀ (q v : Nat) (a z : Int32), z.toInt = (v : Int) → v ≤ 61 → 61 - v < q → ((v = 0 ∧ a.toInt = -1) ∨ (1 ≤ v ∧ isL (fun v => sS h (X v) (G c) 8) (v - 1) a.toInt ∧ 0 ≤ a.toInt)) → isL (fun v => sS h (X v) (G c) 8) 60 (sX12_chairLoss_l5 x2 y q a z g L).toInt := by
    intro q
    induction q with
    | zero => intro v a z _ _ h; exact absurd h (by omega)
    | succ q ih =>
      intro v a z ez hv hq ha
      have e9 : sX12_chairLoss_l5 x2 y (q + 1) a z g L = sX12_chairLoss_h5 x2 y (sX12_chairLoss_l5 x2 y q) a z g L := rfl
      rw [e9]
      unfold sX12_chairLoss_h5
      by_cases d : v ≤ 60
      case neg =>
        rw [if_neg (show ¬ z.toInt < 61 from by omega)]
        rcases ha with ⟨a1, -⟩ | ⟨-, a2, -⟩
        · exfalso; omega
        · rw [show v - 1 = 60 from by omega] at a2; exact a2
      rw [if_pos (show z.toInt < 61 from by omega)]
      have ez1 := inc1 ez (by omega)
      -- the sum over the sitters
      have inn : ∀ (r s : Nat) (b w : Int32), w.toInt = (s : Int) → s ≤ S → S - s < r → b.toInt = sS h (X v) (G c) s → isL (fun v => sS h (X v) (G c) 8) 60 (sX12_chairLoss_l18 (sX12_chairLoss_l5 x2 y q) x2 y r a z b w g L).toInt := by
        intro r
        induction r with
        | zero => intro s b w _ _ h; exact absurd h (by omega)
        | succ r ihr =>
          intro s b w ew hs hr2 eb
          have e8 : sX12_chairLoss_l18 (sX12_chairLoss_l5 x2 y q) x2 y (r + 1) a z b w g L = sX12_chairLoss_h18 (sX12_chairLoss_l5 x2 y q) x2 y (sX12_chairLoss_l18 (sX12_chairLoss_l5 x2 y q) x2 y r) a z b w g L := rfl
          have g6 := eg.1
          have ew1 := inc1 ew (by omega)
          rw [e8]
          unfold sX12_chairLoss_h18 sX12_chairLoss_b85; (repeat first | rw [spl_d] | rw [spl2_d])
          by_cases x : s < S
          case neg =>
            rw [if_neg (show ¬ w.toInt < (g 0 6).toInt from by omega)]
            have : s = S := by omega
            subst this
            rw [full v] at eb
            have sb := sS_b (h := h) (x := X v) (mask := G c) (hX v) 8
            rcases ha with ⟨a1, a2⟩ | ⟨a1, a2, a3⟩
            · rw [if_pos (show a.toInt < 0 from by omega)]
              subst a1
              exact ih 1 b (z + 1) ez1 (by omega) (by omega) (Or.inr ⟨by omega, ⟨fun u hu => by rw [show u = 0 from by omega]; exact Int.le_of_eq eb, 0, Nat.le_refl 0, eb⟩, by omega⟩)
            · rw [if_neg (show ¬ a.toInt < 0 from by omega)]
              obtain ⟨v, rfl⟩ : ∃ t : Nat, v = t + 1 := ⟨v - 1, by omega⟩
              rw [show v + 1 - 1 = v from by omega] at a2
              by_cases t : b.toInt < a.toInt
              · rw [if_pos t]
                exact ih (v + 1 + 1) b (z + 1) ez1 (by omega) (by omega) (Or.inr ⟨by omega, a2.next eb (Or.inl ⟨t, rfl⟩), by omega⟩)
              · rw [if_neg t]
                exact ih (v + 1 + 1) a (z + 1) ez1 (by omega) (by omega) (Or.inr ⟨by omega, a2.next eb (Or.inr ⟨by omega, rfl⟩), a3⟩)
          rw [if_pos (show w.toInt < (g 0 6).toInt from by omega)]
          have hw : 0 ≤ w.toInt ∧ w.toInt ≤ 7 := by omega
          have cw := bn_clI hw.1
          have ewn : w.toNatClampNeg = s := by omega
          have st : sS h (X v) (G c) (s + 1) = sS h (X v) (G c) s + (if 0 < (h s).toInt ∧ (G c).testBit (rkS h s) = true then X v s else 0) := rfl
          have sb := sS_b (h := h) (x := X v) (mask := G c) (hX v) s
          rw [isIn_mi hw, ewn]
          by_cases sit : 0 < (h s).toInt
          case neg =>
            have m0 : mi x2 s = false := Bool.eq_false_iff.mpr (fun t => sit ((hset s (by omega)).mp t))
            rw [m0, if_neg Bool.false_ne_true, if_pos k0]
            rw [if_neg (fun t => sit t.1)] at st
            exact ihr (s + 1) b (w + 1) ew1 (by omega) (by omega) (by rw [st]; omega)
          rw [(hset s (by omega)).mpr sit, if_pos rfl, if_neg k1]
          obtain ⟨c0, c1, c2, c3⟩ := hr.2.2 s x sit
          by_cases t : (g 15 s).toInt = y.toInt
          · rw [if_pos t]
            have tb : (G c).testBit (rkS h s) = true := (c3 c hc).mpr (by omega)
            rw [if_pos ⟨sit, tb⟩] at st
            have e61 : (61 * w).toInt = 61 * (s : Int) := (bn_mulJ k61 (by omega) (by omega)).trans (by omega)
            have i2 := (ixr (i := s) (v := v) e61 (by omega) ez (by omega)).2
            rw [i2]
            have e14 := eg.2 s v (by omega) d
            have xb := hX v s
            refine ihr (s + 1) _ (w + 1) ew1 (by omega) (by omega) ?_
            rw [bn_addI (by omega) (by omega), eb, e14, st]
          · rw [if_neg t]
            have tb : ¬ (G c).testBit (rkS h s) = true := fun w2 => t (by have := (c3 c hc).mp w2; omega)
            rw [if_neg (fun w2 => tb w2.2)] at st
            exact ihr (s + 1) b (w + 1) ew1 (by omega) (by omega) (by rw [st]; omega)
      exact inn 9 0 0 0 (by decide) (Nat.zero_le _) (by omega) k0
  have r := go 62 0 (-1) 0 (by decide) (by decide) (by decide) (Or.inl ⟨rfl, km⟩)
  have e0 : sX12_chairLoss x2 y g L = sX12_chairLoss_l5 x2 y 62 (-1) 0 g L := rfl
  rw [e0]
  refine ⟨r, ?_⟩
  obtain ⟨-, t, t1, t2⟩ := r
  have sb := sS_b (h := h) (x := X t) (mask := G c) (hX t) 8
  dsimp only at t2
  omega
/-- a parting is weighed by both -/
theorem leaf {h : Nat → Int32} {X : Nat → Nat → Int} {S u : Nat} {G : Nat → Nat} {f g : sg_F} {fr x1 x2 x3 : Int32} {LX LM : sg_L} (hS : S ≤ 8) (hX : ∀ u t : Nat, 0 ≤ X u t ∧ X u t ≤ 209979) (hh : ∀ s : Nat, s < 8 → 0 < (h s).toInt → s < S) (hset : ∀ s : Nat, s < 8 → (mi x2 s = true ↔ 0 < (h s).toInt)) (hu : u ≤ 3 ∧ u ≤ S) (e1 : x1.toInt = (u : Int)) (ef : evX h X fr f) (eg : evM h X S g) (hr : cRel h u S G f g) (hb : bRel0 f g ∨ bRel h f g) : bRel h (sX8_weigh f LX) (chF S x1 x2 x3 g LM) ∧ fFr f (sX8_weigh f LX) ∧ gFr S g (chF S x1 x2 x3 g LM) := by
  have k0 : (0 : Int32).toInt = 0 := by decide
  have k1 : (1 : Int32).toInt = 1 := by decide
  have rs : rkS h S = rkS h 8 := by
    have go : ∀ d : Nat, S + d ≤ 8 → rkS h (S + d) = rkS h S := by
      intro d
      induction d with
      | zero => intro _; rfl
      | succ d ih =>
        intro hd
        show rkS h (S + d + 1) = rkS h S
        rw [rkS_0 (fun z => by have := hh (S + d) (by omega) z; omega)]
        exact ih (by omega)
    have := go (8 - S) (by omega)
    rw [show S + (8 - S) = 8 from by omega] at this
    exact this.symm
  have r8 := rkS_le h 8
  have p8 : 2 ^ rkS h 8 ≤ 2 ^ 8 := Nat.pow_le_pow_right (by decide) r8
  have e256 : 2 ^ 8 = 256 := by decide
  have gb : ∀ c : Nat, c < 3 → G c < 256 := fun c hc => by have := (hr.1 c hc).2; rw [rs] at this; omega
  have ix : ∀ c : Nat, c < 3 → (f 23 c).toNatClampNeg = G c := fun c hc => by
    rw [(hr.1 c hc).1]
    have a : (Int32.ofNat (G c)).toInt = (G c : Int) := ofN_I (by have := gb c hc; omega)
    have b := bn_clI (x := Int32.ofNat (G c)) (by omega)
    omega
  -- what each chair costs
  have cost : ∀ (c : Nat) (y : Int32), c < 3 → y.toInt = (c : Int) → (c < u → f 22 (G c) = sX12_chairLoss x2 y g LM) ∧ (u ≤ c → f 22 (G c) = 0) ∧ (0 ≤ (f 22 (G c)).toInt ∧ (f 22 (G c)).toInt ≤ 1679832) := by
    intro c y hc ey
    have m1 := mcl (L := LM) hS hX hh hset eg hr ey hc
    have m2 := ef.2.2.2 (G c) (by have := (hr.1 c hc).2; rw [rs] at this; exact this)
    have e := m2.one m1.1
    refine ⟨fun _ => Int32.toInt_inj.mp e, fun z => ?_, by omega⟩
    have : G c = 0 := Classical.byContradiction (fun w => by have := (hr.2.1 c hc).mp w; omega)
    rw [this]; exact ef.2.2.1
  obtain ⟨c00, c01, c02⟩ := cost 0 0 (by decide) k0
  obtain ⟨c10, c11, c12⟩ := cost 1 1 (by decide) k1
  obtain ⟨c20, c21, c22⟩ := cost 2 2 (by decide) (by decide)
  obtain ⟨A, eA⟩ : ∃ z : Int32, z = 0 + f 22 (G 0) + f 22 (G 1) + f 22 (G 2) := ⟨_, rfl⟩
  have A1 : (0 + f 22 (G 0)).toInt = (f 22 (G 0)).toInt := (bn_addI (by omega) (by omega)).trans (by omega)
  have A2 : (0 + f 22 (G 0) + f 22 (G 1)).toInt = (f 22 (G 0)).toInt + (f 22 (G 1)).toInt := (bn_addI (by omega) (by omega)).trans (by omega)
  have A3 : A.toInt = (f 22 (G 0)).toInt + (f 22 (G 1)).toInt + (f 22 (G 2)).toInt := by rw [eA]; exact (bn_addI (by omega) (by omega)).trans (by omega)
  -- the reference's sum
  have refS : ∃ W : sg_F, chF S x1 x2 x3 g LM = (if (g 0 35).toInt < 0 then W else if A.toInt < (g 0 35).toInt then W else g) ∧ (∀ k : Nat, k ≠ 0 → k ≠ 16 → W k = g k) ∧ (∀ j : Nat, j ≠ 35 → W 0 j = g 0 j) ∧ W 0 35 = A ∧ ∀ t : Nat, t < S → W 16 t = g 15 t := by
    by_cases z : S = 0
    · subst z
      have u0 : u = 0 := by omega
      have a0 : A = 0 := by
        rw [eA, c01 (by omega), c11 (by omega), c21 (by omega)]; rfl
      refine ⟨sg_up g 0 (sgu (g 0) 35 0), ?_, fun k a _ => by rw [sg_up_n a], fun j hj => by rw [sg_up_s, sgu_n hj], by rw [sg_up_s, sgu_s, a0], fun t ht => absurd ht (by omega)⟩
      show sX12_chairsOn_0 x1 x2 x3 g LM = _
      unfold sX12_chairsOn_0
      rw [spl_d, if_pos (show (0 : Int) = (g 0 6).toInt from by have := eg.1; omega), a0, k0]
      rfl
    · have copy : ∀ (q i : Nat) (y : Int32) (g1 : sg_F), y.toInt = (i : Int) → i ≤ S → S - i < q → (∀ k : Nat, k ≠ 0 → k ≠ 16 → g1 k = g k) → (∀ j : Nat, j ≠ 35 → g1 0 j = g 0 j) → g1 0 35 = A → (∀ t : Nat, t < i → g1 16 t = g 15 t) → ∃ W : sg_F, gl63 q y g1 LM = W ∧ (∀ k : Nat, k ≠ 0 → k ≠ 16 → W k = g k) ∧ (∀ j : Nat, j ≠ 35 → W 0 j = g 0 j) ∧ W 0 35 = A ∧ ∀ t : Nat, t < S → W 16 t = g 15 t := by
        intro q
        induction q with
        | zero => intro i y g1 _ _ h; exact absurd h (by omega)
        | succ q ih =>
          intro i y g1 ey hi hq a1 a2 a3 a4
          rw [gl63_s]
          unfold gh63; (repeat first | rw [spl_d] | rw [spl2_d])
          have g6 : (g1 0 6).toInt = (S : Int) := by rw [a2 6 (by decide)]; exact eg.1
          by_cases x : i < S
          case neg =>
            rw [if_neg (show ¬ y.toInt < (g1 0 6).toInt from by omega)]
            exact ⟨g1, rfl, a1, a2, a3, fun t ht => a4 t (by omega)⟩
          have cy := bn_clI (x := y) (by omega)
          rw [if_pos (show y.toInt < (g1 0 6).toInt from by omega), show y.toNatClampNeg = i from by omega]
          refine ih (i + 1) (y + 1) _ (inc1 ey (by omega)) (by omega) (by omega) (fun k b c => by rw [sg_up_n c]; exact a1 k b c) (fun j hj => by rw [sg_up_n (by decide)]; exact a2 j hj) (by rw [sg_up_n (by decide)]; exact a3) (fun t ht => ?_)
          rw [sg_up_s]
          by_cases w : t = i
          · rw [w, sgu_s, a1 15 (by decide) (by decide)]
          · rw [sgu_n w]; exact a4 t (by omega)
      obtain ⟨W, w1, w2⟩ := copy (S + 1) 0 0 (sg_up g 0 (sgu (g 0) 35 A)) (by decide) (Nat.zero_le _) (by omega) (fun k a _ => by rw [sg_up_n a]) (fun j hj => by rw [sg_up_s, sgu_n hj]) (by rw [sg_up_s, sgu_s]) (fun t ht => absurd ht (by omega))
      refine ⟨W, ?_, w2⟩
      rw [chF_end ⟨by omega, hS⟩ LM eg.1]
      have fin : ∀ (n : Nat) (y5 y6 : Int32), y5 = A → y6.toInt = (u : Int) → gl14 (S + 1) x1 x2 (n + 1) y5 y6 g LM = (if (g 0 35).toInt < 0 then W else if A.toInt < (g 0 35).toInt then W else g) := by
        intro n y5 y6 e5 e6
        rw [gl14_s]
        unfold gh14 gb54; (repeat first | rw [spl_d] | rw [spl2_d])
        rw [if_neg (show ¬ y6.toInt < x1.toInt from by omega), e5, w1]
      have stp : ∀ (n : Nat) (y5 y6 : Int32), y6.toInt < (u : Int) → gl14 (S + 1) x1 x2 (n + 1) y5 y6 g LM = gl14 (S + 1) x1 x2 n (y5 + sX12_chairLoss x2 y6 g LM) (y6 + 1) g LM := by
        intro n y5 y6 e6
        rw [gl14_s]
        unfold gh14; (repeat first | rw [spl_d] | rw [spl2_d])
        rw [if_pos (show y6.toInt < x1.toInt from by omega)]
      have j1 : (0 : Int32) + 1 = 1 := by decide
      have j2 : (1 : Int32) + 1 = 2 := by decide
      have j3 : (2 : Int32) + 1 = 3 := by decide
      have z0 : ∀ x : Int32, x + 0 = x := fun x => Int32.add_zero x
      rcases (show u = 0 ∨ u = 1 ∨ u = 2 ∨ u = 3 by omega) with v | v | v | v
      · exact fin S 0 0 (by rw [eA, c01 (by omega), c11 (by omega), c21 (by omega), z0, z0, z0]) (by rw [v]; decide)
      · rw [stp S 0 0 (by rw [v]; decide), j1]
        obtain ⟨r, rfl⟩ : ∃ t : Nat, S = t + 1 := ⟨S - 1, by omega⟩
        exact fin r _ 1 (by rw [eA, c00 (by omega), c11 (by omega), c21 (by omega), z0, z0]) (by rw [v]; decide)
      · rw [stp S 0 0 (by rw [v]; decide), j1]
        obtain ⟨r, rfl⟩ : ∃ t : Nat, S = t + 2 := ⟨S - 2, by omega⟩
        rw [stp (r + 1) _ 1 (by rw [v]; decide), j2]
        exact fin r _ 2 (by rw [eA, c00 (by omega), c10 (by omega), c21 (by omega), z0]) (by rw [v]; decide)
      · rw [stp S 0 0 (by rw [v]; decide), j1]
        obtain ⟨r, rfl⟩ : ∃ t : Nat, S = t + 3 := ⟨S - 3, by omega⟩
        rw [stp (r + 2) _ 1 (by rw [v]; decide), j2, stp (r + 1) _ 2 (by rw [v]; decide), j3]
        exact fin r _ 3 (by rw [eA, c00 (by omega), c10 (by omega), c20 (by omega)]) (by rw [v]; decide)
  -- the class's
  have clsS : ∃ V : sg_F, sX8_weigh f LX = (if (f 17 12).toInt = 0 then V else if A.toInt < (f 17 11).toInt then V else f) ∧ fFr f V ∧ (V 17 12).toInt ≠ 0 ∧ V 17 11 = A ∧ ∀ c : Nat, c < 3 → V 24 c = f 23 c := by
    have copy : ∀ (q i : Nat) (y : Int32) (f1 : sg_F), y.toInt = (i : Int) → i ≤ 3 → 3 - i < q → (∀ k : Nat, k ≠ 17 → k ≠ 24 → f1 k = f k) → f1 17 9 = f 17 9 → f1 17 10 = f 17 10 → (f1 17 12).toInt ≠ 0 → f1 17 11 = A → (∀ c : Nat, c < i → f1 24 c = f 23 c) → ∃ V : sg_F, sX8_weigh_l57 q y f1 LX = V ∧ fFr f V ∧ (V 17 12).toInt ≠ 0 ∧ V 17 11 = A ∧ ∀ c : Nat, c < 3 → V 24 c = f 23 c := by
      intro q
      induction q with
      | zero => intro i y f1 _ _ h; exact absurd h (by omega)
      | succ q ih =>
        intro i y f1 ey hi hq a1 a2 a3 a4 a5 a6
        have e9 : sX8_weigh_l57 (q + 1) y f1 LX = sX8_weigh_h57 (sX8_weigh_l57 q) y f1 LX := rfl
        rw [e9]
        unfold sX8_weigh_h57; (repeat first | rw [spl_d] | rw [spl2_d])
        by_cases x : i < 3
        case neg =>
          rw [if_neg (show ¬ y.toInt < 3 from by omega)]
          exact ⟨f1, rfl, ⟨fun k b c d => a1 k b d, a2, a3, fun c hc => by rw [a1 23 (by decide) (by decide)]⟩, a4, a5, fun c hc => a6 c (by omega)⟩
        have cy := bn_clI (x := y) (by omega)
        rw [if_pos (show y.toInt < 3 from by omega), show y.toNatClampNeg = i from by omega]
        refine ih (i + 1) (y + 1) _ (inc1 ey (by omega)) (by omega) (by omega) (fun k b c => by rw [sg_up_n c]; exact a1 k b c) (by rw [sg_up_n (by decide)]; exact a2) (by rw [sg_up_n (by decide)]; exact a3) (by rw [sg_up_n (by decide)]; exact a4) (by rw [sg_up_n (by decide)]; exact a5) (fun c hc => ?_)
        rw [sg_up_s]
        by_cases w : c = i
        · rw [w, sgu_s, a1 23 (by decide) (by decide)]
        · rw [sgu_n w]; exact a6 c (by omega)
    obtain ⟨f2, ef2⟩ : ∃ z : sg_F, z = sg_up f 17 (sgu (f 17) 12 1) := ⟨_, rfl⟩
    obtain ⟨f3, ef3⟩ : ∃ z : sg_F, z = sg_up f2 17 (sgu (f2 17) 11 A) := ⟨_, rfl⟩
    have q17 : f3 17 = sgu (sgu (f 17) 12 1) 11 A := by rw [ef3, sg_up_s, ef2, sg_up_s]
    obtain ⟨V, v1, v2⟩ := copy 4 0 0 f3 (by decide) (by decide) (by decide) (fun k a _ => by rw [ef3, sg_up_n a, ef2, sg_up_n a]) (by rw [q17, sgu_n (by decide), sgu_n (by decide)]) (by rw [q17, sgu_n (by decide), sgu_n (by decide)]) (by rw [q17, sgu_n (by decide), sgu_s]; decide) (by rw [q17, sgu_s]) (fun c hc => absurd hc (by omega))
    refine ⟨V, ?_, v2⟩
    have stp : ∀ (n : Nat) (y1 y2 : Int32) (c : Nat), y2.toInt = (c : Int) → c < 3 → sX8_weigh_l4 (n + 1) y1 y2 f LX = sX8_weigh_l4 n (y1 + f 22 (G c)) (y2 + 1) f LX := by
      intro n y1 y2 c ey hc
      have e9 : sX8_weigh_l4 (n + 1) y1 y2 f LX = sX8_weigh_h4 (sX8_weigh_l4 n) y1 y2 f LX := rfl
      have cy := bn_clI (x := y2) (by omega)
      rw [e9]
      unfold sX8_weigh_h4; (repeat first | rw [spl_d] | rw [spl2_d])
      rw [if_pos (show y2.toInt < 3 from by omega), show y2.toNatClampNeg = c from by omega, ix c hc]
    have e0 : sX8_weigh f LX = sX8_weigh_l4 4 0 0 f LX := rfl
    rw [e0, stp 3 0 0 0 k0 (by decide), show (0 : Int32) + 1 = 1 from by decide, stp 2 _ 1 1 k1 (by decide), show (1 : Int32) + 1 = 2 from by decide, stp 1 _ 2 2 (by decide) (by decide), show (2 : Int32) + 1 = 3 from by decide, ← eA]
    have e9 : sX8_weigh_l4 1 A 3 f LX = sX8_weigh_h4 (sX8_weigh_l4 0) A 3 f LX := rfl
    rw [e9]
    unfold sX8_weigh_h4 sX8_weigh_b45; (repeat first | rw [spl_d] | rw [spl2_d])
    rw [if_neg (show ¬ (3 : Int32).toInt < 3 from by decide), ← ef2, ← ef3, v1]
  obtain ⟨W, r1, r2, r3, r4, r5⟩ := refS
  obtain ⟨V, s1, s2, s3, s4, s5⟩ := clsS
  have gW : gFr S g W := ⟨fun k a _ c => r2 k a c, r3, fun t _ => by rw [r2 15 (by decide) (by decide)]⟩
  -- the new one is the best
  have upd : bRel h V W ∧ fFr f V ∧ gFr S g W := by
    refine ⟨⟨s3, by rw [s4, r4], by rw [r4]; omega, G, fun c hc => ⟨by rw [s5 c hc]; exact (hr.1 c hc).1, by have := (hr.1 c hc).2; rw [rs] at this; exact this⟩, fun t ht sit => ?_⟩, s2, gW⟩
    have hts := hh t ht sit
    obtain ⟨c, c1, c2, c3⟩ := hr.2.2 t hts sit
    exact ⟨c, c1, by rw [r5 t hts]; exact c2, c3⟩
  rw [r1, s1]
  rcases hb with ⟨b1, b2⟩ | hb
  · rw [if_pos b1, if_pos (show (g 0 35).toInt < 0 from by omega)]
    exact upd
  · obtain ⟨b1, b2, b3, b4⟩ := hb
    rw [if_neg b1, if_neg (show ¬ (g 0 35).toInt < 0 from by omega), b2]
    by_cases x : A.toInt < (g 0 35).toInt
    · rw [if_pos x, if_pos x]; exact upd
    · rw [if_neg x, if_neg x]
      exact ⟨⟨b1, b2, b3, b4⟩, fFr.rf, gFr.rf⟩
/-- all partings, both -/
theorem ways {h : Nat → Int32} {X : Nat → Nat → Int} {S : Nat} {fr x2 : Int32} {LX LM : sg_L} (hS : S ≤ 8) (hX : ∀ u t : Nat, 0 ≤ X u t ∧ X u t ≤ 209979) (hh : ∀ s : Nat, s < 8 → 0 < (h s).toInt → s < S) (hset : ∀ s : Nat, s < 8 → (mi x2 s = true ↔ 0 < (h s).toInt)) (hfr : 1 ≤ fr.toInt ∧ fr.toInt ≤ 3) : ∀ (dd s : Nat), s + dd = S → ∀ (u : Nat) (G : Nat → Nat) (f g : sg_F) (x1 : Int32), u ≤ 3 → u ≤ s → (u : Int) ≤ fr.toInt → x1.toInt = (u : Int) → evX h X fr f → evM h X S g → cRel h u s G f g → (bRel0 f g ∨ bRel h f g) → bRel h (ptF (rkS h s) f LX) (chF s x1 x2 fr g LM) ∧ fFr f (ptF (rkS h s) f LX) ∧ gFr s g (chF s x1 x2 fr g LM) := by
  intro dd
  induction dd with
  | zero =>
    intro s hs u G f g x1 u3 us uf e1 ef eg hr hb
    have : s = S := by omega
    subst this
    have rs : rkS h s = rkS h 8 := by
      have go : ∀ d : Nat, s + d ≤ 8 → rkS h (s + d) = rkS h s := by
        intro d
        induction d with
        | zero => intro _; rfl
        | succ d ih =>
          intro hd
          show rkS h (s + d + 1) = rkS h s
          rw [rkS_0 (fun z => by have := hh (s + d) (by omega) z; omega)]
          exact ih (by omega)
      have := go (8 - s) (by omega)
      rw [show s + (8 - s) = 8 from by omega] at this
      exact this.symm
    have r8 := rkS_le h 8
    rw [ptF_out (by omega) LX (by have := ef.1; omega)]
    exact leaf (LX := LX) (LM := LM) (x3 := fr) hS hX hh hset ⟨u3, us⟩ e1 ef eg hr hb
  | succ dd ih =>
    intro s hs u G f g x1 u3 us uf e1 ef eg hr hb
    have sS : s < S := by omega
    have s7 : s ≤ 7 := by omega
    have g6 := eg.1
    have rl := rkS_le h s
    by_cases sit : 0 < (h s).toInt
    case neg =>
      have m0 : mi x2 s = false := Bool.eq_false_iff.mpr (fun t => sit ((hset s (by omega)).mp t))
      rw [chF_skip s7 LM (by omega) m0, ← rkS_0 sit]
      obtain ⟨a1, a2, a3⟩ := ih (s + 1) (by omega) u G f g x1 u3 (by omega) uf e1 ef eg ⟨by rw [rkS_0 sit]; exact hr.1, hr.2.1, fun t ht c => by
        by_cases z : t = s
        · rw [z] at c; exact absurd c sit
        · exact hr.2.2 t (by omega) c⟩ hb
      exact ⟨a1, a2, a3.le (by omega)⟩
    have r8 : rkS h s < rkS h 8 := rkS_lt sit (by omega)
    have r88 := rkS_le h 8
    have i7 : rkS h s ≤ 7 := by omega
    obtain ⟨i, ei⟩ : ∃ z : Nat, z = rkS h s := ⟨_, rfl⟩
    have i1 : rkS h (s + 1) = i + 1 := by rw [rkS_1 sit, ei]
    rw [chF_sit s7 LM (by omega) ((hset s (by omega)).mpr sit), ptF_in i7 LX (by have := ef.1; omega), ← ei]
    have p1 : 2 ^ (i + 1) = 2 ^ i + 2 ^ i := by rw [Nat.pow_succ]; omega
    -- chair by chair
    have go : ∀ (d c : Nat), c + d = u + 1 → ∀ (q r : Nat) (y : Int32) (f g : sg_F), y.toInt = (c : Int) → 4 ≤ q + c → s + 2 ≤ r + c → (c ≤ 2 → True) → evX h X fr f → evM h X S g → cRel h u s G f g → ((bRel0 f g ∨ bRel h f g) ∧ (1 ≤ c → bRel h f g)) → (c = u + 1 → (u : Int) < fr.toInt) → ((1 ≤ c ∧ (d = 0 ∨ fr.toInt ≤ (c : Int)) → bRel h f g ∧ chL s x1 x2 fr r y g LM = g) ∧ (d ≠ 0 → (c : Int) < fr.toInt → bRel h (pl15 (bI i) (cI i) (ptF (i + 1)) q y f LX) (chL s x1 x2 fr r y g LM) ∧ fFr f (pl15 (bI i) (cI i) (ptF (i + 1)) q y f LX) ∧ gFr s g (chL s x1 x2 fr r y g LM)) ∧ (d ≠ 0 → fr.toInt ≤ (c : Int) → pl15 (bI i) (cI i) (ptF (i + 1)) q y f LX = f)) := by
      intro d
      induction d with
      | zero =>
        intro c hc q r y f g ey hq hr2 _ ef eg hrr hbb hcu
        obtain ⟨r, rfl⟩ : ∃ t : Nat, r = t + 1 := ⟨r - 1, by omega⟩
        refine ⟨fun z => ⟨hbb.2 z.1, ?_⟩, fun z => absurd rfl z, fun z => absurd rfl z⟩
        rw [chL_s s7 LM r (by omega) (fun z => by omega)]
        by_cases x : y.toInt < fr.toInt
        · rw [if_pos x, if_pos (show x1.toInt < y.toInt from by omega)]
        · rw [if_neg x]
      | succ d ihd =>
        intro c hc q r y f g ey hq hr2 _ ef eg hrr hbb hcu
        obtain ⟨r, rfl⟩ : ∃ t : Nat, r = t + 1 := ⟨r - 1, by omega⟩
        obtain ⟨q, rfl⟩ : ∃ t : Nat, q = t + 1 := ⟨q - 1, by omega⟩
        have cl := chL_s s7 (x1 := x1) (x2 := x2) (x3 := fr) (y := y) (g := g) LM r (by omega) (fun z => by omega)
        have e10 : (f 17 10).toInt = fr.toInt := by rw [ef.2.1]
        by_cases x : (c : Int) < fr.toInt
        case neg =>
          refine ⟨fun z => ⟨hbb.2 z.1, ?_⟩, fun _ z => absurd z x, fun _ _ => ?_⟩
          · rw [cl, if_neg (show ¬ y.toInt < fr.toInt from by omega)]
          · rw [pl15_s]
            unfold ph15; (repeat first | rw [spl_d] | rw [spl2_d])
            rw [if_neg (show ¬ y.toInt < (f 17 10).toInt from by omega)]
        refine ⟨fun z => by exfalso; omega, fun _ _ => ?_, fun _ z => by exfalso; omega⟩
        have c3 : c < 3 := by omega
        have cu : c ≤ u := by omega
        have cy := bn_clI (x := y) (by omega)
        have eyn : y.toNatClampNeg = c := by omega
        obtain ⟨h1, h2, h3⟩ := hrr
        obtain ⟨gc1, gc2⟩ := h1 c c3
        rw [← ei] at gc2
        -- he sits on this one
        obtain ⟨f12, e12⟩ : ∃ z : sg_F, z = sg_up f 23 (sgu (f 23) c (Int32.ofNat (2 ^ i + G c))) := ⟨_, rfl⟩
        obtain ⟨g12, eg12⟩ : ∃ z : sg_F, z = sg_up g 15 (sgu (g 15) s y) := ⟨_, rfl⟩
        have f1223 : f12 23 = sgu (f 23) c (Int32.ofNat (2 ^ i + G c)) := by rw [e12, sg_up_s]
        have f12k : ∀ k : Nat, k ≠ 23 → f12 k = f k := fun k a => by rw [e12, sg_up_n a]
        have g1215 : g12 15 = sgu (g 15) s y := by rw [eg12, sg_up_s]
        have g12k : ∀ k : Nat, k ≠ 15 → g12 k = g k := fun k a => by rw [eg12, sg_up_n a]
        obtain ⟨u1, eu1⟩ : ∃ z : Nat, z = if c = u then u + 1 else u := ⟨_, rfl⟩
        have hu1 : u1 ≤ 3 ∧ u1 ≤ s + 1 ∧ (u1 : Int) ≤ fr.toInt := by
          rw [eu1]
          by_cases w : c = u
          · rw [if_pos w]; omega
          · rw [if_neg w]; omega
        obtain ⟨w1, ew1⟩ : ∃ z : Int32, z = if y.toInt = x1.toInt then x1 + 1 else x1 := ⟨_, rfl⟩
        have ew1I : w1.toInt = (u1 : Int) := by
          rw [ew1, eu1]
          by_cases w : c = u
          · rw [if_pos w, if_pos (show y.toInt = x1.toInt from by omega)]
            exact inc1 e1 (by omega)
          · rw [if_neg w, if_neg (show ¬ y.toInt = x1.toInt from by omega)]; exact e1
        have G1 : cRel h u1 (s + 1) (fun t => if t = c then 2 ^ i + G c else G t) f12 g12 := by
          refine ⟨fun t ht => ?_, fun t ht => ?_, fun t ht ct => ?_⟩
          · dsimp only
            rw [i1, f1223]
            by_cases w : t = c
            · rw [if_pos w, w, sgu_s]; exact ⟨rfl, by omega⟩
            · rw [if_neg w, sgu_n w]
              have := h1 t ht
              rw [← ei] at this
              exact ⟨this.1, by omega⟩
          · dsimp only
            have h2t := h2 t ht
            have pp : 1 ≤ 2 ^ i := Nat.one_le_two_pow
            rw [eu1]
            by_cases w : t = c
            · rw [if_pos w]
              by_cases v : c = u
              · rw [if_pos v]; omega
              · rw [if_neg v]; omega
            · rw [if_neg w, h2t]
              by_cases v : c = u
              · rw [if_pos v]; omega
              · rw [if_neg v]
          · by_cases w : t = s
            · subst w
              refine ⟨c, c3, by rw [g1215, sgu_s]; exact ey, fun c' hc' => ?_⟩
              dsimp only
              rw [← ei]
              by_cases v : c' = c
              · rw [if_pos v, tb_add gc2, if_pos rfl]; exact ⟨fun _ => v, fun _ => rfl⟩
              · rw [if_neg v]
                have := (h1 c' hc').2
                rw [← ei] at this
                rw [Nat.testBit_lt_two_pow this]
                exact ⟨fun z => absurd z (by decide), fun z => absurd z v⟩
            · obtain ⟨k, k1, k2, k3⟩ := h3 t (by omega) ct
              refine ⟨k, k1, by rw [g1215, sgu_n w]; exact k2, fun c' hc' => ?_⟩
              dsimp only
              have rt : rkS h t < i := by rw [ei]; exact rkS_lt ct (by omega)
              by_cases v : c' = c
              · rw [if_pos v, tb_add gc2, if_neg (by omega), ← v]; exact k3 c' hc'
              · rw [if_neg v]; exact k3 c' hc'
        have b12 : bRel0 f12 g12 ∨ bRel h f12 g12 := by
          unfold bRel0 bRel
          rw [f12k 17 (by decide), f12k 24 (by decide), g12k 0 (by decide), g12k 16 (by decide)]
          exact hbb.1
        obtain ⟨a1, a2, a3⟩ := ih (s + 1) (by omega) u1 _ f12 g12 w1 hu1.1 hu1.2.1 hu1.2.2 ew1I (ef.K (by rw [f12k 17 (by decide)]) (by rw [f12k 17 (by decide)]) (f12k 22 (by decide))) (eg.K (by rw [g12k 0 (by decide)]) (g12k 14 (by decide))) G1 b12
        rw [i1] at a1 a2
        obtain ⟨f13, e13⟩ : ∃ z : sg_F, z = ptF (i + 1) f12 LX := ⟨_, rfl⟩
        obtain ⟨g13, eg13⟩ : ∃ z : sg_F, z = chF (s + 1) w1 x2 fr g12 LM := ⟨_, rfl⟩
        rw [← e13] at a1 a2
        rw [← eg13] at a1 a3
        -- and gets up again
        obtain ⟨f21, e21⟩ : ∃ z : sg_F, z = sg_up f13 23 (sgu (f13 23) c (Int32.ofNat (G c))) := ⟨_, rfl⟩
        have f21k : ∀ k : Nat, k ≠ 23 → f21 k = f13 k := fun k a => by rw [e21, sg_up_n a]
        have f2123 : ∀ t : Nat, t < 3 → f21 23 t = f 23 t := fun t ht => by
          rw [e21, sg_up_s]
          by_cases w : t = c
          · rw [w, sgu_s, gc1]
          · rw [sgu_n w, a2.2.2.2 t ht, f1223, sgu_n w]
        have bk : fFr f f21 := ⟨fun k a b d => by rw [f21k k b, a2.1 k a b d, f12k k b], by rw [f21k 17 (by decide), a2.2.1, f12k 17 (by decide)], by rw [f21k 17 (by decide), a2.2.2.1, f12k 17 (by decide)], f2123⟩
        have gk : gFr s g g13 := ⟨fun k a b d => by rw [a3.1 k a b d, g12k k b], fun j hj => by rw [a3.2.1 j hj, g12k 0 (by decide)], fun t ht => by rw [a3.2.2 t (by omega), g1215, sgu_n (by omega)]⟩
        have b21 : bRel h f21 g13 := by
          unfold bRel
          rw [f21k 17 (by decide), f21k 24 (by decide)]
          exact a1
        have ef21 : evX h X fr f21 := ef.K bk.2.1 bk.2.2.1 (bk.1 22 (by decide) (by decide) (by decide))
        have eg21 : evM h X S g13 := eg.K (gk.2.1 6 (by decide)) (gk.1 14 (by decide) (by decide) (by decide))
        have cr21 : cRel h u s G f21 g13 := ⟨fun t ht => by rw [f2123 t ht]; exact h1 t ht, h2, fun t ht ct => by rw [gk.2.2 t ht]; exact h3 t ht ct⟩
        have nx := ihd (c + 1) (by omega) q r (y + 1) f21 g13 (inc1 ey (by omega)) (by omega) (by omega) (fun _ => trivial) ef21 eg21 cr21 ⟨Or.inr b21, fun _ => b21⟩ (fun z => by omega)
        have cls : pl15 (bI i) (cI i) (ptF (i + 1)) (q + 1) y f LX = if (Int32.ofNat (G c)).toInt = 0 then f21 else pl15 (bI i) (cI i) (ptF (i + 1)) q (y + 1) f21 LX := by
          rw [pl15_s]
          unfold ph15; (repeat first | rw [spl_d] | rw [spl2_d])
          have a23 : f13 23 c = Int32.ofNat (2 ^ i + G c) := by rw [a2.2.2.2 c c3, f1223, sgu_s]
          rw [if_pos (show y.toInt < (f 17 10).toInt from by omega), eyn, gc1, gb_or i (by omega) _ gc2, ← e12, ← e13, a23, gb_and i (by omega) _ gc2, ← e21]
        have ref : chL s x1 x2 fr (r + 1) y g LM = chL s x1 x2 fr r (y + 1) g13 LM := by
          rw [cl, if_pos (show y.toInt < fr.toInt from by omega), if_neg (show ¬ x1.toInt < y.toInt from by omega), ← ew1, ← eg12, ← eg13]
        rw [cls, ref]
        have gI : (Int32.ofNat (G c)).toInt = (G c : Int) := by
          have p7 : 2 ^ i ≤ 2 ^ 7 := Nat.pow_le_pow_right (by decide) (by omega)
          have e128 : 2 ^ 7 = 128 := by decide
          exact ofN_I (by omega)
        have hz := h2 c c3
        by_cases w : G c = 0
        · -- the first that is free: the last one tried
          rw [if_pos (by rw [gI, w]; rfl)]
          have cu2 : c = u := by
            have : ¬ c < u := fun z => (hz.mpr z) w
            omega
          obtain ⟨n1, -⟩ := nx
          obtain ⟨m1, m2⟩ := n1 ⟨by omega, Or.inl (by omega)⟩
          rw [m2]
          exact ⟨m1, bk, gk⟩
        · rw [if_neg (by rw [gI]; omega)]
          have cu2 : c < u := hz.mp w
          obtain ⟨n1, n2, n3⟩ := nx
          by_cases v : ((c + 1 : Nat) : Int) < fr.toInt
          · obtain ⟨m1, m2, m3⟩ := n2 (by omega) v
            exact ⟨m1, bk.tr m2, gk.tr m3⟩
          · obtain ⟨m1, m2⟩ := n1 ⟨by omega, Or.inr (by omega)⟩
            rw [m2, n3 (by omega) (by omega)]
            exact ⟨m1, bk, gk⟩
    obtain ⟨-, n2, -⟩ := go (u + 1) 0 (by omega) 4 (s + 2) 0 f g (by decide) (by omega) (by omega) (fun _ => trivial) ef eg hr ⟨hb, fun z => absurd z (by decide)⟩ (fun z => by omega)
    exact n2 (by omega) (by omega)
