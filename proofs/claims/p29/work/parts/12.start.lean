/-! what holds at the law's start. Laid by a program (wip/tool) -/
def zF : sg_F := fun _ _ => 0
def zQ : sg_Q := fun _ _ => none
theorem sgw_congr {n : Nat} {h : Nat → Nat} {e e1 : sg_E} {f f1 : sg_F} {L L1 : sg_L} {Q Q1 : sg_Q} (H : ∀ k : Nat, k < n → e k (f k) (L k) (Q k) = e1 k (f1 k) (L1 k) (Q1 k)) : sgw n h e f L Q = sgw n h e1 f1 L1 Q1 := by
  unfold sgw
  apply List.map_congr_left
  intro k hk
  rw [H k (List.mem_range.mp hk)]
set_option maxHeartbeats 8000000 in
set_option maxRecDepth 100000 in
theorem cv_X (ca : Nat → ClassId) (a0 a1 a2 a3 a4 a5 a6 a7 a8 a9 a10 a11 a12 a13 a14 a15 a16 a17 a18 a19 a20 a21 a22 a23 a24 a25 a26 a27 a28 a29 a30 a31 a32 a33 a34 a35 a36 a37 a38 a39 a40 a41 a42 a43 a44 a45 a46 a47 a48 a49 a50 a51 : Nat) : sgw 52 (sgl [a0, a1, a2, a3, a4, a5, a6, a7, a8, a9, a10, a11, a12, a13, a14, a15, a16, a17, a18, a19, a20, a21, a22, a23, a24, a25, a26, a27, a28, a29, a30, a31, a32, a33, a34, a35, a36, a37, a38, a39, a40, a41, a42, a43, a44, a45, a46, a47, a48, a49, a50, a51]) (eXc ca) (sgp (sgp (sgp (sgp (sgp (sgp (sgp (sgp (sgp (sgp (sgp (sgp (sgp (sgp (sgp (sgp zF 3 0 30) 2 67 1) 3 1 30) 2 68 1) 3 2 30) 2 69 1) 2 70 3) 13 7 (-1)) 13 9 (-1)) 29 4 (-2)) 40 1 (-1)) 42 1 (-1)) 44 1 (-1)) 46 1 (-1)) 48 1 (-1)) 50 1 (-1)) L0 (sgp (sgp (sgp (sgp (sgp (sgp (sgp (sgp (sgp (sgp (sgp (sgp (sgp (sgp (sgp (sgp (sgp (sgp (sgp (sgp (sgp (sgp (sgp (sgp (sgp (sgp (sgp (sgp (sgp (sgp (sgp (sgp (sgp (sgp (sgp (sgp (sgp (sgp (sgp (sgp (sgp (sgp (sgp (sgp (sgp (sgp (sgp (sgp (sgp (sgp (sgp (sgp (sgp (sgp (sgp (sgp (sgp (sgp (sgp (sgp zQ 1 0 (some a2)) 1 1 (some a3)) 4 0 (some a5)) 4 3 (some a6)) 4 4 (some a7)) 4 5 (some a8)) 1 2 (some a4)) 1 4 (some a9)) 0 0 (some a1)) 10 0 (some a11)) 10 1 (some a12)) 0 1 (some a10)) 13 2 (some a14)) 13 3 (some a15)) 13 4 (some a16)) 13 0 (some a1)) 13 1 (some a10)) 0 2 (some a13)) 17 2 (some a18)) 17 3 (some a19)) 17 4 (some a20)) 17 5 (some a21)) 17 6 (some a22)) 17 7 (some a23)) 17 8 (some a24)) 17 0 (some a1)) 17 1 (some a10)) 0 3 (some a17)) 25 2 (some a26)) 25 0 (some a1)) 25 1 (some a10)) 0 4 (some a25)) 27 0 (some a1)) 0 5 (some a27)) 28 2 (some a29)) 28 3 (some a30)) 28 4 (some a31)) 28 0 (some a1)) 28 1 (some a13)) 0 6 (some a28)) 32 0 (some a33)) 32 1 (some a34)) 32 2 (some a35)) 0 7 (some a32)) 36 0 (some a37)) 36 1 (some a38)) 0 8 (some a36)) 0 9 (some a39)) 40 0 (some a41)) 39 0 (some a40)) 42 0 (some a43)) 39 1 (some a42)) 44 0 (some a45)) 39 2 (some a44)) 46 0 (some a47)) 39 3 (some a46)) 48 0 (some a49)) 39 4 (some a48)) 50 0 (some a51)) 39 5 (some a50)) = sgw 52 (sgl [a0, a1, a2, a3, a4, a5, a6, a7, a8, a9, a10, a11, a12, a13, a14, a15, a16, a17, a18, a19, a20, a21, a22, a23, a24, a25, a26, a27, a28, a29, a30, a31, a32, a33, a34, a35, a36, a37, a38, a39, a40, a41, a42, a43, a44, a45, a46, a47, a48, a49, a50, a51]) (eX ca (sgl [a0, a1, a2, a3, a4, a5, a6, a7, a8, a9, a10, a11, a12, a13, a14, a15, a16, a17, a18, a19, a20, a21, a22, a23, a24, a25, a26, a27, a28, a29, a30, a31, a32, a33, a34, a35, a36, a37, a38, a39, a40, a41, a42, a43, a44, a45, a46, a47, a48, a49, a50, a51])) f0X L0 Q0 := by
  apply sgw_congr
  intro k hk
  match k, hk with
  | 0, _ => rfl
  | 1, _ => rfl
  | 2, _ => rfl
  | 3, _ => rfl
  | 4, _ => rfl
  | 5, _ => rfl
  | 6, _ => rfl
  | 7, _ => rfl
  | 8, _ => rfl
  | 9, _ => rfl
  | 10, _ => rfl
  | 11, _ => rfl
  | 12, _ => rfl
  | 13, _ => rfl
  | 14, _ => rfl
  | 15, _ => rfl
  | 16, _ => rfl
  | 17, _ => rfl
  | 18, _ => rfl
  | 19, _ => rfl
  | 20, _ => rfl
  | 21, _ => rfl
  | 22, _ => rfl
  | 23, _ => rfl
  | 24, _ => rfl
  | 25, _ => rfl
  | 26, _ => rfl
  | 27, _ => rfl
  | 28, _ => rfl
  | 29, _ => rfl
  | 30, _ => rfl
  | 31, _ => rfl
  | 32, _ => rfl
  | 33, _ => rfl
  | 34, _ => rfl
  | 35, _ => rfl
  | 36, _ => rfl
  | 37, _ => rfl
  | 38, _ => rfl
  | 39, _ =>
    refine congrArg (fun g => (.inl (ca 3, 6, .inr (.inr (.inr (.inr g)))) : va_E)) (?_ : _ = (fun i => if i < 6 then some (sgl [a0, a1, a2, a3, a4, a5, a6, a7, a8, a9, a10, a11, a12, a13, a14, a15, a16, a17, a18, a19, a20, a21, a22, a23, a24, a25, a26, a27, a28, a29, a30, a31, a32, a33, a34, a35, a36, a37, a38, a39, a40, a41, a42, a43, a44, a45, a46, a47, a48, a49, a50, a51] (40 + 2 * i)) else none))
    funext i
    rcases (show i = 0 ∨ i = 1 ∨ i = 2 ∨ i = 3 ∨ i = 4 ∨ i = 5 ∨ 6 ≤ i by omega) with rfl | rfl | rfl | rfl | rfl | rfl | h
    · rfl
    · rfl
    · rfl
    · rfl
    · rfl
    · rfl
    · rw [if_neg (by omega)]
      show (sgu (sgu (sgu (sgu (sgu (sgu (fun _ => none) 0 (some a40)) 1 (some a42)) 2 (some a44)) 3 (some a46)) 4 (some a48)) 5 (some a50)) i = none
      rw [sgu_n (by omega), sgu_n (by omega), sgu_n (by omega), sgu_n (by omega), sgu_n (by omega), sgu_n (by omega)]
  | 40, _ => rfl
  | 41, _ => rfl
  | 42, _ => rfl
  | 43, _ => rfl
  | 44, _ => rfl
  | 45, _ => rfl
  | 46, _ => rfl
  | 47, _ => rfl
  | 48, _ => rfl
  | 49, _ => rfl
  | 50, _ => rfl
  | 51, _ => rfl
  | k + 52, h => exact absurd h (by omega)
set_option maxHeartbeats 8000000 in
set_option maxRecDepth 100000 in
theorem cv_M (ca : Nat → ClassId) (b0 b1 b2 b3 b4 b5 b6 b7 b8 b9 b10 b11 b12 b13 b14 b15 b16 b17 b18 b19 b20 b21 b22 b23 b24 b25 : Nat) : sgw 26 (sgl [b0, b1, b2, b3, b4, b5, b6, b7, b8, b9, b10, b11, b12, b13, b14, b15, b16, b17, b18, b19, b20, b21, b22, b23, b24, b25]) (eMc ca) (sgp (sgp (sgp (sgp (sgp (sgp (sgp (sgp (sgp (sgp (sgp (sgp (sgp (sgp (sgp (sgp (sgp zF 22 0 (-1)) 22 1 (-1)) 22 2 (-1)) 22 3 (-1)) 22 4 (-1)) 22 5 (-1)) 0 11 (-1)) 1 67 1) 5 0 30) 1 68 1) 5 1 30) 1 69 1) 5 2 30) 1 70 3) 0 42 (-2)) 0 20 (-1)) 0 24 (-1)) L0 (sgp (sgp (sgp (sgp (sgp (sgp (sgp (sgp (sgp (sgp (sgp (sgp (sgp (sgp (sgp (sgp (sgp (sgp (sgp (sgp (sgp (sgp (sgp (sgp (sgp zQ 0 0 (some b1)) 0 1 (some b2)) 0 2 (some b3)) 0 3 (some b4)) 0 7 (some b5)) 0 8 (some b6)) 0 10 (some b7)) 0 17 (some b8)) 0 18 (some b9)) 0 19 (some b10)) 0 26 (some b11)) 0 27 (some b12)) 0 28 (some b13)) 0 32 (some b14)) 0 33 (some b15)) 0 34 (some b16)) 0 36 (some b17)) 0 37 (some b18)) 0 44 (some b19)) 0 46 (some b20)) 0 47 (some b21)) 0 51 (some b22)) 0 52 (some b23)) 0 53 (some b24)) 0 54 (some b25)) = sgw 26 (sgl [b0, b1, b2, b3, b4, b5, b6, b7, b8, b9, b10, b11, b12, b13, b14, b15, b16, b17, b18, b19, b20, b21, b22, b23, b24, b25]) (eM ca (sgl [b0, b1, b2, b3, b4, b5, b6, b7, b8, b9, b10, b11, b12, b13, b14, b15, b16, b17, b18, b19, b20, b21, b22, b23, b24, b25])) f0M L0 Q0 := by
  apply sgw_congr
  intro k hk
  match k, hk with
  | 0, _ => rfl
  | 1, _ => rfl
  | 2, _ => rfl
  | 3, _ => rfl
  | 4, _ => rfl
  | 5, _ => rfl
  | 6, _ => rfl
  | 7, _ => rfl
  | 8, _ => rfl
  | 9, _ => rfl
  | 10, _ => rfl
  | 11, _ => rfl
  | 12, _ => rfl
  | 13, _ => rfl
  | 14, _ => rfl
  | 15, _ => rfl
  | 16, _ => rfl
  | 17, _ => rfl
  | 18, _ => rfl
  | 19, _ => rfl
  | 20, _ => rfl
  | 21, _ => rfl
  | 22, _ => rfl
  | 23, _ => rfl
  | 24, _ => rfl
  | 25, _ => rfl
  | k + 26, h => exact absurd h (by omega)
theorem lz_eqi {args : Array Value} {s : State} {tm : Term} {z : Int32} (h : (Cond.eq tm (.int z)).before args s = true) : tm.eval args s none [] s = some (.int z) := by
  cases hv : tm.eval args s none [] s with
  | none => simp [Cond.before, Cond.holds, Cond.value, hv] at h
  | some w =>
    have hz : (Term.int z).eval args s none [] s = some (.int z) := rfl
    simp only [Cond.before, Cond.holds, Cond.value, hv, hz] at h
    cases w <;> simp_all
theorem lz_prim {args : Array Value} {s : State} {ty : FieldType} (h : (Cond.arrayClass ty).before args s = true) (hr : ∀ c : ClassId, s.vm.findClass ("[" ++ ty.toString) = some c → va_RA s c ty) : ∃ cA : ClassId, ArrOfT s cA ty ∧ va_RA s cA ty := by
  obtain ⟨c, k, comp, h1, h2, h3⟩ := Cond.arrayClass_spec h
  exact ⟨c, fun n z => ⟨fun k h => (by cases h), k, h2, comp, h3⟩, hr c h1⟩
theorem lz_over {args : Array Value} {s : State} {C : String} (h : (Cond.arrayOver (.object C)).before args s = true) : ∃ cA : ClassId, ArrOfT s cA (.object C) ∧ va_RA s cA (.object C) := by
  obtain ⟨comp, c, k, h1, h2, h3, h4, h5⟩ := Cond.arrayOver_spec h
  exact ⟨c, fun n z => ⟨fun k h => (by cases h), k, h3, comp, h4⟩, k, comp, h3, h4, h1, h5⟩
set_option maxHeartbeats 4000000 in
set_option maxRecDepth 100000 in
theorem lz_zLEAST {b : Nat} {s : State} {A : Nat → Prop} (hts : ∀ w ∈ lw_tbl, w.before #[Value.ref b] s = true) (hgv : (Jvm.Cond.and given_1 narrow_1).before #[Value.ref b] s = true) (hA : ∀ a : Nat, a < s.heap.size → ¬ A a) : ∃ t : Nat, va_Z "SetAgain" "LEAST" "[I" (.ref t) A s s.heap ∧ va_T .int t 11 (fun j => .int (zLEAST j)) A s s.heap := by
  have hs := flat_of_before _ hgv
  obtain ⟨t, h1, h2⟩ := va_Tof (tm := .static "SetAgain" "LEAST" "[I") (ty := .int) (N := 11) (f := fun j => .int (zLEAST j)) (A := A) (by decide) (hs (.arrayOf (.static "SetAgain" "LEAST" "[I") .int) (by decide +kernel)) (lz_eqi (hs (.eq (.length (.static "SetAgain" "LEAST" "[I")) (.int 11)) (by decide +kernel))) (fun j hj => by
    match j, hj with
    | 0, _ => exact lz_eqi (hs (.eq (.elem (.static "SetAgain" "LEAST" "[I") (.int 0)) (.int 0)) (by decide +kernel))
    | 1, _ => exact lz_eqi (hs (.eq (.elem (.static "SetAgain" "LEAST" "[I") (.int 1)) (.int 0)) (by decide +kernel))
    | 2, _ => exact lz_eqi (hs (.eq (.elem (.static "SetAgain" "LEAST" "[I") (.int 2)) (.int 0)) (by decide +kernel))
    | 3, _ => exact lz_eqi (hs (.eq (.elem (.static "SetAgain" "LEAST" "[I") (.int 3)) (.int 0)) (by decide +kernel))
    | 4, _ => exact lz_eqi (hs (.eq (.elem (.static "SetAgain" "LEAST" "[I") (.int 4)) (.int 0)) (by decide +kernel))
    | 5, _ => exact lz_eqi (hs (.eq (.elem (.static "SetAgain" "LEAST" "[I") (.int 5)) (.int 1)) (by decide +kernel))
    | 6, _ => exact lz_eqi (hs (.eq (.elem (.static "SetAgain" "LEAST" "[I") (.int 6)) (.int 0)) (by decide +kernel))
    | 7, _ => exact lz_eqi (hs (.eq (.elem (.static "SetAgain" "LEAST" "[I") (.int 7)) (.int 0)) (by decide +kernel))
    | 8, _ => exact lz_eqi (hs (.eq (.elem (.static "SetAgain" "LEAST" "[I") (.int 8)) (.int 0)) (by decide +kernel))
    | 9, _ => exact lz_eqi (hs (.eq (.elem (.static "SetAgain" "LEAST" "[I") (.int 9)) (.int 0)) (by decide +kernel))
    | 10, _ => exact lz_eqi (hs (.eq (.elem (.static "SetAgain" "LEAST" "[I") (.int 10)) (.int 0)) (by decide +kernel))
    | j + 11, h => exact absurd h (by omega)) hA
  exact ⟨t, va_Zref (hts (.laysStatic "SetAgain" "LEAST" "[I") (by decide +kernel)) (hts (.initialized "SetAgain") (by decide +kernel)) h1 hA, h2⟩
set_option maxHeartbeats 4000000 in
set_option maxRecDepth 100000 in
theorem lz_zMOST {b : Nat} {s : State} {A : Nat → Prop} (hts : ∀ w ∈ lw_tbl, w.before #[Value.ref b] s = true) (hgv : (Jvm.Cond.and given_1 narrow_1).before #[Value.ref b] s = true) (hA : ∀ a : Nat, a < s.heap.size → ¬ A a) : ∃ t : Nat, va_Z "SetAgain" "MOST" "[I" (.ref t) A s s.heap ∧ va_T .int t 11 (fun j => .int (zMOST j)) A s s.heap := by
  have hs := flat_of_before _ hgv
  obtain ⟨t, h1, h2⟩ := va_Tof (tm := .static "SetAgain" "MOST" "[I") (ty := .int) (N := 11) (f := fun j => .int (zMOST j)) (A := A) (by decide) (hs (.arrayOf (.static "SetAgain" "MOST" "[I") .int) (by decide +kernel)) (lz_eqi (hs (.eq (.length (.static "SetAgain" "MOST" "[I")) (.int 11)) (by decide +kernel))) (fun j hj => by
    match j, hj with
    | 0, _ => exact lz_eqi (hs (.eq (.elem (.static "SetAgain" "MOST" "[I") (.int 0)) (.int 60)) (by decide +kernel))
    | 1, _ => exact lz_eqi (hs (.eq (.elem (.static "SetAgain" "MOST" "[I") (.int 1)) (.int 60)) (by decide +kernel))
    | 2, _ => exact lz_eqi (hs (.eq (.elem (.static "SetAgain" "MOST" "[I") (.int 2)) (.int 60)) (by decide +kernel))
    | 3, _ => exact lz_eqi (hs (.eq (.elem (.static "SetAgain" "MOST" "[I") (.int 3)) (.int 9)) (by decide +kernel))
    | 4, _ => exact lz_eqi (hs (.eq (.elem (.static "SetAgain" "MOST" "[I") (.int 4)) (.int 9)) (by decide +kernel))
    | 5, _ => exact lz_eqi (hs (.eq (.elem (.static "SetAgain" "MOST" "[I") (.int 5)) (.int 12)) (by decide +kernel))
    | 6, _ => exact lz_eqi (hs (.eq (.elem (.static "SetAgain" "MOST" "[I") (.int 6)) (.int 60)) (by decide +kernel))
    | 7, _ => exact lz_eqi (hs (.eq (.elem (.static "SetAgain" "MOST" "[I") (.int 7)) (.int 12)) (by decide +kernel))
    | 8, _ => exact lz_eqi (hs (.eq (.elem (.static "SetAgain" "MOST" "[I") (.int 8)) (.int 3)) (by decide +kernel))
    | 9, _ => exact lz_eqi (hs (.eq (.elem (.static "SetAgain" "MOST" "[I") (.int 9)) (.int 9)) (by decide +kernel))
    | 10, _ => exact lz_eqi (hs (.eq (.elem (.static "SetAgain" "MOST" "[I") (.int 10)) (.int 99)) (by decide +kernel))
    | j + 11, h => exact absurd h (by omega)) hA
  exact ⟨t, va_Zref (hts (.laysStatic "SetAgain" "MOST" "[I") (by decide +kernel)) (hts (.initialized "SetAgain") (by decide +kernel)) h1 hA, h2⟩
set_option maxHeartbeats 4000000 in
set_option maxRecDepth 100000 in
theorem lz_zABOVE {b : Nat} {s : State} {A : Nat → Prop} (hts : ∀ w ∈ lw_tbl, w.before #[Value.ref b] s = true) (hgv : (Jvm.Cond.and given_1 narrow_1).before #[Value.ref b] s = true) (hA : ∀ a : Nat, a < s.heap.size → ¬ A a) : ∃ t : Nat, va_Z "SetAgain$Desks" "ABOVE" "[I" (.ref t) A s s.heap ∧ va_T .int t 8 (fun j => .int (zABOVE j)) A s s.heap := by
  have hs := flat_of_before _ hgv
  obtain ⟨t, h1, h2⟩ := va_Tof (tm := .static "SetAgain$Desks" "ABOVE" "[I") (ty := .int) (N := 8) (f := fun j => .int (zABOVE j)) (A := A) (by decide) (hs (.arrayOf (.static "SetAgain$Desks" "ABOVE" "[I") .int) (by decide +kernel)) (lz_eqi (hs (.eq (.length (.static "SetAgain$Desks" "ABOVE" "[I")) (.int 8)) (by decide +kernel))) (fun j hj => by
    match j, hj with
    | 0, _ => exact lz_eqi (hs (.eq (.elem (.static "SetAgain$Desks" "ABOVE" "[I") (.int 0)) (.int (-1))) (by decide +kernel))
    | 1, _ => exact lz_eqi (hs (.eq (.elem (.static "SetAgain$Desks" "ABOVE" "[I") (.int 1)) (.int 0)) (by decide +kernel))
    | 2, _ => exact lz_eqi (hs (.eq (.elem (.static "SetAgain$Desks" "ABOVE" "[I") (.int 2)) (.int 0)) (by decide +kernel))
    | 3, _ => exact lz_eqi (hs (.eq (.elem (.static "SetAgain$Desks" "ABOVE" "[I") (.int 3)) (.int 2)) (by decide +kernel))
    | 4, _ => exact lz_eqi (hs (.eq (.elem (.static "SetAgain$Desks" "ABOVE" "[I") (.int 4)) (.int 1)) (by decide +kernel))
    | 5, _ => exact lz_eqi (hs (.eq (.elem (.static "SetAgain$Desks" "ABOVE" "[I") (.int 5)) (.int 3)) (by decide +kernel))
    | 6, _ => exact lz_eqi (hs (.eq (.elem (.static "SetAgain$Desks" "ABOVE" "[I") (.int 6)) (.int 0)) (by decide +kernel))
    | 7, _ => exact lz_eqi (hs (.eq (.elem (.static "SetAgain$Desks" "ABOVE" "[I") (.int 7)) (.int 4)) (by decide +kernel))
    | j + 8, h => exact absurd h (by omega)) hA
  exact ⟨t, va_Zref (hts (.laysStatic "SetAgain$Desks" "ABOVE" "[I") (by decide +kernel)) (hts (.initialized "SetAgain$Desks") (by decide +kernel)) h1 hA, h2⟩
set_option maxHeartbeats 4000000 in
set_option maxRecDepth 100000 in
theorem lz_zOWN {b : Nat} {s : State} {A : Nat → Prop} (hts : ∀ w ∈ lw_tbl, w.before #[Value.ref b] s = true) (hgv : (Jvm.Cond.and given_1 narrow_1).before #[Value.ref b] s = true) (hA : ∀ a : Nat, a < s.heap.size → ¬ A a) : ∃ t : Nat, va_Z "SetAgain$Desks" "OWN" "[I" (.ref t) A s s.heap ∧ va_T .int t 32 (fun j => .int (zOWN j)) A s s.heap := by
  have hs := flat_of_before _ hgv
  obtain ⟨t, h1, h2⟩ := va_Tof (tm := .static "SetAgain$Desks" "OWN" "[I") (ty := .int) (N := 32) (f := fun j => .int (zOWN j)) (A := A) (by decide) (hs (.arrayOf (.static "SetAgain$Desks" "OWN" "[I") .int) (by decide +kernel)) (lz_eqi (hs (.eq (.length (.static "SetAgain$Desks" "OWN" "[I")) (.int 32)) (by decide +kernel))) (fun j hj => by
    match j, hj with
    | 0, _ => exact lz_eqi (hs (.eq (.elem (.static "SetAgain$Desks" "OWN" "[I") (.int 0)) (.int 1)) (by decide +kernel))
    | 1, _ => exact lz_eqi (hs (.eq (.elem (.static "SetAgain$Desks" "OWN" "[I") (.int 1)) (.int 10)) (by decide +kernel))
    | 2, _ => exact lz_eqi (hs (.eq (.elem (.static "SetAgain$Desks" "OWN" "[I") (.int 2)) (.int 11)) (by decide +kernel))
    | 3, _ => exact lz_eqi (hs (.eq (.elem (.static "SetAgain$Desks" "OWN" "[I") (.int 3)) (.int 2)) (by decide +kernel))
    | 4, _ => exact lz_eqi (hs (.eq (.elem (.static "SetAgain$Desks" "OWN" "[I") (.int 4)) (.int 20)) (by decide +kernel))
    | 5, _ => exact lz_eqi (hs (.eq (.elem (.static "SetAgain$Desks" "OWN" "[I") (.int 5)) (.int 0)) (by decide +kernel))
    | 6, _ => exact lz_eqi (hs (.eq (.elem (.static "SetAgain$Desks" "OWN" "[I") (.int 6)) (.int 0)) (by decide +kernel))
    | 7, _ => exact lz_eqi (hs (.eq (.elem (.static "SetAgain$Desks" "OWN" "[I") (.int 7)) (.int 0)) (by decide +kernel))
    | 8, _ => exact lz_eqi (hs (.eq (.elem (.static "SetAgain$Desks" "OWN" "[I") (.int 8)) (.int 0)) (by decide +kernel))
    | 9, _ => exact lz_eqi (hs (.eq (.elem (.static "SetAgain$Desks" "OWN" "[I") (.int 9)) (.int 30)) (by decide +kernel))
    | 10, _ => exact lz_eqi (hs (.eq (.elem (.static "SetAgain$Desks" "OWN" "[I") (.int 10)) (.int 0)) (by decide +kernel))
    | 11, _ => exact lz_eqi (hs (.eq (.elem (.static "SetAgain$Desks" "OWN" "[I") (.int 11)) (.int 0)) (by decide +kernel))
    | 12, _ => exact lz_eqi (hs (.eq (.elem (.static "SetAgain$Desks" "OWN" "[I") (.int 12)) (.int 0)) (by decide +kernel))
    | 13, _ => exact lz_eqi (hs (.eq (.elem (.static "SetAgain$Desks" "OWN" "[I") (.int 13)) (.int 41)) (by decide +kernel))
    | 14, _ => exact lz_eqi (hs (.eq (.elem (.static "SetAgain$Desks" "OWN" "[I") (.int 14)) (.int 40)) (by decide +kernel))
    | 15, _ => exact lz_eqi (hs (.eq (.elem (.static "SetAgain$Desks" "OWN" "[I") (.int 15)) (.int 0)) (by decide +kernel))
    | 16, _ => exact lz_eqi (hs (.eq (.elem (.static "SetAgain$Desks" "OWN" "[I") (.int 16)) (.int 0)) (by decide +kernel))
    | 17, _ => exact lz_eqi (hs (.eq (.elem (.static "SetAgain$Desks" "OWN" "[I") (.int 17)) (.int 0)) (by decide +kernel))
    | 18, _ => exact lz_eqi (hs (.eq (.elem (.static "SetAgain$Desks" "OWN" "[I") (.int 18)) (.int 50)) (by decide +kernel))
    | 19, _ => exact lz_eqi (hs (.eq (.elem (.static "SetAgain$Desks" "OWN" "[I") (.int 19)) (.int 0)) (by decide +kernel))
    | 20, _ => exact lz_eqi (hs (.eq (.elem (.static "SetAgain$Desks" "OWN" "[I") (.int 20)) (.int 0)) (by decide +kernel))
    | 21, _ => exact lz_eqi (hs (.eq (.elem (.static "SetAgain$Desks" "OWN" "[I") (.int 21)) (.int 0)) (by decide +kernel))
    | 22, _ => exact lz_eqi (hs (.eq (.elem (.static "SetAgain$Desks" "OWN" "[I") (.int 22)) (.int 0)) (by decide +kernel))
    | 23, _ => exact lz_eqi (hs (.eq (.elem (.static "SetAgain$Desks" "OWN" "[I") (.int 23)) (.int 60)) (by decide +kernel))
    | 24, _ => exact lz_eqi (hs (.eq (.elem (.static "SetAgain$Desks" "OWN" "[I") (.int 24)) (.int 70)) (by decide +kernel))
    | 25, _ => exact lz_eqi (hs (.eq (.elem (.static "SetAgain$Desks" "OWN" "[I") (.int 25)) (.int 0)) (by decide +kernel))
    | 26, _ => exact lz_eqi (hs (.eq (.elem (.static "SetAgain$Desks" "OWN" "[I") (.int 26)) (.int 0)) (by decide +kernel))
    | 27, _ => exact lz_eqi (hs (.eq (.elem (.static "SetAgain$Desks" "OWN" "[I") (.int 27)) (.int 0)) (by decide +kernel))
    | 28, _ => exact lz_eqi (hs (.eq (.elem (.static "SetAgain$Desks" "OWN" "[I") (.int 28)) (.int 0)) (by decide +kernel))
    | 29, _ => exact lz_eqi (hs (.eq (.elem (.static "SetAgain$Desks" "OWN" "[I") (.int 29)) (.int 80)) (by decide +kernel))
    | 30, _ => exact lz_eqi (hs (.eq (.elem (.static "SetAgain$Desks" "OWN" "[I") (.int 30)) (.int 0)) (by decide +kernel))
    | 31, _ => exact lz_eqi (hs (.eq (.elem (.static "SetAgain$Desks" "OWN" "[I") (.int 31)) (.int 81)) (by decide +kernel))
    | j + 32, h => exact absurd h (by omega)) hA
  exact ⟨t, va_Zref (hts (.laysStatic "SetAgain$Desks" "OWN" "[I") (by decide +kernel)) (hts (.initialized "SetAgain$Desks") (by decide +kernel)) h1 hA, h2⟩
theorem lz_Z {b : Nat} {s : State} (hts : ∀ w ∈ lw_tbl, w.before #[Value.ref b] s = true) (hgv : (Jvm.Cond.and given_1 narrow_1).before #[Value.ref b] s = true) : ∃ za : Nat → Nat, sgZ zcX za (fun q => s.heap.size ≤ q) s.heap.size s := by
  have hA : ∀ a : Nat, a < s.heap.size → ¬ (fun q => s.heap.size ≤ q) a := fun a h g => absurd h (Nat.not_lt.mpr g)
  obtain ⟨t0, z0, g0⟩ := lz_zLEAST hts hgv hA
  obtain ⟨t1, z1, g1⟩ := lz_zMOST hts hgv hA
  obtain ⟨t2, z2, g2⟩ := lz_zABOVE hts hgv hA
  obtain ⟨t3, z3, g3⟩ := lz_zOWN hts hgv hA
  have lt : ∀ {t N : Nat} {f : Nat → Value}, va_T .int t N f (fun q => s.heap.size ≤ q) s s.heap → t < s.heap.size ∧ ¬ s.heap.size ≤ t := by
    intro t N f h
    obtain ⟨cell, h1, -⟩ := h
    have := (Array.getElem?_eq_some_iff.mp h1).1
    exact ⟨this, by omega⟩
  refine ⟨fun i => match i with | 0 => t0 | 1 => t1 | 2 => t2 | _ => t3, ?_⟩
  intro i q hq
  match i, hq with
  | 0, hq => cases hq; exact ⟨z0, g0, (lt g0).1, (lt g0).2⟩
  | 1, hq => cases hq; exact ⟨z1, g1, (lt g1).1, (lt g1).2⟩
  | 2, hq => cases hq; exact ⟨z2, g2, (lt g2).1, (lt g2).2⟩
  | 3, hq => cases hq; exact ⟨z3, g3, (lt g3).1, (lt g3).2⟩
  | i + 4, hq => simp [zcX] at hq
theorem lz_N {b : Nat} {s : State} (hts : ∀ w ∈ lw_tbl, w.before #[Value.ref b] s = true) : mkNs s := by
  intro q hq
  simp only [mkN, List.mem_cons, List.not_mem_nil, or_false] at hq
  rcases hq with rfl | rfl | rfl | rfl | rfl
  · exact va_Nw.of rfl (hts _ (by decide +kernel))
  · exact va_Nw.of rfl (hts _ (by decide +kernel))
  · exact va_Nw.of rfl (hts _ (by decide +kernel))
  · exact va_Nw.of rfl (hts _ (by decide +kernel))
  · exact va_Nw.of rfl (hts _ (by decide +kernel))
/-- what the tables say of the classes and the arrays -/
theorem lz_K {b : Nat} {s : State} (hts : ∀ w ∈ lw_tbl, w.before #[Value.ref b] s = true) : ∃ (D : va_G) (ca : Nat → ClassId), va_K D vwCl (tyX ca) s := by
  obtain ⟨c0, i0, h0⟩ := u_known (C := RX0) (T := TX0) (N := 5) (n := 5) hts inX0 (hts (.instantiable RX0 5) (by decide +kernel))
  obtain ⟨c1, i1, h1⟩ := u_known (C := RX1) (T := TX1) (N := 5) (n := 5) hts inX1 (hts (.instantiable RX1 5) (by decide +kernel))
  obtain ⟨c2, i2, h2⟩ := u_known (C := RX2) (T := TX2) (N := 6) (n := 6) hts inX2 (hts (.instantiable RX2 6) (by decide +kernel))
  obtain ⟨c3, i3, h3⟩ := u_known (C := RX3) (T := TX3) (N := 6) (n := 6) hts inX3 (hts (.instantiable RX3 6) (by decide +kernel))
  obtain ⟨c4, i4, h4⟩ := u_known (C := RX4) (T := TX4) (N := 11) (n := 11) hts inX4 (hts (.instantiable RX4 11) (by decide +kernel))
  obtain ⟨c5, i5, h5⟩ := u_known (C := RX5) (T := TX5) (N := 10) (n := 10) hts inX5 (hts (.instantiable RX5 10) (by decide +kernel))
  obtain ⟨c6, i6, h6⟩ := u_known (C := RX6) (T := TX6) (N := 3) (n := 3) hts inX6 (hts (.instantiable RX6 3) (by decide +kernel))
  obtain ⟨c7, i7, h7⟩ := u_known (C := RX7) (T := TX7) (N := 4) (n := 4) hts inX7 (hts (.instantiable RX7 4) (by decide +kernel))
  obtain ⟨c8, i8, h8⟩ := u_known (C := RX8) (T := TX8) (N := 13) (n := 13) hts inX8 (hts (.instantiable RX8 13) (by decide +kernel))
  obtain ⟨c9, i9, h9⟩ := u_known (C := RX9) (T := TX9) (N := 3) (n := 3) hts inX9 (hts (.instantiable RX9 3) (by decide +kernel))
  obtain ⟨c10, i10, h10⟩ := u_known (C := RX10) (T := TX10) (N := 4) (n := 4) hts inX10 (hts (.instantiable RX10 4) (by decide +kernel))
  obtain ⟨c11, i11, h11⟩ := u_known (C := RX11) (T := TX11) (N := 10) (n := 10) hts inX11 (hts (.instantiable RX11 10) (by decide +kernel))
  obtain ⟨c12, i12, h12⟩ := u_known (C := RX12) (T := TX12) (N := 55) (n := 55) hts inX12 (hts (.instantiable RX12 55) (by decide +kernel))
  obtain ⟨x0, y0, z0⟩ := lz_prim (hts (.arrayClass .int) (by decide +kernel)) (fun _ h => h)
  obtain ⟨x1, y1, z1⟩ := lz_prim (hts (.arrayClass .long) (by decide +kernel)) (fun _ h => h)
  obtain ⟨x2, y2, z2⟩ := lz_prim (hts (.arrayClass .boolean) (by decide +kernel)) (fun _ h => h)
  obtain ⟨x3, y3, z3⟩ := lz_over (hts (.arrayOver (.object "SetAgain$Shelf")) (by decide +kernel))
  refine ⟨(fun k => match k with | 0 => c0 | 1 => c1 | 2 => c2 | 3 => c3 | 4 => c4 | 5 => c5 | 6 => c6 | 7 => c7 | 8 => c8 | 9 => c9 | 10 => c10 | 11 => c11 | _ => c12, fun k => match k with | 0 => i0 | 1 => i1 | 2 => i2 | 3 => i3 | 4 => i4 | 5 => i5 | 6 => i6 | 7 => i7 | 8 => i8 | 9 => i9 | 10 => i10 | 11 => i11 | _ => i12), (fun k => match k with | 0 => x0 | 1 => x1 | 2 => x2 | _ => x3), ?_, ?_⟩
  · intro k q hq
    match k, hq with
    | 0, hq => cases hq; exact h0
    | 1, hq => cases hq; exact h1
    | 2, hq => cases hq; exact h2
    | 3, hq => cases hq; exact h3
    | 4, hq => cases hq; exact h4
    | 5, hq => cases hq; exact h5
    | 6, hq => cases hq; exact h6
    | 7, hq => cases hq; exact h7
    | 8, hq => cases hq; exact h8
    | 9, hq => cases hq; exact h9
    | 10, hq => cases hq; exact h10
    | 11, hq => cases hq; exact h11
    | 12, hq => cases hq; exact h12
    | k + 13, hq => simp [vwCl] at hq
  · intro k q hq
    match k, hq with
    | 0, hq => cases hq; exact ⟨y0, z0⟩
    | 1, hq => cases hq; exact ⟨y1, z1⟩
    | 2, hq => cases hq; exact ⟨y2, z2⟩
    | 3, hq => cases hq; exact ⟨y3, z3⟩
    | k + 4, hq => simp [tyX] at hq
