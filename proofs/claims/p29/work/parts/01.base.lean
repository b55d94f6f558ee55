/-! A WORLD AS FUNCTIONS: the cells of a system are numbered 0 .. n-1; cell k lies at h k and holds e k (its ints) (its longs) (its references). The words here are general; each system has its own n, h, e. -/
def sg_up {α : Type} (f : Nat → Nat → α) (k : Nat) (g : Nat → α) : Nat → Nat → α := fun i => bif Nat.beq i k then g else f i
def sgu {α : Type} (g : Nat → α) (j : Nat) (x : α) : Nat → α := fun i => bif Nat.beq i j then x else g i
theorem sg_up_s {α : Type} {f : Nat → Nat → α} {k : Nat} {g : Nat → α} : sg_up f k g k = g := by
  unfold sg_up
  rw [Nat.beq_refl]
  rfl
theorem sg_up_n {α : Type} {f : Nat → Nat → α} {k i : Nat} {g : Nat → α} (h : i ≠ k) : sg_up f k g i = f i := by
  unfold sg_up
  have : Nat.beq i k = false := by
    cases hb : Nat.beq i k
    · rfl
    · exact absurd (Nat.eq_of_beq_eq_true hb) h
  rw [this]
  rfl
theorem sgu_s {α : Type} {g : Nat → α} {j : Nat} {x : α} : sgu g j x j = x := by
  unfold sgu
  rw [Nat.beq_refl]
  rfl
theorem sgu_n {α : Type} {g : Nat → α} {j i : Nat} {x : α} (h : i ≠ j) : sgu g j x i = g i := by
  unfold sgu
  have : Nat.beq i j = false := by
    cases hb : Nat.beq i j
    · rfl
    · exact absurd (Nat.eq_of_beq_eq_true hb) h
  rw [this]
  rfl
theorem sgu_upd (g : Nat → Int32) (j : Nat) (x : Int32) : upd g j x = sgu g j x := by
  funext i
  by_cases h : i = j
  · subst h; rw [sgu_s]; exact if_pos rfl
  · rw [sgu_n h]; exact if_neg h
theorem sgu_updL (g : Nat → Int64) (j : Nat) (x : Int64) : vp_updL g j x = sgu g j x := by
  funext i
  by_cases h : i = j
  · subst h; rw [sgu_s]; exact if_pos rfl
  · rw [sgu_n h]; exact if_neg h
theorem sg_up_id {α : Type} (f : Nat → Nat → α) (k : Nat) : sg_up f k (f k) = f := by
  funext i
  by_cases h : i = k
  · subst h; exact sg_up_s
  · exact sg_up_n h
abbrev sg_F : Type := Nat → Nat → Int32
abbrev sg_L : Type := Nat → Nat → Int64
abbrev sg_Q : Type := Nat → Nat → Option Nat
abbrev sg_E : Type := Nat → (Nat → Int32) → (Nat → Int64) → (Nat → Option Nat) → va_E
def sgw (n : Nat) (h : Nat → Nat) (e : sg_E) (f : sg_F) (L : sg_L) (Q : sg_Q) : va_W := (List.range n).map (fun k => (h k, e k (f k) (L k) (Q k)))
theorem sgw_at {n : Nat} {h : Nat → Nat} {e : sg_E} {f : sg_F} {L : sg_L} {Q : sg_Q} {k : Nat} (hk : k < n) : (sgw n h e f L Q)[k]? = some (h k, e k (f k) (L k) (Q k)) := by
  unfold sgw
  rw [List.getElem?_map, List.getElem?_range hk]
  rfl
theorem sgw_len {n : Nat} {h : Nat → Nat} {e : sg_E} {f : sg_F} {L : sg_L} {Q : sg_Q} : (sgw n h e f L Q).length = n := by simp [sgw]
theorem sgw_inv {n : Nat} {h : Nat → Nat} {e : sg_E} {f : sg_F} {L : sg_L} {Q : sg_Q} {k : Nat} {q : Nat × va_E} (hq : (sgw n h e f L Q)[k]? = some q) : k < n ∧ q = (h k, e k (f k) (L k) (Q k)) := by
  have hk : k < n := by
    have := (List.getElem?_eq_some_iff.mp hq).1
    rwa [sgw_len] at this
  rw [sgw_at hk] at hq
  exact ⟨hk, (Option.some.inj hq).symm⟩
theorem sgw_set {n : Nat} {h : Nat → Nat} {e : sg_E} {f : sg_F} {L : sg_L} {Q : sg_Q} {k : Nat} (hk : k < n) (g : Nat → Int32) (l : Nat → Int64) (r : Nat → Option Nat) : (sgw n h e f L Q).set k (h k, e k g l r) = sgw n h e (sg_up f k g) (sg_up L k l) (sg_up Q k r) := by
  apply List.ext_getElem?
  intro i
  by_cases hi : i < n
  · rw [sgw_at hi]
    by_cases hik : i = k
    · subst hik
      rw [List.getElem?_set_self (by rw [sgw_len]; exact hi), sg_up_s, sg_up_s, sg_up_s]
    · rw [List.getElem?_set_ne (Ne.symm hik), sgw_at hi, sg_up_n hik, sg_up_n hik, sg_up_n hik]
  · rw [List.getElem?_eq_none (by rw [List.length_set, sgw_len]; omega), List.getElem?_eq_none (by rw [sgw_len]; omega)]
/-- the cells of a system, and those that came since -/
def sgA (n : Nat) (h : Nat → Nat) (sz : Nat) : Nat → Prop := fun q => (∃ k : Nat, k < n ∧ q = h k) ∨ sz ≤ q
theorem sgA_mono {n : Nat} {h : Nat → Nat} {a b q : Nat} (hab : a ≤ b) (hq : sgA n h b q) : sgA n h a q := by
  rcases hq with hq | hq
  · exact Or.inl hq
  · exact Or.inr (Nat.le_trans hab hq)
/-- the cells lie apart -/
def sgH (n : Nat) (h : Nat → Nat) : Prop := ∀ i j : Nat, i < n → j < n → h i = h j → i = j
/-- what a walk may write: the cells of the system, and all that came since -/
def sgY (A : Nat → Prop) (n : Nat) (h : Nat → Nat) (sz : Nat) : Prop := (∀ k : Nat, k < n → A (h k)) ∧ ∀ q : Nat, sz ≤ q → A q
theorem sgY.self {n : Nat} {h : Nat → Nat} {sz : Nat} : sgY (sgA n h sz) n h sz := ⟨fun k hk => Or.inl ⟨k, hk, rfl⟩, fun _ hq => Or.inr hq⟩
theorem sgY.sub {A : Nat → Prop} {n : Nat} {h : Nat → Nat} {a b : Nat} (hA : sgY A n h a) (hab : a ≤ b) {q : Nat} (hq : sgA n h b q) : A q := by
  rcases hq with ⟨k, hk, rfl⟩ | hq
  · exact hA.1 k hk
  · exact hA.2 q (Nat.le_trans hab hq)
theorem sgD {A : Nat → Prop} {n : Nat} {h : Nat → Nat} {e : sg_E} {f : sg_F} {L : sg_L} {Q : sg_Q} {sz : Nat} (hh : sgH n h) (hA : sgY A n h sz) : va_D A (sgw n h e f L Q) := by
  refine ⟨fun i j p q hp hq hpq => ?_, fun k q hq => ?_⟩
  · obtain ⟨hi, rfl⟩ := sgw_inv hp
    obtain ⟨hj, rfl⟩ := sgw_inv hq
    exact hh i j hi hj hpq
  · obtain ⟨hk, rfl⟩ := sgw_inv hq
    exact hA.1 k hk
/-- bounds of all ints -/
def sgI (lo hi : Nat → Nat → Int) (f : sg_F) : Prop := ∀ k j : Nat, lo k j ≤ (f k j).toInt ∧ (f k j).toInt ≤ hi k j
theorem sgI.row {lo hi : Nat → Nat → Int} {f : sg_F} (hI : sgI lo hi f) (k : Nat) {g : Nat → Int32} (hg : ∀ j : Nat, lo k j ≤ (g j).toInt ∧ (g j).toInt ≤ hi k j) : sgI lo hi (sg_up f k g) := by
  intro i j
  by_cases h : i = k
  · subst h; rw [sg_up_s]; exact hg j
  · rw [sg_up_n h]; exact hI i j
theorem sgI.put {lo hi : Nat → Nat → Int} {f : sg_F} (hI : sgI lo hi f) (k j : Nat) {x : Int32} (hx : lo k j ≤ x.toInt ∧ x.toInt ≤ hi k j) : sgI lo hi (sg_up f k (sgu (f k) j x)) := by
  refine hI.row k (fun i => ?_)
  by_cases h : i = j
  · subst h; rw [sgu_s]; exact hx
  · rw [sgu_n h]; exact hI k i
theorem sgI.cpy {lo hi : Nat → Nat → Int} {f : sg_F} (hI : sgI lo hi f) (a b : Nat) {sp dp n : Nat} (hx : ∀ j i : Nat, lo b j ≤ lo a i ∧ hi a i ≤ hi b j) : sgI lo hi (sg_up f b (va_cpy (f a) (f b) sp dp n)) := by
  refine hI.row b (fun i => ?_)
  unfold va_cpy
  split
  · exact ⟨Int.le_trans (hx i _).1 (hI a _).1, Int.le_trans (hI a _).2 (hx i _).2⟩
  · exact hI b i
/-- static arrays: a static field (class, name, descriptor) holds an array of ints that is none of the system's -/
abbrev sg_S : Type := String × String × String × Nat × (Nat → Int32)
def sgZ (zc : List sg_S) (za : Nat → Nat) (A : Nat → Prop) (sz : Nat) (U : State) : Prop := ∀ (i : Nat) (q : sg_S), zc[i]? = some q → va_Z q.1 q.2.1 q.2.2.1 (.ref (za i)) A U U.heap ∧ va_T .int (za i) q.2.2.2.1 (fun j => .int (q.2.2.2.2 j)) A U U.heap ∧ za i < sz ∧ ¬ A (za i)
theorem sgZ.go {zc : List sg_S} {za : Nat → Nat} {A A1 : Nat → Prop} {s U : State} {H : Heap} {locs : List Loc} (hZ : sgZ zc za A s.heap.size s) (hS : va_S A s.heap H locs) (hU : U.heap = H) (hvm : s.vm.Alike U.vm) (hAA : ∀ q, A1 q → A q) : sgZ zc za A1 H.size U := by
  intro i q hq
  obtain ⟨h1, h2, h3, h4⟩ := hZ i q hq
  refine ⟨?_, ?_, Nat.lt_of_lt_of_le h3 hS.1, fun z => h4 (hAA _ z)⟩
  · rw [hU]
    exact ((va_Z.moved hvm h1).kept (fun a g1 g2 => hS.2.1 a g1 g2)).narrow hAA
  · rw [hU]
    exact ((va_T.moved hvm h2).kept (fun a g1 g2 => hS.2.1 a g1 g2)).narrow hAA
/-- a contract's start -/
def sgP (D : va_G) (cl : List vw_C) (tys : List (ClassId × FieldType)) (n : Nat) (h : Nat → Nat) (e : sg_E) (zc : List sg_S) (za : Nat → Nat) (f : sg_F) (L : sg_L) (Q : sg_Q) (sz : Nat) (av : List Value) : Array Value → State → Prop := va_Pc av (fun U => U.heap.size = sz ∧ va_P D cl (sgw n h e f L Q) U.heap ∧ va_K D cl tys U ∧ sgZ zc za (sgA n h sz) sz U)
theorem sgP_blind {D : va_G} {cl : List vw_C} {tys : List (ClassId × FieldType)} {n : Nat} {h : Nat → Nat} {e : sg_E} {zc : List sg_S} {za : Nat → Nat} {f : sg_F} {L : sg_L} {Q : sg_Q} {sz : Nat} {av : List Value} : FrameBlind (sgP D cl tys n h e zc za f L Q sz av) := by
  intro a U g mk q
  obtain ⟨q0, q1, qP, qK, qZ⟩ := q
  refine ⟨q0, q1, qP, va_K.moved (u := U) (U := U.calling g mk a) (Vm.Alike.refl U.vm) qK, fun i z hz => ?_⟩
  obtain ⟨h1, h2, h3, h4⟩ := qZ i z hz
  exact ⟨va_Z.moved (u := U) (U := U.calling g mk a) (Vm.Alike.refl U.vm) h1, va_T.moved (u := U) (U := U.calling g mk a) (Vm.Alike.refl U.vm) h2, h3, h4⟩
/-- a contract's end, by what it answers -/
abbrev sg_U : Type := sg_F × sg_L × sg_Q
def sgQi (D : va_G) (cl : List vw_C) (n : Nat) (h : Nat → Nat) (e : sg_E) (sz : Nat) (post : Int32 → sg_F → sg_L → sg_Q → Prop) : Array Value → State → Outcome → State → Prop := va_Qi (S := sg_U) (fun r u => post r u.1 u.2.1 u.2.2) (fun u t => va_P D cl (sgw n h e u.1 u.2.1 u.2.2) t.heap) (sgA n h sz)
def sgQl (D : va_G) (cl : List vw_C) (n : Nat) (h : Nat → Nat) (e : sg_E) (sz : Nat) (post : Int64 → sg_F → sg_L → sg_Q → Prop) : Array Value → State → Outcome → State → Prop := va_Ql (S := sg_U) (fun r u => post r u.1 u.2.1 u.2.2) (fun u t => va_P D cl (sgw n h e u.1 u.2.1 u.2.2) t.heap) (sgA n h sz)
def sgQv (D : va_G) (cl : List vw_C) (n : Nat) (h : Nat → Nat) (e : sg_E) (sz : Nat) (post : sg_F → sg_L → sg_Q → Prop) : Array Value → State → Outcome → State → Prop := va_Qv (S := sg_U) (fun u => post u.1 u.2.1 u.2.2) (fun u t => va_P D cl (sgw n h e u.1 u.2.1 u.2.2) t.heap) (sgA n h sz)
