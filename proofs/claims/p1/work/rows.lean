section
/-! A WORLD AS FUNCTIONS: the cells of a system are numbered 0 .. n-1; cell k lies at h k and holds e k (its ints) (its longs) (its references). The words here are general; each system has its own n, h, e. -/
def sg_up {α : Type} (f : Nat → Nat → α) (k : Nat) (g : Nat → α) : Nat → Nat → α := fun i => bif Nat.beq i k then g else f i
def sgu {α : Type} (g : Nat → α) (j : Nat) (x : α) : Nat → α := fun i => bif Nat.beq i j then x else g i
theorem sg_up_s {α : Type} {f : Nat → Nat → α} {k : Nat} {g : Nat → α} : sg_up f k g k = g := by
  unfold sg_up
  rw [Nat.beq_refl]
  rfl
theorem sg_up_n {α : Type} {f : Nat → Nat → α} {k i : Nat} {g : Nat → α} (h : i ≠ k) : sg_up f k g i = f i := by
  unfold sg_up
  have : Nat.beq i k = false := by
    cases hb : Nat.beq i k
    · rfl
    · exact absurd (Nat.eq_of_beq_eq_true hb) h
  rw [this]
  rfl
theorem sgu_s {α : Type} {g : Nat → α} {j : Nat} {x : α} : sgu g j x j = x := by
  unfold sgu
  rw [Nat.beq_refl]
  rfl
theorem sgu_n {α : Type} {g : Nat → α} {j i : Nat} {x : α} (h : i ≠ j) : sgu g j x i = g i := by
  unfold sgu
  have : Nat.beq i j = false := by
    cases hb : Nat.beq i j
    · rfl
    · exact absurd (Nat.eq_of_beq_eq_true hb) h
  rw [this]
  rfl
theorem sgu_upd (g : Nat → Int32) (j : Nat) (x : Int32) : upd g j x = sgu g j x := by
  funext i
  by_cases h : i = j
  · subst h; rw [sgu_s]; exact if_pos rfl
  · rw [sgu_n h]; exact if_neg h
theorem sgu_updL (g : Nat → Int64) (j : Nat) (x : Int64) : vp_updL g j x = sgu g j x := by
  funext i
  by_cases h : i = j
  · subst h; rw [sgu_s]; exact if_pos rfl
  · rw [sgu_n h]; exact if_neg h
theorem sg_up_id {α : Type} (f : Nat → Nat → α) (k : Nat) : sg_up f k (f k) = f := by
  funext i
  by_cases h : i = k
  · subst h; exact sg_up_s
  · exact sg_up_n h
abbrev sg_F : Type := Nat → Nat → Int32
abbrev sg_L : Type := Nat → Nat → Int64
abbrev sg_Q : Type := Nat → Nat → Option Nat
abbrev sg_E : Type := Nat → (Nat → Int32) → (Nat → Int64) → (Nat → Option Nat) → va_E
def sgw (n : Nat) (h : Nat → Nat) (e : sg_E) (f : sg_F) (L : sg_L) (Q : sg_Q) : va_W := (List.range n).map (fun k => (h k, e k (f k) (L k) (Q k)))
theorem sgw_at {n : Nat} {h : Nat → Nat} {e : sg_E} {f : sg_F} {L : sg_L} {Q : sg_Q} {k : Nat} (hk : k < n) : (sgw n h e f L Q)[k]? = some (h k, e k (f k) (L k) (Q k)) := by
  unfold sgw
  rw [List.getElem?_map, List.getElem?_range hk]
  rfl
theorem sgw_len {n : Nat} {h : Nat → Nat} {e : sg_E} {f : sg_F} {L : sg_L} {Q : sg_Q} : (sgw n h e f L Q).length = n := by simp [sgw]
theorem sgw_inv {n : Nat} {h : Nat → Nat} {e : sg_E} {f : sg_F} {L : sg_L} {Q : sg_Q} {k : Nat} {q : Nat × va_E} (hq : (sgw n h e f L Q)[k]? = some q) : k < n ∧ q = (h k, e k (f k) (L k) (Q k)) := by
  have hk : k < n := by
    have := (List.getElem?_eq_some_iff.mp hq).1
    rwa [sgw_len] at this
  rw [sgw_at hk] at hq
  exact ⟨hk, (Option.some.inj hq).symm⟩
theorem sgw_set {n : Nat} {h : Nat → Nat} {e : sg_E} {f : sg_F} {L : sg_L} {Q : sg_Q} {k : Nat} (hk : k < n) (g : Nat → Int32) (l : Nat → Int64) (r : Nat → Option Nat) : (sgw n h e f L Q).set k (h k, e k g l r) = sgw n h e (sg_up f k g) (sg_up L k l) (sg_up Q k r) := by
  apply List.ext_getElem?
  intro i
  by_cases hi : i < n
  · rw [sgw_at hi]
    by_cases hik : i = k
    · subst hik
      rw [List.getElem?_set_self (by rw [sgw_len]; exact hi), sg_up_s, sg_up_s, sg_up_s]
    · rw [List.getElem?_set_ne (Ne.symm hik), sgw_at hi, sg_up_n hik, sg_up_n hik, sg_up_n hik]
  · rw [List.getElem?_eq_none (by rw [List.length_set, sgw_len]; omega), List.getElem?_eq_none (by rw [sgw_len]; omega)]
/-- the cells of a system, and those that came since -/
def sgA (n : Nat) (h : Nat → Nat) (sz : Nat) : Nat → Prop := fun q => (∃ k : Nat, k < n ∧ q = h k) ∨ sz ≤ q
theorem sgA_mono {n : Nat} {h : Nat → Nat} {a b q : Nat} (hab : a ≤ b) (hq : sgA n h b q) : sgA n h a q := by
  rcases hq with hq | hq
  · exact Or.inl hq
  · exact Or.inr (Nat.le_trans hab hq)
/-- the cells lie apart -/
def sgH (n : Nat) (h : Nat → Nat) : Prop := ∀ i j : Nat, i < n → j < n → h i = h j → i = j
/-- what a walk may write: the cells of the system, and all that came since -/
def sgY (A : Nat → Prop) (n : Nat) (h : Nat → Nat) (sz : Nat) : Prop := (∀ k : Nat, k < n → A (h k)) ∧ ∀ q : Nat, sz ≤ q → A q
theorem sgY.self {n : Nat} {h : Nat → Nat} {sz : Nat} : sgY (sgA n h sz) n h sz := ⟨fun k hk => Or.inl ⟨k, hk, rfl⟩, fun _ hq => Or.inr hq⟩
theorem sgY.sub {A : Nat → Prop} {n : Nat} {h : Nat → Nat} {a b : Nat} (hA : sgY A n h a) (hab : a ≤ b) {q : Nat} (hq : sgA n h b q) : A q := by
  rcases hq with ⟨k, hk, rfl⟩ | hq
  · exact hA.1 k hk
  · exact hA.2 q (Nat.le_trans hab hq)
theorem sgD {A : Nat → Prop} {n : Nat} {h : Nat → Nat} {e : sg_E} {f : sg_F} {L : sg_L} {Q : sg_Q} {sz : Nat} (hh : sgH n h) (hA : sgY A n h sz) : va_D A (sgw n h e f L Q) := by
  refine ⟨fun i j p q hp hq hpq => ?_, fun k q hq => ?_⟩
  · obtain ⟨hi, rfl⟩ := sgw_inv hp
    obtain ⟨hj, rfl⟩ := sgw_inv hq
    exact hh i j hi hj hpq
  · obtain ⟨hk, rfl⟩ := sgw_inv hq
    exact hA.1 k hk
/-- bounds of all ints -/
def sgI (lo hi : Nat → Nat → Int) (f : sg_F) : Prop := ∀ k j : Nat, lo k j ≤ (f k j).toInt ∧ (f k j).toInt ≤ hi k j
theorem sgI.row {lo hi : Nat → Nat → Int} {f : sg_F} (hI : sgI lo hi f) (k : Nat) {g : Nat → Int32} (hg : ∀ j : Nat, lo k j ≤ (g j).toInt ∧ (g j).toInt ≤ hi k j) : sgI lo hi (sg_up f k g) := by
  intro i j
  by_cases h : i = k
  · subst h; rw [sg_up_s]; exact hg j
  · rw [sg_up_n h]; exact hI i j
theorem sgI.put {lo hi : Nat → Nat → Int} {f : sg_F} (hI : sgI lo hi f) (k j : Nat) {x : Int32} (hx : lo k j ≤ x.toInt ∧ x.toInt ≤ hi k j) : sgI lo hi (sg_up f k (sgu (f k) j x)) := by
  refine hI.row k (fun i => ?_)
  by_cases h : i = j
  · subst h; rw [sgu_s]; exact hx
  · rw [sgu_n h]; exact hI k i
theorem sgI.cpy {lo hi : Nat → Nat → Int} {f : sg_F} (hI : sgI lo hi f) (a b : Nat) {sp dp n : Nat} (hx : ∀ j i : Nat, lo b j ≤ lo a i ∧ hi a i ≤ hi b j) : sgI lo hi (sg_up f b (va_cpy (f a) (f b) sp dp n)) := by
  refine hI.row b (fun i => ?_)
  unfold va_cpy
  split
  · exact ⟨Int.le_trans (hx i _).1 (hI a _).1, Int.le_trans (hI a _).2 (hx i _).2⟩
  · exact hI b i
/-- static arrays: a static field (class, name, descriptor) holds an array of ints that is none of the system's -/
abbrev sg_S : Type := String × String × String × Nat × (Nat → Int32)
def sgZ (zc : List sg_S) (za : Nat → Nat) (A : Nat → Prop) (sz : Nat) (U : State) : Prop := ∀ (i : Nat) (q : sg_S), zc[i]? = some q → va_Z q.1 q.2.1 q.2.2.1 (.ref (za i)) A U U.heap ∧ va_X (za i) q.2.2.2.1 q.2.2.2.2 U U.heap ∧ za i < sz ∧ ¬ A (za i)
theorem sgZ.go {zc : List sg_S} {za : Nat → Nat} {A A1 : Nat → Prop} {s U : State} {H : Heap} {locs : List Loc} (hZ : sgZ zc za A s.heap.size s) (hS : va_S A s.heap H locs) (hU : U.heap = H) (hvm : s.vm.Alike U.vm) (hAA : ∀ q, A1 q → A q) : sgZ zc za A1 H.size U := by
  intro i q hq
  obtain ⟨h1, h2, h3, h4⟩ := hZ i q hq
  refine ⟨?_, ?_, Nat.lt_of_lt_of_le h3 hS.1, fun z => h4 (hAA _ z)⟩
  · rw [hU]
    exact ((va_Z.moved hvm h1).kept (fun a g1 g2 => hS.2.1 a g1 g2)).narrow hAA
  · rw [hU]
    exact (va_X.moved hvm h2).kept (hS.2.1 _ h3 h4)
/-- a contract's start -/
def sgP (D : va_G) (cl : List vw_C) (tys : List (ClassId × FieldType)) (n : Nat) (h : Nat → Nat) (e : sg_E) (zc : List sg_S) (za : Nat → Nat) (f : sg_F) (L : sg_L) (Q : sg_Q) (sz : Nat) (av : List Value) : Array Value → State → Prop := va_Pc av (fun U => U.heap.size = sz ∧ va_P D cl (sgw n h e f L Q) U.heap ∧ va_K D cl tys U ∧ sgZ zc za (sgA n h sz) sz U)
theorem sgP_blind {D : va_G} {cl : List vw_C} {tys : List (ClassId × FieldType)} {n : Nat} {h : Nat → Nat} {e : sg_E} {zc : List sg_S} {za : Nat → Nat} {f : sg_F} {L : sg_L} {Q : sg_Q} {sz : Nat} {av : List Value} : FrameBlind (sgP D cl tys n h e zc za f L Q sz av) := by
  intro a U g mk q
  obtain ⟨q0, q1, qP, qK, qZ⟩ := q
  refine ⟨q0, q1, qP, va_K.moved (u := U) (U := U.calling g mk a) (Vm.Alike.refl U.vm) qK, fun i z hz => ?_⟩
  obtain ⟨h1, h2, h3, h4⟩ := qZ i z hz
  exact ⟨va_Z.moved (u := U) (U := U.calling g mk a) (Vm.Alike.refl U.vm) h1, va_X.moved (u := U) (U := U.calling g mk a) (Vm.Alike.refl U.vm) h2, h3, h4⟩
/-- a contract's end, by what it answers -/
abbrev sg_U : Type := sg_F × sg_L × sg_Q
def sgQi (D : va_G) (cl : List vw_C) (n : Nat) (h : Nat → Nat) (e : sg_E) (sz : Nat) (post : Int32 → sg_F → sg_L → sg_Q → Prop) : Array Value → State → Outcome → State → Prop := va_Qi (S := sg_U) (fun r u => post r u.1 u.2.1 u.2.2) (fun u t => va_P D cl (sgw n h e u.1 u.2.1 u.2.2) t.heap) (sgA n h sz)
def sgQl (D : va_G) (cl : List vw_C) (n : Nat) (h : Nat → Nat) (e : sg_E) (sz : Nat) (post : Int64 → sg_F → sg_L → sg_Q → Prop) : Array Value → State → Outcome → State → Prop := va_Ql (S := sg_U) (fun r u => post r u.1 u.2.1 u.2.2) (fun u t => va_P D cl (sgw n h e u.1 u.2.1 u.2.2) t.heap) (sgA n h sz)
def sgQv (D : va_G) (cl : List vw_C) (n : Nat) (h : Nat → Nat) (e : sg_E) (sz : Nat) (post : sg_F → sg_L → sg_Q → Prop) : Array Value → State → Outcome → State → Prop := va_Qv (S := sg_U) (fun u => post u.1 u.2.1 u.2.2) (fun u t => va_P D cl (sgw n h e u.1 u.2.1 u.2.2) t.heap) (sgA n h sz)
end
section
section SGR
variable {p : Program} {l : Launch} {e : Env} {R : Room} {s : State} {m : MethodId} {args : Array Value} {below : List Frame} {meth : Method} {c : Code} {H : Heap} {locs : List Loc} {cells slots : Nat} {Qz : State → Prop}
variable {cc : ByteArray} {pc : Nat} {ls : Array Slot} {rest : List Value} {D : va_G} {cl : List vw_C} {tys : List (ClassId × FieldType)} {n : Nat} {h : Nat → Nat} {ee : sg_E} {f : sg_F} {L : sg_L} {Q : sg_Q} {sz : Nat} {zc : List sg_S} {za : Nat → Nat} {A : Nat → Prop}
theorem sg_get (hx : p.tables.exec = Jvm.exec) (hb : c.code = cc) {own ref C : String} {T : u_T} {N ci index : Nat} {Ts : List Cond} (hts : ∀ w ∈ Ts, w.before args s = true) (hin : ∀ w ∈ u_ws C T N, w ∈ Ts) (hown : s.vm.findClass own = some m.cls) (hK : va_K D cl tys s) (hP : va_P D cl (sgw n h ee f L Q) H) (k : Nat) (hk : k < n) {fs : List Value} (he : ee k (f k) (L k) (Q k) = .inr (ci, fs)) (hc : cl[ci]? = some (C, T, N)) (j : Nat) (hj : j < N) (hlink : (Cond.fieldLink own index ref (T j).2.1 (T j).2.2.1).before args s = true) (hsame : ∀ x, s.fieldFound? (T j).1 (T j).2.1 (T j).2.2.1 = some x → s.fieldFound? ref (T j).2.1 (T j).2.2.1 = some x) {v : Value} (hv : fs[j]? = some v) (hdg : decode cc pc = .ok (.getfield index, 3))
    (kk : W p l e R s m args below meth c H locs cells slots Qz (F0 m (pc + 3) ls (v :: rest))) : W p l e R s m args below meth c H locs cells slots Qz (F0 m pc ls (.ref (h k) :: rest)) :=
  va_get hx hb hts hin hown hK hP k (by rw [sgw_at hk, he]) hc j hj hlink hsame hv hdg kk
theorem sg_put (hx : p.tables.exec = Jvm.exec) (hb : c.code = cc) {own ref C : String} {T : u_T} {N ci index : Nat} {Ts : List Cond} (hts : ∀ w ∈ Ts, w.before args s = true) (hin : ∀ w ∈ u_ws C T N, w ∈ Ts) (ty0 : Nat → FieldType) (hty : ∀ k, k < N → parseFieldDescriptor (T k).2.2.1 = some (ty0 k)) (hnm : ∀ a, a < N → ∀ b, b < N → a ≠ b → (T a).2.1 ≠ (T b).2.1) (hown : s.vm.findClass own = some m.cls) (hh : sgH n h) (hA : sgY A n h s.heap.size) (hK : va_K D cl tys s) (hP : va_P D cl (sgw n h ee f L Q) H) (hS : va_S A s.heap H locs) (k : Nat) (hk : k < n) {fs : List Value} (he : ee k (f k) (L k) (Q k) = .inr (ci, fs)) (hc : cl[ci]? = some (C, T, N)) (j : Nat) (hj : j < N) (hlink : (Cond.fieldLink own index ref (T j).2.1 (T j).2.2.1).before args s = true) (hsame : ∀ x, s.fieldFound? (T j).1 (T j).2.1 (T j).2.2.1 = some x → s.fieldFound? ref (T j).2.1 (T j).2.2.1 = some x) (hfin : (T j).2.2.2 = false) {ty : FieldType} {x : Int32} (he2 : ee k (sgu (f k) j x) (L k) (Q k) = .inr (ci, fs.set j (.int x))) (hd : parseFieldDescriptor (T j).2.2.1 = some ty) (hn : narrow ty (.int x) = .int x) (hfit : fits ty (.int x) = true) (hl : j < fs.length)
    (hdg : decode cc pc = .ok (.putfield index, 3)) (kk : ∀ (f1 : sg_F) (H1 : Heap) (locs1 : List Loc), f1 = sg_up f k (sgu (f k) j x) → va_P D cl (sgw n h ee f1 L Q) H1 → va_S A s.heap H1 locs1 → W p l e R s m args below meth c H1 locs1 cells slots Qz (F0 m (pc + 3) ls rest)) : W p l e R s m args below meth c H locs cells slots Qz (F0 m pc ls (.int x :: .ref (h k) :: rest)) :=
  va_put hx hb hts hin ty0 hty hnm hown hK hP (sgD hh hA) hS k (by rw [sgw_at hk, he]) hc j hj hlink hsame hfin hd hn hfit hl hdg (fun H1 locs1 hP1 _ hS1 => kk _ H1 locs1 rfl (by
    rw [← he2, sgw_set hk, sg_up_id, sg_up_id] at hP1
    exact hP1) hS1)
/-- a field that holds a reference is set: what the cell holds is said by he2 -/
theorem sg_putq (hx : p.tables.exec = Jvm.exec) (hb : c.code = cc) {own ref C : String} {T : u_T} {N ci index : Nat} {Ts : List Cond} (hts : ∀ w ∈ Ts, w.before args s = true) (hin : ∀ w ∈ u_ws C T N, w ∈ Ts) (ty0 : Nat → FieldType) (hty : ∀ k, k < N → parseFieldDescriptor (T k).2.2.1 = some (ty0 k)) (hnm : ∀ a, a < N → ∀ b, b < N → a ≠ b → (T a).2.1 ≠ (T b).2.1) (hown : s.vm.findClass own = some m.cls) (hh : sgH n h) (hA : sgY A n h s.heap.size) (hK : va_K D cl tys s) (hP : va_P D cl (sgw n h ee f L Q) H) (hS : va_S A s.heap H locs) (k : Nat) (hk : k < n) {fs : List Value} (he : ee k (f k) (L k) (Q k) = .inr (ci, fs)) (hc : cl[ci]? = some (C, T, N)) (j : Nat) (hj : j < N) (hlink : (Cond.fieldLink own index ref (T j).2.1 (T j).2.2.1).before args s = true) (hsame : ∀ x, s.fieldFound? (T j).1 (T j).2.1 (T j).2.2.1 = some x → s.fieldFound? ref (T j).2.1 (T j).2.2.1 = some x) (hfin : (T j).2.2.2 = false) {ty : FieldType} {q : Nat} {r1 : Nat → Option Nat} (he2 : ee k (f k) (L k) r1 = .inr (ci, fs.set j (.ref q))) (hd : parseFieldDescriptor (T j).2.2.1 = some ty) (hn : narrow ty (.ref q) = .ref q) (hfit : fits ty (.ref q) = true) (hl : j < fs.length)
    (hdg : decode cc pc = .ok (.putfield index, 3)) (kk : ∀ (Q1 : sg_Q) (H1 : Heap) (locs1 : List Loc), Q1 = sg_up Q k r1 → va_P D cl (sgw n h ee f L Q1) H1 → va_S A s.heap H1 locs1 → W p l e R s m args below meth c H1 locs1 cells slots Qz (F0 m (pc + 3) ls rest)) : W p l e R s m args below meth c H locs cells slots Qz (F0 m pc ls (.ref q :: .ref (h k) :: rest)) :=
  va_put hx hb hts hin ty0 hty hnm hown hK hP (sgD hh hA) hS k (by rw [sgw_at hk, he]) hc j hj hlink hsame hfin hd hn hfit hl hdg (fun H1 locs1 hP1 _ hS1 => kk _ H1 locs1 rfl (by
    rw [← he2, sgw_set hk, sg_up_id, sg_up_id] at hP1
    exact hP1) hS1)
theorem sg_iald (hx : p.tables.exec = Jvm.exec) (hb : c.code = cc) (hK : va_K D cl tys s) (hP : va_P D cl (sgw n h ee f L Q) H) (k : Nat) (hk : k < n) (t0 : Nat) {cA : ClassId} {N : Nat} {g : Nat → Int32} (he : ee k (f k) (L k) (Q k) = .inl (cA, N, .inl g)) (ht : tys[t0]? = some (cA, .int)) {i : Int32} (hin : vp_in i N) (hdg : decode cc pc = .ok (.iaload, 1))
    (kk : W p l e R s m args below meth c H locs cells slots Qz (F0 m (pc + 1) ls (.int (g i.toNatClampNeg) :: rest))) : W p l e R s m args below meth c H locs cells slots Qz (F0 m pc ls (.int i :: .ref (h k) :: rest)) :=
  va_iald hx hb hK hP k t0 (by rw [sgw_at hk, he]) ht hin hdg kk
theorem sg_zald (hx : p.tables.exec = Jvm.exec) (hb : c.code = cc) (hK : va_K D cl tys s) (hP : va_P D cl (sgw n h ee f L Q) H) (k : Nat) (hk : k < n) (t0 : Nat) {cA : ClassId} {N : Nat} {g : Nat → Int32} (he : ee k (f k) (L k) (Q k) = .inl (cA, N, .inl g)) (ht : tys[t0]? = some (cA, .boolean)) {i : Int32} (hin : vp_in i N) (hdg : decode cc pc = .ok (.baload, 1))
    (kk : W p l e R s m args below meth c H locs cells slots Qz (F0 m (pc + 1) ls (.int (g i.toNatClampNeg) :: rest))) : W p l e R s m args below meth c H locs cells slots Qz (F0 m pc ls (.int i :: .ref (h k) :: rest)) :=
  va_zald hx hb hK hP k t0 (by rw [sgw_at hk, he]) ht hin hdg kk
theorem sg_lald (hx : p.tables.exec = Jvm.exec) (hb : c.code = cc) (hK : va_K D cl tys s) (hP : va_P D cl (sgw n h ee f L Q) H) (k : Nat) (hk : k < n) (t0 : Nat) {cA : ClassId} {N : Nat} {g : Nat → Int64} (he : ee k (f k) (L k) (Q k) = .inl (cA, N, .inr (.inl g))) (ht : tys[t0]? = some (cA, .long)) {i : Int32} (hin : vp_in i N) (hdg : decode cc pc = .ok (.laload, 1))
    (kk : W p l e R s m args below meth c H locs cells slots Qz (F0 m (pc + 1) ls (.long (g i.toNatClampNeg) :: rest))) : W p l e R s m args below meth c H locs cells slots Qz (F0 m pc ls (.int i :: .ref (h k) :: rest)) :=
  va_lald hx hb hK hP k t0 (by rw [sgw_at hk, he]) ht hin hdg kk
theorem sg_aald (hx : p.tables.exec = Jvm.exec) (hb : c.code = cc) (hK : va_K D cl tys s) (hP : va_P D cl (sgw n h ee f L Q) H) (k : Nat) (hk : k < n) (t0 : Nat) {cA : ClassId} {C : String} {N : Nat} {g : Nat → Option Nat} (he : ee k (f k) (L k) (Q k) = .inl (cA, N, .inr (.inr (.inr (.inr g))))) (ht : tys[t0]? = some (cA, .object C)) {i : Int32} (hin : vp_in i N) {a : Nat} (ha : g i.toNatClampNeg = some a) (hdg : decode cc pc = .ok (.aaload, 1))
    (kk : W p l e R s m args below meth c H locs cells slots Qz (F0 m (pc + 1) ls (.ref a :: rest))) : W p l e R s m args below meth c H locs cells slots Qz (F0 m pc ls (.int i :: .ref (h k) :: rest)) :=
  va_aldq hx hb hK hP k t0 (by rw [sgw_at hk, he]) ht hin hdg (by rw [ha]; exact kk)
theorem sg_iast (hx : p.tables.exec = Jvm.exec) (hb : c.code = cc) (hh : sgH n h) (hA : sgY A n h s.heap.size) (hK : va_K D cl tys s) (hP : va_P D cl (sgw n h ee f L Q) H) (hS : va_S A s.heap H locs) (k : Nat) (hk : k < n) (t0 : Nat) {cA : ClassId} {N : Nat} (he : ∀ g : Nat → Int32, ee k g (L k) (Q k) = .inl (cA, N, .inl g)) (ht : tys[t0]? = some (cA, .int)) {i : Int32} {x : Int32} (hin : vp_in i N) (hdg : decode cc pc = .ok (.iastore, 1))
    (kk : ∀ (f1 : sg_F) (H1 : Heap) (locs1 : List Loc), f1 = sg_up f k (sgu (f k) i.toNatClampNeg x) → va_P D cl (sgw n h ee f1 L Q) H1 → va_S A s.heap H1 locs1 → W p l e R s m args below meth c H1 locs1 cells slots Qz (F0 m (pc + 1) ls rest)) : W p l e R s m args below meth c H locs cells slots Qz (F0 m pc ls (.int x :: .int i :: .ref (h k) :: rest)) :=
  va_iast hx hb hK hP (sgD hh hA) hS k t0 (by rw [sgw_at hk, he]) ht hin hdg (fun H1 locs1 hP1 _ hS1 => kk _ H1 locs1 rfl (by
    rw [sgu_upd, ← he (sgu (f k) i.toNatClampNeg x), sgw_set hk, sg_up_id, sg_up_id] at hP1
    exact hP1) hS1)
theorem sg_zast (hx : p.tables.exec = Jvm.exec) (hb : c.code = cc) (hh : sgH n h) (hA : sgY A n h s.heap.size) (hK : va_K D cl tys s) (hP : va_P D cl (sgw n h ee f L Q) H) (hS : va_S A s.heap H locs) (k : Nat) (hk : k < n) (t0 : Nat) {cA : ClassId} {N : Nat} (he : ∀ g : Nat → Int32, ee k g (L k) (Q k) = .inl (cA, N, .inl g)) (ht : tys[t0]? = some (cA, .boolean)) {i : Int32} {x : Int32} (hin : vp_in i N) (hx1 : vp_nar .boolean x = x) (hdg : decode cc pc = .ok (.bastore, 1))
    (kk : ∀ (f1 : sg_F) (H1 : Heap) (locs1 : List Loc), f1 = sg_up f k (sgu (f k) i.toNatClampNeg x) → va_P D cl (sgw n h ee f1 L Q) H1 → va_S A s.heap H1 locs1 → W p l e R s m args below meth c H1 locs1 cells slots Qz (F0 m (pc + 1) ls rest)) : W p l e R s m args below meth c H locs cells slots Qz (F0 m pc ls (.int x :: .int i :: .ref (h k) :: rest)) :=
  va_zast hx hb hK hP (sgD hh hA) hS k t0 (by rw [sgw_at hk, he]) ht hin hdg (fun H1 locs1 hP1 _ hS1 => kk _ H1 locs1 rfl (by
    rw [hx1, sgu_upd, ← he (sgu (f k) i.toNatClampNeg x), sgw_set hk, sg_up_id, sg_up_id] at hP1
    exact hP1) hS1)
theorem sg_last (hx : p.tables.exec = Jvm.exec) (hb : c.code = cc) (hh : sgH n h) (hA : sgY A n h s.heap.size) (hK : va_K D cl tys s) (hP : va_P D cl (sgw n h ee f L Q) H) (hS : va_S A s.heap H locs) (k : Nat) (hk : k < n) (t0 : Nat) {cA : ClassId} {N : Nat} (he : ∀ g : Nat → Int64, ee k (f k) g (Q k) = .inl (cA, N, .inr (.inl g))) (ht : tys[t0]? = some (cA, .long)) {i : Int32} {x : Int64} (hin : vp_in i N) (hdg : decode cc pc = .ok (.lastore, 1))
    (kk : ∀ (L1 : sg_L) (H1 : Heap) (locs1 : List Loc), L1 = sg_up L k (sgu (L k) i.toNatClampNeg x) → va_P D cl (sgw n h ee f L1 Q) H1 → va_S A s.heap H1 locs1 → W p l e R s m args below meth c H1 locs1 cells slots Qz (F0 m (pc + 1) ls rest)) : W p l e R s m args below meth c H locs cells slots Qz (F0 m pc ls (.long x :: .int i :: .ref (h k) :: rest)) :=
  va_last hx hb hK hP (sgD hh hA) hS k t0 (by rw [sgw_at hk, he]) ht hin hdg (fun H1 locs1 hP1 _ hS1 => kk _ H1 locs1 rfl (by
    rw [sgu_updL, ← he (sgu (L k) i.toNatClampNeg x), sgw_set hk, sg_up_id, sg_up_id] at hP1
    exact hP1) hS1)
theorem sg_alen (hx : p.tables.exec = Jvm.exec) (hb : c.code = cc) (hK : va_K D cl tys s) (hP : va_P D cl (sgw n h ee f L Q) H) (k : Nat) (hk : k < n) (t0 : Nat) {cA : ClassId} {y : vp_A} (he : ee k (f k) (L k) (Q k) = .inl (cA, y)) {ty : FieldType} (ht : tys[t0]? = some (cA, ty)) {v : Int32} (hv : Int32.ofNat y.1 = v) (hdg : decode cc pc = .ok (.arraylength, 1))
    (kk : W p l e R s m args below meth c H locs cells slots Qz (F0 m (pc + 1) ls (.int v :: rest))) : W p l e R s m args below meth c H locs cells slots Qz (F0 m pc ls (.ref (h k) :: rest)) :=
  va_alen hx hb hK hP k t0 (by rw [sgw_at hk, he]) ht hv hdg kk
/-- a static array -/
theorem sg_gets (hx : p.tables.exec = Jvm.exec) (hb : c.code = cc) (hZ : sgZ zc za A s.heap.size s) (i : Nat) {C nm d own ref : String} {N index : Nat} {g : Nat → Int32} (hz : zc[i]? = some (C, nm, d, N, g)) (hS : va_S A s.heap H locs) (hown : s.vm.findClass own = some m.cls) (hlink : (Cond.fieldLink own index ref nm d).before args s = true) (hsame : ∀ x, s.fieldFound? C nm d = some x → s.fieldFound? ref nm d = some x) (hdg : decode cc pc = .ok (.getstatic index, 3))
    (kk : W p l e R s m args below meth c H locs cells slots Qz (F0 m (pc + 3) ls (.ref (za i) :: rest))) : W p l e R s m args below meth c H locs cells slots Qz (F0 m pc ls rest) :=
  va_gets hx hb (hZ i _ hz).1 hS hown hlink hsame hdg kk
theorem sg_sald (hx : p.tables.exec = Jvm.exec) (hb : c.code = cc) (hZ : sgZ zc za A s.heap.size s) (i : Nat) {C nm d : String} {N : Nat} {g : Nat → Int32} (hz : zc[i]? = some (C, nm, d, N, g)) (hS : va_S A s.heap H locs) {y : Int32} (hin : vp_in y N) (hdg : decode cc pc = .ok (.iaload, 1))
    (kk : W p l e R s m args below meth c H locs cells slots Qz (F0 m (pc + 1) ls (.int (g y.toNatClampNeg) :: rest))) : W p l e R s m args below meth c H locs cells slots Qz (F0 m pc ls (.int y :: .ref (za i) :: rest)) :=
  va_sld hx hb (hZ i _ hz).2.1 (hZ i _ hz).2.2.1 (hZ i _ hz).2.2.2 hS hin hdg kk
theorem sg_slen (hx : p.tables.exec = Jvm.exec) (hb : c.code = cc) (hZ : sgZ zc za A s.heap.size s) (i : Nat) {C nm d : String} {N : Nat} {g : Nat → Int32} (hz : zc[i]? = some (C, nm, d, N, g)) (hS : va_S A s.heap H locs) {v : Int32} (hv : Int32.ofNat N = v) (hdg : decode cc pc = .ok (.arraylength, 1))
    (kk : W p l e R s m args below meth c H locs cells slots Qz (F0 m (pc + 1) ls (.int v :: rest))) : W p l e R s m args below meth c H locs cells slots Qz (F0 m pc ls (.ref (za i) :: rest)) :=
  va_slen hx hb (hZ i _ hz).2.1 (hZ i _ hz).2.2.1 (hZ i _ hz).2.2.2 hS hdg (by rw [hv]; exact kk)
/-- calls: the whole world goes in, the whole world comes back -/
theorem sg_calli {st0 : List Value} {a : Array Value} {mc ms : Nat} {post : Int32 → sg_F → sg_L → sg_Q → Prop} (hr : va_Run p l e R s m args below meth c H locs cells slots mc ms (F0 m pc ls st0) rest (sgQi D cl n h ee H.size post a) (sgA n h H.size)) (hA : sgY A n h s.heap.size) (hS : va_S A s.heap H locs)
    (kk : ∀ (r : Int32) (f1 : sg_F) (L1 : sg_L) (Q1 : sg_Q) (H1 : Heap) (locs1 : List Loc), post r f1 L1 Q1 → va_P D cl (sgw n h ee f1 L1 Q1) H1 → va_S A s.heap H1 locs1 → W p l e R s m args below meth c H1 locs1 (cells + mc) (slots + ms) Qz (F0 m (pc + 3) ls (.int r :: rest))) : W p l e R s m args below meth c H locs cells slots Qz (F0 m pc ls st0) :=
  va_calli hr hS (fun q _ hq => hA.sub hS.1 hq) (fun q hq => hA.sub hS.1 hq) (fun r u t H1 locs1 ht _ hw hB _ _ hS1 => kk r u.1 u.2.1 u.2.2 H1 locs1 hw (by rw [← ht]; exact hB) hS1)
theorem sg_calll {st0 : List Value} {a : Array Value} {mc ms : Nat} {post : Int64 → sg_F → sg_L → sg_Q → Prop} (hr : va_Run p l e R s m args below meth c H locs cells slots mc ms (F0 m pc ls st0) rest (sgQl D cl n h ee H.size post a) (sgA n h H.size)) (hA : sgY A n h s.heap.size) (hS : va_S A s.heap H locs)
    (kk : ∀ (r : Int64) (f1 : sg_F) (L1 : sg_L) (Q1 : sg_Q) (H1 : Heap) (locs1 : List Loc), post r f1 L1 Q1 → va_P D cl (sgw n h ee f1 L1 Q1) H1 → va_S A s.heap H1 locs1 → W p l e R s m args below meth c H1 locs1 (cells + mc) (slots + ms) Qz (F0 m (pc + 3) ls (.long r :: rest))) : W p l e R s m args below meth c H locs cells slots Qz (F0 m pc ls st0) :=
  va_calll hr hS (fun q _ hq => hA.sub hS.1 hq) (fun q hq => hA.sub hS.1 hq) (fun r u t H1 locs1 ht _ hw hB _ _ hS1 => kk r u.1 u.2.1 u.2.2 H1 locs1 hw (by rw [← ht]; exact hB) hS1)
theorem sg_callv {st0 : List Value} {a : Array Value} {mc ms : Nat} {post : sg_F → sg_L → sg_Q → Prop} (hr : va_Run p l e R s m args below meth c H locs cells slots mc ms (F0 m pc ls st0) rest (sgQv D cl n h ee H.size post a) (sgA n h H.size)) (hA : sgY A n h s.heap.size) (hS : va_S A s.heap H locs)
    (kk : ∀ (f1 : sg_F) (L1 : sg_L) (Q1 : sg_Q) (H1 : Heap) (locs1 : List Loc), post f1 L1 Q1 → va_P D cl (sgw n h ee f1 L1 Q1) H1 → va_S A s.heap H1 locs1 → W p l e R s m args below meth c H1 locs1 (cells + mc) (slots + ms) Qz (F0 m (pc + 3) ls rest)) : W p l e R s m args below meth c H locs cells slots Qz (F0 m pc ls st0) :=
  va_callv hr hS (fun q _ hq => hA.sub hS.1 hq) (fun q hq => hA.sub hS.1 hq) (fun u t H1 locs1 ht _ hw hB _ _ hS1 => kk u.1 u.2.1 u.2.2 H1 locs1 hw (by rw [← ht]; exact hB) hS1)
theorem sg_copyi (hx : p.tables.exec = Jvm.exec) (hb : c.code = cc) (hml : c.maxLocals = ls.size) {own : String} {index : Nat} (hown : s.vm.findClass own = some m.cls) (hlink : (Cond.methodLink own index arraycopyName).before args s = true) (hnat : (Cond.native arraycopyName).before args s = true) (hstat : (Cond.static arraycopyName).before args s = true) (hini : (Cond.initialized "java/lang/System").before args s = true)
    (hh : sgH n h) (hA : sgY A n h s.heap.size) (hK : va_K D cl tys s) (hP : va_P D cl (sgw n h ee f L Q) H) (hS : va_S A s.heap H locs) (k0 k1 : Nat) (hk0 : k0 < n) (hk1 : k1 < n) (t0 t1 : Nat) {c0 c1 : ClassId} {n0 n1 : Nat} (he0 : ee k0 (f k0) (L k0) (Q k0) = .inl (c0, n0, .inl (f k0))) (he1 : ∀ g : Nat → Int32, ee k1 g (L k1) (Q k1) = .inl (c1, n1, .inl g)) (ht0 : tys[t0]? = some (c0, .int)) (ht1 : tys[t1]? = some (c1, .int))
    {sp dp nn : Int32} (h1 : ¬ sp < 0) (h2 : ¬ dp < 0) (h3 : ¬ nn < 0) (h4 : sp.toNatClampNeg + nn.toNatClampNeg ≤ n0) (h5 : dp.toNatClampNeg + nn.toNatClampNeg ≤ n1)
    (hframes : 1 ≤ R.frames) (hlocals : (rest.map fun v => v.category).sum + (nativeFrameWords "java/lang/System" "arraycopy" 5 + 11) ≤ R.locals) (hdg : decode cc pc = .ok (.invokestatic index, 3))
    (kk : ∀ (f1 : sg_F) (H1 : Heap) (locs1 : List Loc), f1 = sg_up f k1 (va_cpy (f k0) (f k1) sp.toNatClampNeg dp.toNatClampNeg nn.toNatClampNeg) → va_P D cl (sgw n h ee f1 L Q) H1 → va_S A s.heap H1 locs1 → W p l e R s m args below meth c H1 locs1 cells slots Qz (F0 m (pc + 3) ls rest)) : W p l e R s m args below meth c H locs cells slots Qz (F0 m pc ls (.int nn :: .int dp :: .ref (h k1) :: .int sp :: .ref (h k0) :: rest)) :=
  va_copyi hx hb hml hown hlink hnat hstat hini hK hP (sgD hh hA) hS k0 k1 t0 t1 (by rw [sgw_at hk0, he0]) (by rw [sgw_at hk1, he1]) ht0 ht1 rfl h1 h2 h3 h4 h5 (fun _ _ => rfl) hframes hlocals hdg (fun H1 locs1 hP1 _ hS1 => kk _ H1 locs1 rfl (by
    rw [← he1 (va_cpy (f k0) (f k1) sp.toNatClampNeg dp.toNatClampNeg nn.toNatClampNeg), sgw_set hk1, sg_up_id, sg_up_id] at hP1
    exact hP1) hS1)
/-- what a call finds: the receiver is cell k -/
theorem sg_preV (hA : sgY A n h s.heap.size) (hK : va_K D cl tys s) (hP : va_P D cl (sgw n h ee f L Q) H) (hS : va_S A s.heap H locs) (hZ : sgZ zc za A s.heap.size s) (k : Nat) (hk : k < n) {As : List Value} {C : String} {T : u_T} {N ci : Nat} {fs : List Value} (he : ee k (f k) (L k) (Q k) = .inr (ci, fs)) (hc : cl[ci]? = some (C, T, N)) : PreV s H C (h k) (sgP D cl tys n h ee zc za f L Q H.size (.ref (h k) :: As)) As :=
  ⟨sgP_blind, va_recv hK hP hc (q0 := k) (by rw [sgw_at hk, he]), fun U hU hW => ⟨rfl, by rw [hU], by rw [hU]; exact hP, va_K.moved hW.alike hK, hZ.go hS hU hW.alike (fun q hq => hA.sub hS.1 hq)⟩⟩
theorem sg_preS (hA : sgY A n h s.heap.size) (hK : va_K D cl tys s) (hP : va_P D cl (sgw n h ee f L Q) H) (hS : va_S A s.heap H locs) (hZ : sgZ zc za A s.heap.size s) {As : List Value} : PreS s H (sgP D cl tys n h ee zc za f L Q H.size As) As :=
  ⟨sgP_blind, fun U hU hW => ⟨rfl, by rw [hU], by rw [hU]; exact hP, va_K.moved hW.alike hK, hZ.go hS hU hW.alike (fun q hq => hA.sub hS.1 hq)⟩⟩
end SGR
/-- a method's walk, from its entry to its returns -/
theorem sg_ofWi {l : Launch} {y : MethodName} {ws ws' : List Cond} {rm : Room} {cc : ByteArray} {maxL : Nat} {D : va_G} {cl : List vw_C} {tys : List (ClassId × FieldType)} {n : Nat} {h : Nat → Nat} {ee : sg_E} {zc : List sg_S} {za : Nat → Nat} {f : sg_F} {L : sg_L} {Q : sg_Q} {sz : Nat} {av : List Value} {post : Int32 → sg_F → sg_L → sg_Q → Prop} {mc ms : Nat} (own : String) (hy : plainName y.cls = true) (hyc : y.cls = own) (hw : ws = Cond.code y cc maxL (some .int) :: ws') (hav : (lg_sl av).length ≤ maxL)
    (body : ∀ (p : Program) (e : Env) (s : State) (m : MethodId) (below : List Frame) (meth : Method) (c : Code) (Qz : State → Prop) (ls : Array Slot), p.tables.exec = Jvm.exec → c.code = cc → c.maxLocals = maxL → s.vm.findClass own = some m.cls → (∀ w ∈ ws, w.before av.toArray s = true) → va_K D cl tys s → sgZ zc za (sgA n h s.heap.size) s.heap.size s → va_P D cl (sgw n h ee f L Q) s.heap → va_S (sgA n h s.heap.size) s.heap s.heap [] → lv_has ls maxL (lv_args 0 av) →
      (∀ (pc : Nat) (H : Heap) (locs : List Loc) (ls : Array Slot) (v : Int32) (f1 : sg_F) (L1 : sg_L) (Q1 : sg_Q), decode cc pc = .ok (.ireturn, 1) → va_P D cl (sgw n h ee f1 L1 Q1) H → va_S (sgA n h s.heap.size) s.heap H locs → post v f1 L1 Q1 → W p l e rm s m av.toArray below meth c H locs mc ms Qz (F0 m pc ls [.int v])) →
      W p l e rm s m av.toArray below meth c s.heap [] 0 0 Qz (F0 m 0 ls [])) :
    Met l y ws rm (sgP D cl tys n h ee zc za f L Q sz av) (sgQi D cl n h ee sz post) mc ms (sgA n h sz) := by
  refine Met.ofW (cc := cc) (maxL := maxL) (ret := some .int) hy hw ?_
  intro p e s m args below meth c s₁ B hml hv
  obtain ⟨rfl, hsz, hP, hK, hZ⟩ := hv
  subst hsz
  rw [lg_entry_eq]
  refine body p e s m below meth c _ _ B.exec B.bytes hml (hyc ▸ findClass_of_methodNamed B.named) (atoms_spec (ws := ws) B.pre) hK hZ hP va_S.rf (lv_entry av hav) ?_
  intro pc H locs ls v f1 L1 Q1 hd hP1 hS1 hp
  exact W.iret (v := v) B.exec B.bytes B.returns (fun t ht _ => ⟨⟨v, (f1, L1, Q1), rfl, hp, by subst ht; exact hP1⟩, hS1.F ht⟩) hS1.2.2 hd B.notSynchronized
theorem sg_ofWz {l : Launch} {y : MethodName} {ws ws' : List Cond} {rm : Room} {cc : ByteArray} {maxL : Nat} {D : va_G} {cl : List vw_C} {tys : List (ClassId × FieldType)} {n : Nat} {h : Nat → Nat} {ee : sg_E} {zc : List sg_S} {za : Nat → Nat} {f : sg_F} {L : sg_L} {Q : sg_Q} {sz : Nat} {av : List Value} {post : Int32 → sg_F → sg_L → sg_Q → Prop} {mc ms : Nat} (own : String) (hy : plainName y.cls = true) (hyc : y.cls = own) (hw : ws = Cond.code y cc maxL (some .boolean) :: ws') (hav : (lg_sl av).length ≤ maxL)
    (body : ∀ (p : Program) (e : Env) (s : State) (m : MethodId) (below : List Frame) (meth : Method) (c : Code) (Qz : State → Prop) (ls : Array Slot), p.tables.exec = Jvm.exec → c.code = cc → c.maxLocals = maxL → s.vm.findClass own = some m.cls → (∀ w ∈ ws, w.before av.toArray s = true) → va_K D cl tys s → sgZ zc za (sgA n h s.heap.size) s.heap.size s → va_P D cl (sgw n h ee f L Q) s.heap → va_S (sgA n h s.heap.size) s.heap s.heap [] → lv_has ls maxL (lv_args 0 av) →
      (∀ (pc : Nat) (H : Heap) (locs : List Loc) (ls : Array Slot) (v : Int32) (f1 : sg_F) (L1 : sg_L) (Q1 : sg_Q), decode cc pc = .ok (.ireturn, 1) → narrow .boolean (.int v) = .int v → va_P D cl (sgw n h ee f1 L1 Q1) H → va_S (sgA n h s.heap.size) s.heap H locs → post v f1 L1 Q1 → W p l e rm s m av.toArray below meth c H locs mc ms Qz (F0 m pc ls [.int v])) →
      W p l e rm s m av.toArray below meth c s.heap [] 0 0 Qz (F0 m 0 ls [])) :
    Met l y ws rm (sgP D cl tys n h ee zc za f L Q sz av) (sgQi D cl n h ee sz post) mc ms (sgA n h sz) := by
  refine Met.ofW (cc := cc) (maxL := maxL) (ret := some .boolean) hy hw ?_
  intro p e s m args below meth c s₁ B hml hv
  obtain ⟨rfl, hsz, hP, hK, hZ⟩ := hv
  subst hsz
  rw [lg_entry_eq]
  refine body p e s m below meth c _ _ B.exec B.bytes hml (hyc ▸ findClass_of_methodNamed B.named) (atoms_spec (ws := ws) B.pre) hK hZ hP va_S.rf (lv_entry av hav) ?_
  intro pc H locs ls v f1 L1 Q1 hd hn hP1 hS1 hp
  exact W.zret (v := v) B.exec B.bytes B.returns hn (fun t ht _ => ⟨⟨v, (f1, L1, Q1), rfl, hp, by subst ht; exact hP1⟩, hS1.F ht⟩) hS1.2.2 hd B.notSynchronized
theorem sg_ofWl {l : Launch} {y : MethodName} {ws ws' : List Cond} {rm : Room} {cc : ByteArray} {maxL : Nat} {D : va_G} {cl : List vw_C} {tys : List (ClassId × FieldType)} {n : Nat} {h : Nat → Nat} {ee : sg_E} {zc : List sg_S} {za : Nat → Nat} {f : sg_F} {L : sg_L} {Q : sg_Q} {sz : Nat} {av : List Value} {post : Int64 → sg_F → sg_L → sg_Q → Prop} {mc ms : Nat} (own : String) (hy : plainName y.cls = true) (hyc : y.cls = own) (hw : ws = Cond.code y cc maxL (some .long) :: ws') (hav : (lg_sl av).length ≤ maxL)
    (body : ∀ (p : Program) (e : Env) (s : State) (m : MethodId) (below : List Frame) (meth : Method) (c : Code) (Qz : State → Prop) (ls : Array Slot), p.tables.exec = Jvm.exec → c.code = cc → c.maxLocals = maxL → s.vm.findClass own = some m.cls → (∀ w ∈ ws, w.before av.toArray s = true) → va_K D cl tys s → sgZ zc za (sgA n h s.heap.size) s.heap.size s → va_P D cl (sgw n h ee f L Q) s.heap → va_S (sgA n h s.heap.size) s.heap s.heap [] → lv_has ls maxL (lv_args 0 av) →
      (∀ (pc : Nat) (H : Heap) (locs : List Loc) (ls : Array Slot) (v : Int64) (f1 : sg_F) (L1 : sg_L) (Q1 : sg_Q), decode cc pc = .ok (.lreturn, 1) → va_P D cl (sgw n h ee f1 L1 Q1) H → va_S (sgA n h s.heap.size) s.heap H locs → post v f1 L1 Q1 → W p l e rm s m av.toArray below meth c H locs mc ms Qz (F0 m pc ls [.long v])) →
      W p l e rm s m av.toArray below meth c s.heap [] 0 0 Qz (F0 m 0 ls [])) :
    Met l y ws rm (sgP D cl tys n h ee zc za f L Q sz av) (sgQl D cl n h ee sz post) mc ms (sgA n h sz) := by
  refine Met.ofW (cc := cc) (maxL := maxL) (ret := some .long) hy hw ?_
  intro p e s m args below meth c s₁ B hml hv
  obtain ⟨rfl, hsz, hP, hK, hZ⟩ := hv
  subst hsz
  rw [lg_entry_eq]
  refine body p e s m below meth c _ _ B.exec B.bytes hml (hyc ▸ findClass_of_methodNamed B.named) (atoms_spec (ws := ws) B.pre) hK hZ hP va_S.rf (lv_entry av hav) ?_
  intro pc H locs ls v f1 L1 Q1 hd hP1 hS1 hp
  exact W.lret (v := v) B.exec B.bytes B.returns (fun t ht _ => ⟨⟨v, (f1, L1, Q1), rfl, hp, by subst ht; exact hP1⟩, hS1.F ht⟩) hS1.2.2 hd B.notSynchronized
theorem sg_ofWv {l : Launch} {y : MethodName} {ws ws' : List Cond} {rm : Room} {cc : ByteArray} {maxL : Nat} {D : va_G} {cl : List vw_C} {tys : List (ClassId × FieldType)} {n : Nat} {h : Nat → Nat} {ee : sg_E} {zc : List sg_S} {za : Nat → Nat} {f : sg_F} {L : sg_L} {Q : sg_Q} {sz : Nat} {av : List Value} {post : sg_F → sg_L → sg_Q → Prop} {mc ms : Nat} (own : String) (hy : plainName y.cls = true) (hyc : y.cls = own) (hw : ws = Cond.code y cc maxL none :: ws') (hav : (lg_sl av).length ≤ maxL)
    (body : ∀ (p : Program) (e : Env) (s : State) (m : MethodId) (below : List Frame) (meth : Method) (c : Code) (Qz : State → Prop) (ls : Array Slot), p.tables.exec = Jvm.exec → c.code = cc → c.maxLocals = maxL → s.vm.findClass own = some m.cls → (∀ w ∈ ws, w.before av.toArray s = true) → va_K D cl tys s → sgZ zc za (sgA n h s.heap.size) s.heap.size s → va_P D cl (sgw n h ee f L Q) s.heap → va_S (sgA n h s.heap.size) s.heap s.heap [] → lv_has ls maxL (lv_args 0 av) →
      (∀ (pc : Nat) (H : Heap) (locs : List Loc) (ls : Array Slot) (f1 : sg_F) (L1 : sg_L) (Q1 : sg_Q), decode cc pc = .ok (.return_, 1) → va_P D cl (sgw n h ee f1 L1 Q1) H → va_S (sgA n h s.heap.size) s.heap H locs → post f1 L1 Q1 → W p l e rm s m av.toArray below meth c H locs mc ms Qz (F0 m pc ls [])) →
      W p l e rm s m av.toArray below meth c s.heap [] 0 0 Qz (F0 m 0 ls [])) :
    Met l y ws rm (sgP D cl tys n h ee zc za f L Q sz av) (sgQv D cl n h ee sz post) mc ms (sgA n h sz) := by
  refine Met.ofW (cc := cc) (maxL := maxL) (ret := none) hy hw ?_
  intro p e s m args below meth c s₁ B hml hv
  obtain ⟨rfl, hsz, hP, hK, hZ⟩ := hv
  subst hsz
  rw [lg_entry_eq]
  refine body p e s m below meth c _ _ B.exec B.bytes hml (hyc ▸ findClass_of_methodNamed B.named) (atoms_spec (ws := ws) B.pre) hK hZ hP va_S.rf (lv_entry av hav) ?_
  intro pc H locs ls f1 L1 Q1 hd hP1 hS1 hp
  exact W.vret B.exec B.bytes B.returns (fun t ht _ => ⟨⟨(f1, L1, Q1), rfl, hp, by subst ht; exact hP1⟩, hS1.F ht⟩) hS1.2.2 hd B.notSynchronized
end
section
/-! bounds of ints: sgB a b x says that x lies between a and b -/
abbrev sgB (a b : Int) (x : Int32) : Prop := a ≤ x.toInt ∧ x.toInt ≤ b
theorem bn_any (x : Int32) : sgB (-2147483648) 2147483647 x := by
  have h1 := x.le_toInt
  have h2 := x.toInt_lt
  exact ⟨by omega, by omega⟩
theorem bn_w {a b c d : Int} {x : Int32} (h : sgB a b x) (k : c ≤ a ∧ b ≤ d) : sgB c d x := ⟨Int.le_trans k.1 h.1, Int.le_trans h.2 k.2⟩
theorem bn_add {a b c d l u : Int} {x y : Int32} (h : sgB a b x) (g : sgB c d y) (k : (-2147483648 ≤ a + c ∧ b + d ≤ 2147483647) ∧ l ≤ a + c ∧ b + d ≤ u) : sgB l u (x + y) ∧ (x + y).toInt = x.toInt + y.toInt := by
  have e : (x + y).toInt = x.toInt + y.toInt := by
    rw [Int32.toInt_add]
    exact Int.bmod_eq_of_le (by omega) (by omega)
  exact ⟨⟨by omega, by omega⟩, e⟩
theorem bn_sub {a b c d l u : Int} {x y : Int32} (h : sgB a b x) (g : sgB c d y) (k : (-2147483648 ≤ a - d ∧ b - c ≤ 2147483647) ∧ l ≤ a - d ∧ b - c ≤ u) : sgB l u (x - y) ∧ (x - y).toInt = x.toInt - y.toInt := by
  have e : (x - y).toInt = x.toInt - y.toInt := by
    rw [Int32.toInt_sub]
    exact Int.bmod_eq_of_le (by omega) (by omega)
  exact ⟨⟨by omega, by omega⟩, e⟩
theorem bn_neg {a b l u : Int} {x : Int32} (h : sgB a b x) (k : -2147483648 < a ∧ l ≤ -b ∧ -a ≤ u) : sgB l u (-x) ∧ (-x).toInt = -x.toInt := by
  have h2 := x.toInt_lt
  have e : (-x).toInt = -x.toInt := by
    rw [Int32.toInt_neg]
    exact Int.bmod_eq_of_le (by omega) (by omega)
  exact ⟨⟨by omega, by omega⟩, e⟩
theorem bn_mul {a b c d l u : Int} {x y : Int32} (h : sgB a b x) (g : sgB c d y) (k : (0 ≤ a ∧ 0 ≤ c) ∧ b * d ≤ 2147483647 ∧ l ≤ a * c ∧ b * d ≤ u) : sgB l u (x * y) ∧ (x * y).toInt = x.toInt * y.toInt := by
  obtain ⟨⟨k1, k2⟩, k3, k4, k5⟩ := k
  have h1 : a * c ≤ x.toInt * y.toInt := Int.mul_le_mul h.1 g.1 k2 (Int.le_trans k1 h.1)
  have h2 : x.toInt * y.toInt ≤ b * d := Int.mul_le_mul h.2 g.2 (Int.le_trans k2 g.1) (Int.le_trans (Int.le_trans k1 h.1) h.2)
  have h3 : 0 ≤ x.toInt * y.toInt := Int.mul_nonneg (Int.le_trans k1 h.1) (Int.le_trans k2 g.1)
  have e : (x * y).toInt = x.toInt * y.toInt := by
    rw [Int32.toInt_mul]
    exact Int.bmod_eq_of_le (by omega) (by omega)
  rw [sgB, e]
  exact ⟨⟨Int.le_trans k4 h1, Int.le_trans h2 k5⟩, rfl⟩
/-- the sides of a branch -/
theorem bn_lt {x y : Int32} (h : x < y) : x.toInt < y.toInt := Int32.lt_iff_toInt_lt.mp h
theorem bn_nlt {x y : Int32} (h : ¬ x < y) : y.toInt ≤ x.toInt := Int.not_lt.mp (fun z => h (Int32.lt_iff_toInt_lt.mpr z))
theorem bn_le {x y : Int32} (h : x ≤ y) : x.toInt ≤ y.toInt := Int32.le_iff_toInt_le.mp h
theorem bn_nle {x y : Int32} (h : ¬ x ≤ y) : y.toInt < x.toInt := Int.not_le.mp (fun z => h (Int32.le_iff_toInt_le.mpr z))
theorem bn_ne {x y : Int32} (h : ¬ x = y) : x.toInt ≠ y.toInt := fun z => h (Int32.toInt_inj.mp z)
/-- what a side says: x below y, of x; of y -/
theorem bs_lt1 {a b c d u : Int} {x y : Int} (h : x < y) (hx : a ≤ x ∧ x ≤ b) (hy : c ≤ y ∧ y ≤ d) (k : d ≤ u + 1) : a ≤ x ∧ x ≤ u := ⟨hx.1, by omega⟩
theorem bs_lt2 {a b c d u : Int} {x y : Int} (h : x < y) (hx : a ≤ x ∧ x ≤ b) (hy : c ≤ y ∧ y ≤ d) (k : u ≤ a + 1) : u ≤ y ∧ y ≤ d := ⟨by omega, hy.2⟩
theorem bs_le1 {a b c d : Int} {x y : Int} (h : x ≤ y) (hx : a ≤ x ∧ x ≤ b) (hy : c ≤ y ∧ y ≤ d) : a ≤ x ∧ x ≤ d := ⟨hx.1, Int.le_trans h hy.2⟩
theorem bs_le2 {a b c d : Int} {x y : Int} (h : x ≤ y) (hx : a ≤ x ∧ x ≤ b) (hy : c ≤ y ∧ y ≤ d) : a ≤ y ∧ y ≤ d := ⟨Int.le_trans hx.1 h, hy.2⟩
theorem bs_eq {a b c d l u : Int} {x y : Int32} (h : x = y) (hx : sgB a b x) (hy : sgB c d y) (k : (l ≤ a ∨ l ≤ c) ∧ (b ≤ u ∨ d ≤ u)) : sgB l u x := by
  subst h
  exact ⟨by omega, by omega⟩
theorem bs_ne1 {a b c l : Int} {x y : Int32} (h : ¬ x = y) (hx : sgB a b x) (hy : sgB c c y) (k : l ≤ a + 1 ∧ c = a) : sgB l b x := by
  have := bn_ne h
  exact ⟨by omega, hx.2⟩
theorem bs_ne2 {a b c u : Int} {x y : Int32} (h : ¬ x = y) (hx : sgB a b x) (hy : sgB c c y) (k : b ≤ u + 1 ∧ c = b) : sgB a u x := by
  have := bn_ne h
  exact ⟨hx.1, by omega⟩
/-- an index -/
theorem bn_in {a b : Int} {x : Int32} {N : Nat} (h : sgB a b x) (k : 0 ≤ a ∧ b < (N : Int)) : vp_in x N := vp_in_iff.mpr ⟨by omega, by omega⟩
theorem bn_cl {a b : Int} {x : Int32} (h : sgB a b x) (k : 0 ≤ a) : ((x.toNatClampNeg : Nat) : Int) = x.toInt := by
  show ((x.toInt.toNat : Nat) : Int) = x.toInt
  omega
theorem bn_k {a b : Int} {x : Int32} {N : Nat} (h : sgB a b x) (k : 0 ≤ a ∧ b < (N : Int)) : x.toNatClampNeg < N := by
  have := bn_cl h k.1
  omega
theorem bn_max {a b c d l u : Int} {x y : Int32} (h : sgB a b x) (g : sgB c d y) (k : (l ≤ a ∨ l ≤ c) ∧ b ≤ u ∧ d ≤ u) : sgB l u (if x < y then y else x) := by
  split
  · have := bn_lt (by assumption); exact ⟨by omega, by omega⟩
  · have := bn_nlt (by assumption); exact ⟨by omega, by omega⟩
theorem bn_min {a b c d l u : Int} {x y : Int32} (h : sgB a b x) (g : sgB c d y) (k : (l ≤ a ∧ l ≤ c) ∧ (b ≤ u ∨ d ≤ u)) : sgB l u (if x < y then x else y) := by
  split
  · have := bn_lt (by assumption); exact ⟨by omega, by omega⟩
  · have := bn_nlt (by assumption); exact ⟨by omega, by omega⟩
theorem bn_abs {a b u : Int} {x : Int32} (h : sgB a b x) (k : -2147483648 < a ∧ -a ≤ u ∧ b ≤ u) : sgB 0 u (if 0 ≤ x then x else 0 - x) := by
  have z : (0 : Int32).toInt = 0 := by decide
  split
  · have := bn_le (by assumption)
    exact ⟨by omega, by omega⟩
  · have := bn_nle (by assumption)
    have e : (0 - x).toInt = 0 - x.toInt := by
      rw [Int32.toInt_sub, z]
      exact Int.bmod_eq_of_le (by omega) (by omega)
    exact ⟨by omega, by omega⟩
theorem bn_div {a b c l u : Int} {x y : Int32} (h : sgB a b x) (g : sgB c c y) (k : (0 ≤ a ∧ 0 < c) ∧ l ≤ a / c ∧ b / c ≤ u) : sgB l u (x / y) ∧ (x / y).toInt = x.toInt / c := by
  obtain ⟨⟨k1, k2⟩, k3, k4⟩ := k
  have e0 : y.toInt = c := by omega
  have e : (x / y).toInt = x.toInt / c := by
    rw [Int32.toInt_div_of_ne_right _ _ (by intro z; rw [z] at e0; have : (-1 : Int32).toInt = -1 := by decide
                                            omega), e0]
    exact Int.tdiv_eq_ediv_of_nonneg (by omega)
  rw [sgB, e]
  exact ⟨⟨Int.le_trans k3 (Int.ediv_le_ediv k2 h.1), Int.le_trans (Int.ediv_le_ediv k2 h.2) k4⟩, rfl⟩
theorem bn_rem {a b c u : Int} {x y : Int32} (h : sgB a b x) (g : sgB c c y) (k : (0 ≤ a ∧ 0 < c) ∧ c ≤ u + 1) : sgB 0 u (x - x / y * y) ∧ (x - x / y * y).toInt = x.toInt % c := by
  obtain ⟨⟨k1, k2⟩, k3⟩ := k
  have e0 : y.toInt = c := by omega
  have ed : (x / y).toInt = x.toInt / c := (bn_div (l := a / c) (u := b / c) h g ⟨⟨k1, k2⟩, Int.le_refl _, Int.le_refl _⟩).2
  have hb := x.toInt_lt
  have h0 : 0 ≤ x.toInt := by omega
  have d0 : 0 ≤ x.toInt / c := Int.ediv_nonneg h0 (by omega)
  have d1 : x.toInt / c * c ≤ x.toInt := Int.ediv_mul_le _ (by omega)
  have d2 : 0 ≤ x.toInt / c * c := Int.mul_nonneg d0 (by omega)
  have em : (x / y * y).toInt = x.toInt / c * c := by
    rw [Int32.toInt_mul, ed, e0]
    exact Int.bmod_eq_of_le (by omega) (by omega)
  have es : (x - x / y * y).toInt = x.toInt - x.toInt / c * c := by
    rw [Int32.toInt_sub, em]
    exact Int.bmod_eq_of_le (by omega) (by omega)
  have em2 : x.toInt - x.toInt / c * c = x.toInt % c := by
    rw [Int.emod_def, Int.mul_comm]
  have r0 := Int.emod_nonneg x.toInt (by omega : c ≠ 0)
  have r1 := Int.emod_lt_of_pos x.toInt k2
  rw [sgB, es, em2]
  exact ⟨⟨r0, by omega⟩, rfl⟩
theorem bn_lcmp (x y : Int64) : sgB (-1) 1 (lg_cmp x y) := by
  unfold lg_cmp
  split
  · decide
  · split <;> decide
/-- a measure that falls -/
theorem ms_0 {a b K : Int} {x : Int} (hx : a ≤ x ∧ x ≤ b) (k : b ≤ K) (hm : K - x < ((0 : Nat) : Int)) : False := by omega
theorem ms_s {K x y : Int} {n : Nat} (hm : K - x < ((n + 1 : Nat) : Int)) (e : x + 1 ≤ y) : K - y < (n : Int) := by omega
theorem ms_1 {a b K : Int} {x : Int} (hx : a ≤ x ∧ x ≤ b) (M : Nat) (k : K - a < (M : Int)) : K - x < (M : Int) := by omega
theorem md_0 {a b K : Int} {x : Int} (hx : a ≤ x ∧ x ≤ b) (k : K ≤ a) (hm : x - K < ((0 : Nat) : Int)) : False := by omega
theorem md_s {K x y : Int} {n : Nat} (hm : x - K < ((n + 1 : Nat) : Int)) (e : y + 1 ≤ x) : y - K < (n : Int) := by omega
theorem md_1 {a b K : Int} {x : Int} (hx : a ≤ x ∧ x ≤ b) (M : Nat) (k : b - K < (M : Int)) : x - K < (M : Int) := by omega
/-! the same without bounds, for a context that says enough -/
theorem bn_addI {x y : Int32} (h1 : -2147483648 ≤ x.toInt + y.toInt) (h2 : x.toInt + y.toInt ≤ 2147483647) : (x + y).toInt = x.toInt + y.toInt := by
  rw [Int32.toInt_add]
  exact Int.bmod_eq_of_le (by omega) (by omega)
theorem bn_subI {x y : Int32} (h1 : -2147483648 ≤ x.toInt - y.toInt) (h2 : x.toInt - y.toInt ≤ 2147483647) : (x - y).toInt = x.toInt - y.toInt := by
  rw [Int32.toInt_sub]
  exact Int.bmod_eq_of_le (by omega) (by omega)
theorem bn_negI {x : Int32} (h : -2147483648 < x.toInt) : (-x).toInt = -x.toInt := by
  have h2 := x.toInt_lt
  rw [Int32.toInt_neg]
  exact Int.bmod_eq_of_le (by omega) (by omega)
theorem bn_addc (x y : Int32) {n : Int} (e : y.toInt = n) (h1 : -2147483648 ≤ x.toInt + n) (h2 : x.toInt + n ≤ 2147483647) : (x + y).toInt = x.toInt + n := by
  rw [← e]
  exact bn_addI (by omega) (by omega)
theorem bn_mulI {x y : Int32} {n : Int} (e : y.toInt = n) (h1 : -2147483648 ≤ x.toInt * n) (h2 : x.toInt * n ≤ 2147483647) : (x * y).toInt = x.toInt * n := by
  rw [Int32.toInt_mul, e]
  exact Int.bmod_eq_of_le (by omega) (by omega)
theorem bn_mulJ {x y : Int32} {n : Int} (e : x.toInt = n) (h1 : -2147483648 ≤ n * y.toInt) (h2 : n * y.toInt ≤ 2147483647) : (x * y).toInt = n * y.toInt := by
  rw [Int32.toInt_mul, e]
  exact Int.bmod_eq_of_le (by omega) (by omega)
theorem bn_divI {x y : Int32} {n : Int} (h : 0 ≤ x.toInt) (e : y.toInt = n) (k : 0 < n) : (x / y).toInt = x.toInt / n :=
  (bn_div (a := 0) (b := 2147483647) (l := 0 / n) (u := 2147483647 / n) ⟨h, (bn_any x).2⟩ ⟨by omega, by omega⟩ ⟨⟨by decide, k⟩, Int.le_refl _, Int.le_refl _⟩).2
theorem bn_remI {x y : Int32} {n : Int} (h : 0 ≤ x.toInt) (e : y.toInt = n) (k : 0 < n) : (x - x / y * y).toInt = x.toInt % n :=
  (bn_rem (a := 0) (b := 2147483647) (u := n) ⟨h, (bn_any x).2⟩ ⟨by omega, by omega⟩ ⟨⟨by decide, k⟩, by omega⟩).2
theorem bn_kI {x : Int32} {N : Nat} (h1 : 0 ≤ x.toInt) (h2 : x.toInt < (N : Int)) : x.toNatClampNeg < N := by
  show x.toInt.toNat < N
  omega
theorem bn_maxI (x y : Int32) : (x.toInt < y.toInt ∧ (if x < y then y else x).toInt = y.toInt) ∨ (y.toInt ≤ x.toInt ∧ (if x < y then y else x).toInt = x.toInt) := by
  by_cases h : x < y
  · rw [if_pos h]; exact Or.inl ⟨bn_lt h, rfl⟩
  · rw [if_neg h]; exact Or.inr ⟨bn_nlt h, rfl⟩
theorem bn_minI (x y : Int32) : (x.toInt < y.toInt ∧ (if x < y then x else y).toInt = x.toInt) ∨ (y.toInt ≤ x.toInt ∧ (if x < y then x else y).toInt = y.toInt) := by
  by_cases h : x < y
  · rw [if_pos h]; exact Or.inl ⟨bn_lt h, rfl⟩
  · rw [if_neg h]; exact Or.inr ⟨bn_nlt h, rfl⟩
theorem bn_absI {x : Int32} (h : -2147483648 < x.toInt) : (0 ≤ x.toInt ∧ (if (0 : Int32) ≤ x then x else 0 - x).toInt = x.toInt) ∨ (x.toInt < 0 ∧ (if (0 : Int32) ≤ x then x else 0 - x).toInt = -x.toInt) := by
  have z : (0 : Int32).toInt = 0 := by decide
  have h2 := x.toInt_lt
  by_cases g : (0 : Int32) ≤ x
  · rw [if_pos g]
    have := bn_le g
    exact Or.inl ⟨by omega, rfl⟩
  · rw [if_neg g]
    have := bn_nle g
    refine Or.inr ⟨by omega, ?_⟩
    rw [bn_subI (by omega) (by omega), z]
    omega
theorem bn_lcmpI (x y : Int64) : ((lg_cmp x y).toInt = -1 ∧ x.toInt < y.toInt) ∨ ((lg_cmp x y).toInt = 0 ∧ x.toInt = y.toInt) ∨ ((lg_cmp x y).toInt = 1 ∧ y.toInt < x.toInt) := by
  unfold lg_cmp
  by_cases h1 : y < x
  · rw [if_pos h1]
    exact Or.inr (Or.inr ⟨by decide, Int64.lt_iff_toInt_lt.mp h1⟩)
  · rw [if_neg h1]
    by_cases h2 : x = y
    · subst h2
      exact Or.inr (Or.inl ⟨by simp, rfl⟩)
    · have h3 : ¬ y.toInt < x.toInt := fun z => h1 (Int64.lt_iff_toInt_lt.mpr z)
      have h4 : x.toInt ≠ y.toInt := fun z => h2 (Int64.toInt_inj.mp z)
      refine Or.inl ⟨?_, by omega⟩
      first | (rw [if_neg h2]; decide) | (rw [if_pos (Int64.lt_iff_toInt_lt.mpr (by omega))]; decide) | (simp [h2])
end
section
/-! names of the classes' methods that are walked, out of the printed names -/
theorem goodIn_r {big : List Cond} (ws : List Cond) (ps : List Nat) (hp : ws = ps.filterMap (fun i => big[i]?)) (h : ws.all goodWord = true) : GoodIn big ws := by
  intro w hw
  have h1 := List.all_eq_true.mp h w hw
  rw [hp] at hw
  obtain ⟨i, -, hi⟩ := List.mem_filterMap.mp hw
  have hm : w ∈ big := by first | exact List.mem_of_getElem? hi | exact List.getElem?_mem hi
  exact ⟨hm, good_of_word h1⟩
theorem goodIn_app {big a b : List Cond} (ha : GoodIn big a) (hb : GoodIn big b) : GoodIn big (a ++ b) := fun w h => (List.mem_append.mp h).elim (ha w) (hb w)
def RX0 : String := "SetAgain$Chair"
def TX0 : u_T := fun k => match k with
  | 0 => ("SetAgain$Chair", "told", "[I", true)
  | 1 => ("SetAgain$Chair", "stands", "[I", true)
  | 2 => ("SetAgain$Chair", "law", "LSetAgain$Law;", true)
  | 3 => ("SetAgain$Chair", "sitters", "I", false)
  | _ => ("SetAgain$Chair", "lost", "[I", true)
def tyX0 : Nat → FieldType := fun k => match k with
  | 0 => .array .int
  | 1 => .array .int
  | 2 => .object "SetAgain$Law"
  | 3 => .int
  | _ => .array .int
abbrev wsX00 : List Cond := u_ws RX0 TX0 5
theorem nmX0 : ∀ a, a < 5 → ∀ b, b < 5 → a ≠ b → (TX0 a).2.1 ≠ (TX0 b).2.1 := by decide +kernel
theorem tyX0_ok : ∀ k, k < 5 → parseFieldDescriptor (TX0 k).2.2.1 = some (tyX0 k) := by decide +kernel
abbrev cX0_has : ByteArray := prog_2_method_2_code
def yX0_has : MethodName := ⟨RX0, "has", "(I)Z"⟩
abbrev cX0_placeOf : ByteArray := prog_2_method_3_code
def yX0_placeOf : MethodName := ⟨RX0, "placeOf", "(II)I"⟩
abbrev cX0_comes : ByteArray := prog_2_method_4_code
def yX0_comes : MethodName := ⟨RX0, "comes", "(IIII)I"⟩
abbrev cX0_becomes : ByteArray := prog_2_method_5_code
def yX0_becomes : MethodName := ⟨RX0, "becomes", "(II)V"⟩
abbrev cX0_numberOf : ByteArray := prog_2_method_6_code
def yX0_numberOf : MethodName := ⟨RX0, "numberOf", "(II)I"⟩
abbrev cX0_priceOf : ByteArray := prog_2_method_7_code
def yX0_priceOf : MethodName := ⟨RX0, "priceOf", "(I)I"⟩
abbrev cX0_fetch : ByteArray := prog_2_method_8_code
def yX0_fetch : MethodName := ⟨RX0, "fetch", "()I"⟩
abbrev cX0_slipped : ByteArray := prog_2_method_9_code
def yX0_slipped : MethodName := ⟨RX0, "slipped", "(II)I"⟩
abbrev cX0_turned : ByteArray := prog_2_method_10_code
def yX0_turned : MethodName := ⟨RX0, "turned", "(IIII)I"⟩
abbrev cX0_lossAt : ByteArray := prog_2_method_11_code
def yX0_lossAt : MethodName := ⟨RX0, "lossAt", "(III)I"⟩
abbrev cX0_forgetAll : ByteArray := prog_2_method_12_code
def yX0_forgetAll : MethodName := ⟨RX0, "forgetAll", "()V"⟩
abbrev cX0_forget : ByteArray := prog_2_method_13_code
def yX0_forget : MethodName := ⟨RX0, "forget", "(I)V"⟩
def RX1 : String := "SetAgain$Changes"
def TX1 : u_T := fun k => match k with
  | 0 => ("SetAgain$Changes", "places", "[I", true)
  | 1 => ("SetAgain$Changes", "before", "[I", true)
  | 2 => ("SetAgain$Changes", "after", "[I", true)
  | 3 => ("SetAgain$Changes", "done", "I", false)
  | _ => ("SetAgain$Changes", "kept", "I", false)
def tyX1 : Nat → FieldType := fun k => match k with
  | 0 => .array .int
  | 1 => .array .int
  | 2 => .array .int
  | 3 => .int
  | _ => .int
abbrev wsX10 : List Cond := u_ws RX1 TX1 5
theorem nmX1 : ∀ a, a < 5 → ∀ b, b < 5 → a ≠ b → (TX1 a).2.1 ≠ (TX1 b).2.1 := by decide +kernel
theorem tyX1_ok : ∀ k, k < 5 → parseFieldDescriptor (TX1 k).2.2.1 = some (tyX1 k) := by decide +kernel
abbrev cX1_comes : ByteArray := prog_3_method_2_code
def yX1_comes : MethodName := ⟨RX1, "comes", "(III)V"⟩
abbrev cX1_dropOldest : ByteArray := prog_3_method_3_code
def yX1_dropOldest : MethodName := ⟨RX1, "dropOldest", "()V"⟩
def RX2 : String := "SetAgain$Deed"
def TX2 : u_T := fun k => match k with
  | 0 => ("SetAgain$Deed", "chair", "LSetAgain$Chair;", true)
  | 1 => ("SetAgain$Deed", "habits", "LSetAgain$Habits;", true)
  | 2 => ("SetAgain$Deed", "told", "[I", true)
  | 3 => ("SetAgain$Deed", "keptTold", "[I", true)
  | 4 => ("SetAgain$Deed", "keptStands", "[I", true)
  | _ => ("SetAgain$Deed", "kept", "Z", false)
def tyX2 : Nat → FieldType := fun k => match k with
  | 0 => .object "SetAgain$Chair"
  | 1 => .object "SetAgain$Habits"
  | 2 => .array .int
  | 3 => .array .int
  | 4 => .array .int
  | _ => .boolean
abbrev wsX20 : List Cond := u_ws RX2 TX2 6
theorem nmX2 : ∀ a, a < 6 → ∀ b, b < 6 → a ≠ b → (TX2 a).2.1 ≠ (TX2 b).2.1 := by decide +kernel
theorem tyX2_ok : ∀ k, k < 6 → parseFieldDescriptor (TX2 k).2.2.1 = some (tyX2 k) := by decide +kernel
abbrev cX2_comes : ByteArray := prog_4_method_2_code
def yX2_comes : MethodName := ⟨RX2, "comes", "(I)I"⟩
abbrev cX2_turns : ByteArray := prog_4_method_3_code
def yX2_turns : MethodName := ⟨RX2, "turns", "(II)I"⟩
abbrev cX2_allSlip : ByteArray := prog_4_method_4_code
def yX2_allSlip : MethodName := ⟨RX2, "allSlip", "()I"⟩
abbrev cX2_keepImage : ByteArray := prog_4_method_5_code
def yX2_keepImage : MethodName := ⟨RX2, "keepImage", "()I"⟩
abbrev cX2_layBack : ByteArray := prog_4_method_6_code
def yX2_layBack : MethodName := ⟨RX2, "layBack", "()I"⟩
def RX3 : String := "SetAgain$Desks"
def TX3 : u_T := fun k => match k with
  | 0 => ("SetAgain$Desks", "kinds", "[I", true)
  | 1 => ("SetAgain$Desks", "trace", "[I", true)
  | 2 => ("SetAgain$Desks", "kept", "I", false)
  | 3 => ("SetAgain$Desks", "ran", "I", false)
  | 4 => ("SetAgain$Desks", "kind", "I", false)
  | _ => ("SetAgain$Desks", "number", "I", false)
def tyX3 : Nat → FieldType := fun k => match k with
  | 0 => .array .int
  | 1 => .array .int
  | 2 => .int
  | 3 => .int
  | 4 => .int
  | _ => .int
abbrev wsX30 : List Cond := u_ws RX3 TX3 6
theorem nmX3 : ∀ a, a < 6 → ∀ b, b < 6 → a ≠ b → (TX3 a).2.1 ≠ (TX3 b).2.1 := by decide +kernel
theorem tyX3_ok : ∀ k, k < 6 → parseFieldDescriptor (TX3 k).2.2.1 = some (tyX3 k) := by decide +kernel
abbrev cX3_comes : ByteArray := prog_5_method_2_code
def yX3_comes : MethodName := ⟨RX3, "comes", "(I)I"⟩
abbrev cX3_takenFor : ByteArray := prog_5_method_3_code
def yX3_takenFor : MethodName := ⟨RX3, "takenFor", "(II)I"⟩
abbrev cX3_acts : ByteArray := prog_5_method_4_code
def yX3_acts : MethodName := ⟨RX3, "acts", "(III)I"⟩
abbrev cX3_does : ByteArray := prog_5_method_5_code
def yX3_does : MethodName := ⟨RX3, "does", "(IIII)I"⟩
abbrev cX3_ownerOf : ByteArray := prog_5_method_6_code
def yX3_ownerOf : MethodName := ⟨RX3, "ownerOf", "(II)I"⟩
abbrev cX3_runs : ByteArray := prog_5_method_7_code
def yX3_runs : MethodName := ⟨RX3, "runs", "(IIII)I"⟩
def RX4 : String := "SetAgain$Habits"
def TX4 : u_T := fun k => match k with
  | 0 => ("SetAgain$Habits", "chair", "LSetAgain$Chair;", true)
  | 1 => ("SetAgain$Habits", "week", "LSetAgain$Week;", true)
  | 2 => ("SetAgain$Habits", "stand", "[I", true)
  | 3 => ("SetAgain$Habits", "turns", "[I", true)
  | 4 => ("SetAgain$Habits", "spared", "[I", true)
  | 5 => ("SetAgain$Habits", "losses", "I", false)
  | 6 => ("SetAgain$Habits", "costs", "I", false)
  | 7 => ("SetAgain$Habits", "tried", "I", false)
  | 8 => ("SetAgain$Habits", "triedNear", "I", false)
  | 9 => ("SetAgain$Habits", "leaver", "I", false)
  | _ => ("SetAgain$Habits", "left", "I", false)
abbrev wsX40 : List Cond := u_ws RX4 TX4 11
abbrev cX4_begin : ByteArray := prog_6_method_2_code
def yX4_begin : MethodName := ⟨RX4, "begin", "()V"⟩
abbrev cX4_standAsNow : ByteArray := prog_6_method_3_code
def yX4_standAsNow : MethodName := ⟨RX4, "standAsNow", "()V"⟩
abbrev cX4_live : ByteArray := prog_6_method_4_code
def yX4_live : MethodName := ⟨RX4, "live", "(I)V"⟩
abbrev cX4_pass : ByteArray := prog_6_method_5_code
def yX4_pass : MethodName := ⟨RX4, "pass", "(I)V"⟩
abbrev cX4_comes : ByteArray := prog_6_method_6_code
def yX4_comes : MethodName := ⟨RX4, "comes", "(I)V"⟩
abbrev cX4_leaves : ByteArray := prog_6_method_7_code
def yX4_leaves : MethodName := ⟨RX4, "leaves", "()V"⟩
abbrev cX4_turnTo : ByteArray := prog_6_method_8_code
def yX4_turnTo : MethodName := ⟨RX4, "turnTo", "(II)I"⟩
abbrev cX4_slip : ByteArray := prog_6_method_9_code
def yX4_slip : MethodName := ⟨RX4, "slip", "()V"⟩
abbrev cX4_allTurns : ByteArray := prog_6_method_10_code
def yX4_allTurns : MethodName := ⟨RX4, "allTurns", "()I"⟩
abbrev cX4_bestNear : ByteArray := prog_6_method_11_code
def yX4_bestNear : MethodName := ⟨RX4, "bestNear", "(II)I"⟩
abbrev cX4_bestMemories : ByteArray := prog_6_method_12_code
def yX4_bestMemories : MethodName := ⟨RX4, "bestMemories", "(II)I"⟩
abbrev cX4_sparedBy : ByteArray := prog_6_method_13_code
def yX4_sparedBy : MethodName := ⟨RX4, "sparedBy", "(I)I"⟩
abbrev cX4_savedByMarks : ByteArray := prog_6_method_14_code
def yX4_savedByMarks : MethodName := ⟨RX4, "savedByMarks", "()I"⟩
abbrev cX4_moreByWilful : ByteArray := prog_6_method_15_code
def yX4_moreByWilful : MethodName := ⟨RX4, "moreByWilful", "(II)I"⟩
abbrev cX4_drawWeeks : ByteArray := prog_6_method_16_code
def yX4_drawWeeks : MethodName := ⟨RX4, "drawWeeks", "(II)I"⟩
def RX5 : String := "SetAgain$Law"
def TX5 : u_T := fun k => match k with
  | 0 => ("SetAgain$Law", "tape", "[I", true)
  | 1 => ("SetAgain$Law", "length", "I", false)
  | 2 => ("SetAgain$Law", "holds", "Z", false)
  | 3 => ("SetAgain$Law", "draft", "[I", true)
  | 4 => ("SetAgain$Law", "code", "[I", true)
  | 5 => ("SetAgain$Law", "stack", "[I", true)
  | 6 => ("SetAgain$Law", "at", "I", false)
  | 7 => ("SetAgain$Law", "fault", "I", false)
  | 8 => ("SetAgain$Law", "drafted", "I", false)
  | _ => ("SetAgain$Law", "coded", "I", false)
def tyX5 : Nat → FieldType := fun k => match k with
  | 0 => .array .int
  | 1 => .int
  | 2 => .boolean
  | 3 => .array .int
  | 4 => .array .int
  | 5 => .array .int
  | 6 => .int
  | 7 => .int
  | 8 => .int
  | _ => .int
abbrev wsX50 : List Cond := u_ws RX5 TX5 10
theorem nmX5 : ∀ a, a < 10 → ∀ b, b < 10 → a ≠ b → (TX5 a).2.1 ≠ (TX5 b).2.1 := by decide +kernel
theorem tyX5_ok : ∀ k, k < 10 → parseFieldDescriptor (TX5 k).2.2.1 = some (tyX5 k) := by decide +kernel
abbrev cX5_takes : ByteArray := prog_7_method_2_code
def yX5_takes : MethodName := ⟨RX5, "takes", "(I)I"⟩
abbrev cX5_isRead : ByteArray := prog_7_method_3_code
def yX5_isRead : MethodName := ⟨RX5, "isRead", "()I"⟩
abbrev cX5_lines : ByteArray := prog_7_method_4_code
def yX5_lines : MethodName := ⟨RX5, "lines", "()V"⟩
abbrev cX5_line : ByteArray := prog_7_method_5_code
def yX5_line : MethodName := ⟨RX5, "line", "()V"⟩
abbrev cX5_either : ByteArray := prog_7_method_6_code
def yX5_either : MethodName := ⟨RX5, "either", "(I)V"⟩
abbrev cX5_both : ByteArray := prog_7_method_7_code
def yX5_both : MethodName := ⟨RX5, "both", "(I)V"⟩
abbrev cX5_compared : ByteArray := prog_7_method_8_code
def yX5_compared : MethodName := ⟨RX5, "compared", "(I)V"⟩
abbrev cX5_sum : ByteArray := prog_7_method_9_code
def yX5_sum : MethodName := ⟨RX5, "sum", "(I)V"⟩
abbrev cX5_product : ByteArray := prog_7_method_10_code
def yX5_product : MethodName := ⟨RX5, "product", "(I)V"⟩
abbrev cX5_operand : ByteArray := prog_7_method_11_code
def yX5_operand : MethodName := ⟨RX5, "operand", "(I)V"⟩
abbrev cX5_opened : ByteArray := prog_7_method_12_code
def yX5_opened : MethodName := ⟨RX5, "opened", "(II)V"⟩
abbrev cX5_number : ByteArray := prog_7_method_13_code
def yX5_number : MethodName := ⟨RX5, "number", "()V"⟩
abbrev cX5_isDigit : ByteArray := prog_7_method_14_code
def yX5_isDigit : MethodName := ⟨RX5, "isDigit", "(I)Z"⟩
abbrev cX5_isName : ByteArray := prog_7_method_15_code
def yX5_isName : MethodName := ⟨RX5, "isName", "(I)Z"⟩
abbrev cX5_next : ByteArray := prog_7_method_16_code
def yX5_next : MethodName := ⟨RX5, "next", "()I"⟩
abbrev cX5_fail : ByteArray := prog_7_method_17_code
def yX5_fail : MethodName := ⟨RX5, "fail", "()V"⟩
abbrev cX5_write : ByteArray := prog_7_method_18_code
def yX5_write : MethodName := ⟨RX5, "write", "(I)V"⟩
abbrev cX5_valueOf : ByteArray := prog_7_method_19_code
def yX5_valueOf : MethodName := ⟨RX5, "valueOf", "(IIII)I"⟩
abbrev cX5_operands : ByteArray := prog_7_method_20_code
def yX5_operands : MethodName := ⟨RX5, "operands", "(I)I"⟩
abbrev cX5_named : ByteArray := prog_7_method_21_code
def yX5_named : MethodName := ⟨RX5, "named", "(IIIII)I"⟩
abbrev cX5_worked : ByteArray := prog_7_method_22_code
def yX5_worked : MethodName := ⟨RX5, "worked", "(III)I"⟩
def RX6 : String := "SetAgain$Seen"
def TX6 : u_T := fun k => match k with
  | 0 => ("SetAgain$Seen", "chair", "LSetAgain$Chair;", true)
  | 1 => ("SetAgain$Seen", "row", "LSetAgain$Shelf;", false)
  | _ => ("SetAgain$Seen", "part", "I", false)
abbrev wsX60 : List Cond := u_ws RX6 TX6 3
abbrev cX6_mayHaveSat : ByteArray := prog_8_method_2_code
def yX6_mayHaveSat : MethodName := ⟨RX6, "mayHaveSat", "(LSetAgain$Shelf;II)I"⟩
abbrev cX6_reachedAhead : ByteArray := prog_8_method_3_code
def yX6_reachedAhead : MethodName := ⟨RX6, "reachedAhead", "(I)J"⟩
abbrev cX6_fittingBehind : ByteArray := prog_8_method_4_code
def yX6_fittingBehind : MethodName := ⟨RX6, "fittingBehind", "(I)J"⟩
abbrev cX6_asSeen : ByteArray := prog_8_method_5_code
def yX6_asSeen : MethodName := ⟨RX6, "asSeen", "(I)J"⟩
abbrev cX6_allBehind : ByteArray := prog_8_method_6_code
def yX6_allBehind : MethodName := ⟨RX6, "allBehind", "(JI)J"⟩
abbrev cX6_allAhead : ByteArray := prog_8_method_7_code
def yX6_allAhead : MethodName := ⟨RX6, "allAhead", "(J)J"⟩
abbrev cX6_behindShift : ByteArray := prog_8_method_8_code
def yX6_behindShift : MethodName := ⟨RX6, "behindShift", "(II)I"⟩
def RX7 : String := "SetAgain$Shelf"
def TX7 : u_T := fun k => match k with
  | 0 => ("SetAgain$Shelf", "elements", "[J", true)
  | 1 => ("SetAgain$Shelf", "sort", "I", false)
  | 2 => ("SetAgain$Shelf", "length", "I", false)
  | _ => ("SetAgain$Shelf", "desk", "I", false)
def tyX7 : Nat → FieldType := fun k => match k with
  | 0 => .array .long
  | 1 => .int
  | 2 => .int
  | _ => .int
abbrev wsX70 : List Cond := u_ws RX7 TX7 4
theorem nmX7 : ∀ a, a < 4 → ∀ b, b < 4 → a ≠ b → (TX7 a).2.1 ≠ (TX7 b).2.1 := by decide +kernel
theorem tyX7_ok : ∀ k, k < 4 → parseFieldDescriptor (TX7 k).2.2.1 = some (tyX7 k) := by decide +kernel
abbrev cX7_takesDesk : ByteArray := prog_9_method_2_code
def yX7_takesDesk : MethodName := ⟨RX7, "takesDesk", "(I)V"⟩
abbrev cX7_takesRow : ByteArray := prog_9_method_3_code
def yX7_takesRow : MethodName := ⟨RX7, "takesRow", "(II)V"⟩
abbrev cX7_isRow : ByteArray := prog_9_method_4_code
def yX7_isRow : MethodName := ⟨RX7, "isRow", "()Z"⟩
abbrev cX7_hasPlaces : ByteArray := prog_9_method_5_code
def yX7_hasPlaces : MethodName := ⟨RX7, "hasPlaces", "(II)Z"⟩
abbrev cX7_cut : ByteArray := prog_9_method_6_code
def yX7_cut : MethodName := ⟨RX7, "cut", "(J)J"⟩
def RX8 : String := "SetAgain$Still"
def TX8 : u_T := fun k => match k with
  | 0 => ("SetAgain$Still", "chair", "LSetAgain$Chair;", true)
  | 1 => ("SetAgain$Still", "week", "LSetAgain$Week;", true)
  | 2 => ("SetAgain$Still", "weight", "[I", true)
  | 3 => ("SetAgain$Still", "wanted", "[Z", true)
  | 4 => ("SetAgain$Still", "ones", "[I", true)
  | 5 => ("SetAgain$Still", "sums", "[I", true)
  | 6 => ("SetAgain$Still", "leasts", "[I", true)
  | 7 => ("SetAgain$Still", "group", "[I", true)
  | 8 => ("SetAgain$Still", "bestGroup", "[I", true)
  | 9 => ("SetAgain$Still", "sitting", "I", false)
  | 10 => ("SetAgain$Still", "free", "I", false)
  | 11 => ("SetAgain$Still", "least", "I", false)
  | _ => ("SetAgain$Still", "found", "Z", false)
abbrev wsX80 : List Cond := u_ws RX8 TX8 13
abbrev cX8_allLosses : ByteArray := prog_10_method_2_code
def yX8_allLosses : MethodName := ⟨RX8, "allLosses", "(II)I"⟩
abbrev cX8_worstLoss : ByteArray := prog_10_method_3_code
def yX8_worstLoss : MethodName := ⟨RX8, "worstLoss", "(II)I"⟩
abbrev cX8_bestOf : ByteArray := prog_10_method_4_code
def yX8_bestOf : MethodName := ⟨RX8, "bestOf", "(II)I"⟩
abbrev cX8_middleWant : ByteArray := prog_10_method_5_code
def yX8_middleWant : MethodName := ⟨RX8, "middleWant", "(I)I"⟩
abbrev cX8_weighWants : ByteArray := prog_10_method_6_code
def yX8_weighWants : MethodName := ⟨RX8, "weighWants", "(I)I"⟩
abbrev cX8_parted : ByteArray := prog_10_method_7_code
def yX8_parted : MethodName := ⟨RX8, "parted", "(III)I"⟩
abbrev cX8_gather : ByteArray := prog_10_method_8_code
def yX8_gather : MethodName := ⟨RX8, "gather", "()V"⟩
abbrev cX8_sumGroups : ByteArray := prog_10_method_9_code
def yX8_sumGroups : MethodName := ⟨RX8, "sumGroups", "(I)V"⟩
abbrev cX8_sumGroupsUpTo : ByteArray := prog_10_method_10_code
def yX8_sumGroupsUpTo : MethodName := ⟨RX8, "sumGroupsUpTo", "(IIZ)V"⟩
abbrev cX8_part : ByteArray := prog_10_method_11_code
def yX8_part : MethodName := ⟨RX8, "part", "(I)V"⟩
abbrev cX8_weigh : ByteArray := prog_10_method_12_code
def yX8_weigh : MethodName := ⟨RX8, "weigh", "()V"⟩
abbrev cX8_chairOf : ByteArray := prog_10_method_13_code
def yX8_chairOf : MethodName := ⟨RX8, "chairOf", "(I)I"⟩
def RX9 : String := "SetAgain$Turning"
def TX9 : u_T := fun k => match k with
  | 0 => ("SetAgain$Turning", "chair", "LSetAgain$Chair;", true)
  | 1 => ("SetAgain$Turning", "week", "LSetAgain$Week;", true)
  | _ => ("SetAgain$Turning", "ahead", "[I", true)
abbrev wsX90 : List Cond := u_ws RX9 TX9 3
abbrev cX9_shiftByShift : ByteArray := prog_11_method_2_code
def yX9_shiftByShift : MethodName := ⟨RX9, "shiftByShift", "(II)I"⟩
abbrev cX9_pay : ByteArray := prog_11_method_3_code
def yX9_pay : MethodName := ⟨RX9, "pay", "(IZ)V"⟩
abbrev cX9_unturned : ByteArray := prog_11_method_4_code
def yX9_unturned : MethodName := ⟨RX9, "unturned", "(III)I"⟩
abbrev cX9_spread : ByteArray := prog_11_method_5_code
def yX9_spread : MethodName := ⟨RX9, "spread", "(II)V"⟩
abbrev cX9_leastSetting : ByteArray := prog_11_method_6_code
def yX9_leastSetting : MethodName := ⟨RX9, "leastSetting", "(III)I"⟩
abbrev cX9_oneTurning : ByteArray := prog_11_method_7_code
def yX9_oneTurning : MethodName := ⟨RX9, "oneTurning", "(II)I"⟩
def RX10 : String := "SetAgain$Week"
def TX10 : u_T := fun k => match k with
  | 0 => ("SetAgain$Week", "sitters", "[I", true)
  | 1 => ("SetAgain$Week", "times", "[I", true)
  | 2 => ("SetAgain$Week", "length", "I", false)
  | _ => ("SetAgain$Week", "sat", "I", false)
abbrev wsX100 : List Cond := u_ws RX10 TX10 4
abbrev cX10_reads : ByteArray := prog_12_method_2_code
def yX10_reads : MethodName := ⟨RX10, "reads", "(LSetAgain$Shelf;I)V"⟩
def RX11 : String := "SetAgain"
def TX11 : u_T := fun k => match k with
  | 0 => ("SetAgain", "chair", "LSetAgain$Chair;", true)
  | 1 => ("SetAgain", "week", "LSetAgain$Week;", true)
  | 2 => ("SetAgain", "habits", "LSetAgain$Habits;", true)
  | 3 => ("SetAgain", "still", "LSetAgain$Still;", true)
  | 4 => ("SetAgain", "turning", "LSetAgain$Turning;", true)
  | 5 => ("SetAgain", "seen", "LSetAgain$Seen;", true)
  | 6 => ("SetAgain", "deed", "LSetAgain$Deed;", true)
  | 7 => ("SetAgain", "changes", "LSetAgain$Changes;", true)
  | 8 => ("SetAgain", "desks", "LSetAgain$Desks;", true)
  | _ => ("SetAgain", "shelves", "[LSetAgain$Shelf;", true)
abbrev wsX110 : List Cond := u_ws RX11 TX11 10
abbrev cX11_sitter : ByteArray := prog_1_method_2_code
def yX11_sitter : MethodName := ⟨RX11, "sitter", "(II)I"⟩
abbrev cX11_sitters : ByteArray := prog_1_method_3_code
def yX11_sitters : MethodName := ⟨RX11, "sitters", "(III)I"⟩
abbrev cX11_mend : ByteArray := prog_1_method_4_code
def yX11_mend : MethodName := ⟨RX11, "mend", "(III)I"⟩
abbrev cX11_of : ByteArray := prog_1_method_5_code
def yX11_of : MethodName := ⟨RX11, "of", "(II)I"⟩
abbrev cX11_feed : ByteArray := prog_1_method_6_code
def yX11_feed : MethodName := ⟨RX11, "feed", "(I)I"⟩
abbrev cX11_law : ByteArray := prog_1_method_7_code
def yX11_law : MethodName := ⟨RX11, "law", "()I"⟩
abbrev cX11_loss : ByteArray := prog_1_method_8_code
def yX11_loss : MethodName := ⟨RX11, "loss", "(III)I"⟩
abbrev cX11_never : ByteArray := prog_1_method_9_code
def yX11_never : MethodName := ⟨RX11, "never", "(III)I"⟩
abbrev cX11_best : ByteArray := prog_1_method_10_code
def yX11_best : MethodName := ⟨RX11, "best", "(III)I"⟩
abbrev cX11_middle : ByteArray := prog_1_method_11_code
def yX11_middle : MethodName := ⟨RX11, "middle", "(II)I"⟩
abbrev cX11_shifts : ByteArray := prog_1_method_12_code
def yX11_shifts : MethodName := ⟨RX11, "shifts", "(III)I"⟩
abbrev cX11_once : ByteArray := prog_1_method_13_code
def yX11_once : MethodName := ⟨RX11, "once", "(III)I"⟩
abbrev cX11_week : ByteArray := prog_1_method_14_code
def yX11_week : MethodName := ⟨RX11, "week", "(II)I"⟩
abbrev cX11_stands : ByteArray := prog_1_method_15_code
def yX11_stands : MethodName := ⟨RX11, "stands", "(III)I"⟩
abbrev cX11_pays : ByteArray := prog_1_method_16_code
def yX11_pays : MethodName := ⟨RX11, "pays", "(III)I"⟩
abbrev cX11_memories : ByteArray := prog_1_method_17_code
def yX11_memories : MethodName := ⟨RX11, "memories", "(III)I"⟩
abbrev cX11_marked : ByteArray := prog_1_method_18_code
def yX11_marked : MethodName := ⟨RX11, "marked", "(I)I"⟩
abbrev cX11_chairs : ByteArray := prog_1_method_19_code
def yX11_chairs : MethodName := ⟨RX11, "chairs", "(III)I"⟩
abbrev cX11_wilful : ByteArray := prog_1_method_20_code
def yX11_wilful : MethodName := ⟨RX11, "wilful", "(III)I"⟩
abbrev cX11_who : ByteArray := prog_1_method_21_code
def yX11_who : MethodName := ⟨RX11, "who", "(III)I"⟩
abbrev cX11_judge : ByteArray := prog_1_method_22_code
def yX11_judge : MethodName := ⟨RX11, "judge", "(II)I"⟩
abbrev cX11_drawn : ByteArray := prog_1_method_23_code
def yX11_drawn : MethodName := ⟨RX11, "drawn", "(IIII)I"⟩
abbrev cX11_sit : ByteArray := prog_1_method_24_code
def yX11_sit : MethodName := ⟨RX11, "sit", "(I)I"⟩
abbrev cX11_set : ByteArray := prog_1_method_25_code
def yX11_set : MethodName := ⟨RX11, "set", "(II)I"⟩
abbrev cX11_night : ByteArray := prog_1_method_26_code
def yX11_night : MethodName := ⟨RX11, "night", "()I"⟩
abbrev cX11_led : ByteArray := prog_1_method_27_code
def yX11_led : MethodName := ⟨RX11, "led", "(I)I"⟩
abbrev cX11_image : ByteArray := prog_1_method_28_code
def yX11_image : MethodName := ⟨RX11, "image", "()I"⟩
abbrev cX11_back : ByteArray := prog_1_method_29_code
def yX11_back : MethodName := ⟨RX11, "back", "()I"⟩
abbrev cX11_undo : ByteArray := prog_1_method_30_code
def yX11_undo : MethodName := ⟨RX11, "undo", "()I"⟩
abbrev cX11_redo : ByteArray := prog_1_method_31_code
def yX11_redo : MethodName := ⟨RX11, "redo", "()I"⟩
abbrev cX11_body : ByteArray := prog_1_method_32_code
def yX11_body : MethodName := ⟨RX11, "body", "(I)I"⟩
abbrev cX11_act : ByteArray := prog_1_method_33_code
def yX11_act : MethodName := ⟨RX11, "act", "(III)I"⟩
abbrev cX11_trace : ByteArray := prog_1_method_34_code
def yX11_trace : MethodName := ⟨RX11, "trace", "(I)I"⟩
abbrev cX11_keep : ByteArray := prog_1_method_35_code
def yX11_keep : MethodName := ⟨RX11, "keep", "(II)I"⟩
abbrev cX11_row : ByteArray := prog_1_method_36_code
def yX11_row : MethodName := ⟨RX11, "row", "(III)I"⟩
abbrev cX11_put : ByteArray := prog_1_method_37_code
def yX11_put : MethodName := ⟨RX11, "put", "(IIJ)I"⟩
abbrev cX11_element : ByteArray := prog_1_method_38_code
def yX11_element : MethodName := ⟨RX11, "element", "(II)J"⟩
abbrev cX11_shift : ByteArray := prog_1_method_39_code
def yX11_shift : MethodName := ⟨RX11, "shift", "(IIIII)I"⟩
abbrev cX11_taken : ByteArray := prog_1_method_40_code
def yX11_taken : MethodName := ⟨RX11, "taken", "(II)I"⟩
abbrev cX11_count : ByteArray := prog_1_method_41_code
def yX11_count : MethodName := ⟨RX11, "count", "(I)I"⟩
abbrev cX11_isPart : ByteArray := prog_1_method_42_code
def yX11_isPart : MethodName := ⟨RX11, "isPart", "(I)Z"⟩
abbrev cX11_isSetting : ByteArray := prog_1_method_43_code
def yX11_isSetting : MethodName := ⟨RX11, "isSetting", "(I)Z"⟩
abbrev cX11_isShelf : ByteArray := prog_1_method_44_code
def yX11_isShelf : MethodName := ⟨RX11, "isShelf", "(I)Z"⟩
abbrev cX11_isKind : ByteArray := prog_1_method_45_code
def yX11_isKind : MethodName := ⟨RX11, "isKind", "(I)Z"⟩
abbrev cX11_fits : ByteArray := prog_1_method_46_code
def yX11_fits : MethodName := ⟨RX11, "fits", "(II)Z"⟩
abbrev cX11_refusalOf : ByteArray := prog_1_method_47_code
def yX11_refusalOf : MethodName := ⟨RX11, "refusalOf", "(I)I"⟩
abbrev cX11_readWeek : ByteArray := prog_1_method_48_code
def yX11_readWeek : MethodName := ⟨RX11, "readWeek", "(I)I"⟩
abbrev cX11_refusalAt : ByteArray := prog_1_method_49_code
def yX11_refusalAt : MethodName := ⟨RX11, "refusalAt", "(II)I"⟩
abbrev cX11_fromRow : ByteArray := prog_1_method_50_code
def yX11_fromRow : MethodName := ⟨RX11, "fromRow", "(LSetAgain$Shelf;II)I"⟩
abbrev cX11_comesFrom : ByteArray := prog_1_method_51_code
def yX11_comesFrom : MethodName := ⟨RX11, "comesFrom", "(LSetAgain$Shelf;I)Z"⟩
abbrev cX11_firstUnlike : ByteArray := prog_1_method_52_code
def yX11_firstUnlike : MethodName := ⟨RX11, "firstUnlike", "(LSetAgain$Shelf;I)I"⟩
def RX12 : String := "SetAgainModel"
def TX12 : u_T := fun k => match k with
  | 0 => ("SetAgainModel", "may", "[I", true)
  | 1 => ("SetAgainModel", "changeAt", "[I", true)
  | 2 => ("SetAgainModel", "changeWas", "[I", true)
  | 3 => ("SetAgainModel", "changeIs", "[I", true)
  | 4 => ("SetAgainModel", "keptMany", "I", false)
  | 5 => ("SetAgainModel", "done", "I", false)
  | 6 => ("SetAgainModel", "sitters", "I", false)
  | 7 => ("SetAgainModel", "stands", "[I", true)
  | 8 => ("SetAgainModel", "tape", "[I", true)
  | 9 => ("SetAgainModel", "tapeMany", "I", false)
  | 10 => ("SetAgainModel", "text", "[I", true)
  | 11 => ("SetAgainModel", "textMany", "I", false)
  | 12 => ("SetAgainModel", "base", "I", false)
  | 13 => ("SetAgainModel", "at", "I", false)
  | 14 => ("SetAgainModel", "ends", "I", false)
  | 15 => ("SetAgainModel", "fault", "I", false)
  | 16 => ("SetAgainModel", "opened", "I", false)
  | 17 => ("SetAgainModel", "names", "[I", true)
  | 18 => ("SetAgainModel", "lossIn", "[I", true)
  | 19 => ("SetAgainModel", "leastFrom", "[I", true)
  | 20 => ("SetAgainModel", "nearOf", "I", false)
  | 21 => ("SetAgainModel", "nearIs", "I", false)
  | 22 => ("SetAgainModel", "memorySet", "I", false)
  | 23 => ("SetAgainModel", "isMarked", "Z", false)
  | 24 => ("SetAgainModel", "wilfulOf", "I", false)
  | 25 => ("SetAgainModel", "wilfulTo", "I", false)
  | 26 => ("SetAgainModel", "isIll", "[Z", true)
  | 27 => ("SetAgainModel", "stand1", "[I", true)
  | 28 => ("SetAgainModel", "standBehind", "[I", true)
  | 29 => ("SetAgainModel", "turnsAll", "I", false)
  | 30 => ("SetAgainModel", "lossesAll", "I", false)
  | 31 => ("SetAgainModel", "turnCosts", "I", false)
  | 32 => ("SetAgainModel", "lossAt", "[I", true)
  | 33 => ("SetAgainModel", "chairOf", "[I", true)
  | 34 => ("SetAgainModel", "bestChair", "[I", true)
  | 35 => ("SetAgainModel", "leastChairs", "I", false)
  | 36 => ("SetAgainModel", "canStand", "[Z", true)
  | 37 => ("SetAgainModel", "canGoOn", "[Z", true)
  | 38 => ("SetAgainModel", "ledShifts", "I", false)
  | 39 => ("SetAgainModel", "ledTurns", "I", false)
  | 40 => ("SetAgainModel", "ledLosses", "I", false)
  | 41 => ("SetAgainModel", "ledDearest", "I", false)
  | 42 => ("SetAgainModel", "ledWho", "I", false)
  | 43 => ("SetAgainModel", "isKept", "Z", false)
  | 44 => ("SetAgainModel", "image", "[I", true)
  | 45 => ("SetAgainModel", "bodies", "I", false)
  | 46 => ("SetAgainModel", "bodyKind", "[I", true)
  | 47 => ("SetAgainModel", "trace", "[I", true)
  | 48 => ("SetAgainModel", "ran", "I", false)
  | 49 => ("SetAgainModel", "ownKind", "I", false)
  | 50 => ("SetAgainModel", "ownNumber", "I", false)
  | 51 => ("SetAgainModel", "shelf", "[I", true)
  | 52 => ("SetAgainModel", "many", "[I", true)
  | 53 => ("SetAgainModel", "items", "[J", true)
  | _ => ("SetAgainModel", "carried", "[J", true)
def RJ6 : String := "java/lang/Integer"
abbrev cJ6_bitCount_0f7a4 : ByteArray := prog_15_method_49_code
def yJ6_bitCount_0f7a4 : MethodName := ⟨RJ6, "bitCount", "(I)I"⟩
def wsX0_has : List Cond := .code yX0_has cX0_has 2 (some .boolean) :: ([.fieldLink RX0 28 "SetAgain$Chair" "sitters" "I"] ++ wsX00)
def wsX0_placeOf : List Cond := .code yX0_placeOf cX0_placeOf 3 (some .int) :: ([.fieldLink RX0 28 "SetAgain$Chair" "sitters" "I"] ++ wsX00)
def wsX0_forget : List Cond := .code yX0_forget cX0_forget 4 none :: ([.fieldLink RX0 25 "SetAgain$Chair" "lost" "[I"] ++ wsX00)
def wsX0_comes : List Cond := .code yX0_comes cX0_comes 6 (some .int) :: ([.fieldLink RX0 28 "SetAgain$Chair" "sitters" "I", .fieldLink RX0 11 "SetAgain$Chair" "told" "[I", .methodLink RX0 32 yX0_forget, .instanceMethod yX0_forget, .selects RX0 yX0_forget yX0_forget, .initialized RX0, .code yX0_forget cX0_forget 4 none, .fieldLink RX0 25 "SetAgain$Chair" "lost" "[I"] ++ wsX00)
def wsX0_becomes : List Cond := .code yX0_becomes cX0_becomes 3 none :: ([.fieldLink RX0 11 "SetAgain$Chair" "told" "[I", .methodLink RX0 32 yX0_forget, .instanceMethod yX0_forget, .selects RX0 yX0_forget yX0_forget, .initialized RX0, .code yX0_forget cX0_forget 4 none, .fieldLink RX0 25 "SetAgain$Chair" "lost" "[I"] ++ wsX00)
def wsX0_slipped : List Cond := .code yX0_slipped cX0_slipped 3 (some .int) :: ([.fieldLink RX0 11 "SetAgain$Chair" "told" "[I", .methodLink RX0 36 Lib.Math.max.name, .static Lib.Math.max.name, .initialized "java/lang/Math", .code Lib.Math.max.name Lib.Math.max.code 2 (some .int)] ++ wsX00)
def wsX1_comes : List Cond := .code yX1_comes cX1_comes 4 none :: ([.fieldLink RX1 19 "SetAgain$Changes" "done" "I", .fieldLink RX1 9 "SetAgain$Changes" "places" "[I", .fieldLink RX1 13 "SetAgain$Changes" "before" "[I", .fieldLink RX1 16 "SetAgain$Changes" "after" "[I", .fieldLink RX1 26 "SetAgain$Changes" "kept" "I", .methodLink RX1 23 yX1_dropOldest, .instanceMethod yX1_dropOldest, .selects RX1 yX1_dropOldest yX1_dropOldest, .initialized RX1, .code yX1_dropOldest cX1_dropOldest 1 none, .methodLink RX1 29 arraycopyName, .native arraycopyName, .static arraycopyName, .initialized "java/lang/System"] ++ wsX10)
def wsX2_turns : List Cond := .code yX2_turns cX2_turns 4 (some .int) :: ([.fieldLink RX2 21 "SetAgain$Deed" "chair" "LSetAgain$Chair;", .fieldLink RX2 41 "SetAgain$Chair" "stands" "[I", .methodLink RX2 63 Lib.Math.abs.name, .static Lib.Math.abs.name, .initialized "java/lang/Math", .code Lib.Math.abs.name Lib.Math.abs.code 1 (some .int), .fieldLink RX2 11 "SetAgain$Deed" "told" "[I"] ++ wsX20 ++ wsX00)
def wsX2_allSlip : List Cond := .code yX2_allSlip cX2_allSlip 4 (some .int) :: ([.fieldLink RX2 21 "SetAgain$Deed" "chair" "LSetAgain$Chair;", .fieldLink RX2 41 "SetAgain$Chair" "stands" "[I", .methodLink RX2 69 yX0_slipped, .instanceMethod yX0_slipped, .selects RX0 yX0_slipped yX0_slipped, .initialized RX0, .code yX0_slipped cX0_slipped 3 (some .int), .fieldLink RX0 11 "SetAgain$Chair" "told" "[I", .methodLink RX0 36 Lib.Math.max.name, .static Lib.Math.max.name, .initialized "java/lang/Math", .code Lib.Math.max.name Lib.Math.max.code 2 (some .int)] ++ wsX20 ++ wsX00)
def wsX2_keepImage : List Cond := .code yX2_keepImage cX2_keepImage 1 (some .int) :: ([.fieldLink RX2 11 "SetAgain$Deed" "told" "[I", .fieldLink RX2 15 "SetAgain$Deed" "keptTold" "[I", .methodLink RX2 46 arraycopyName, .native arraycopyName, .static arraycopyName, .initialized "java/lang/System", .fieldLink RX2 21 "SetAgain$Deed" "chair" "LSetAgain$Chair;", .fieldLink RX2 41 "SetAgain$Chair" "stands" "[I", .fieldLink RX2 18 "SetAgain$Deed" "keptStands" "[I", .fieldLink RX2 73 "SetAgain$Deed" "kept" "Z"] ++ wsX20 ++ wsX00)
def wsX2_layBack : List Cond := .code yX2_layBack cX2_layBack 1 (some .int) :: ([.fieldLink RX2 73 "SetAgain$Deed" "kept" "Z", .fieldLink RX2 15 "SetAgain$Deed" "keptTold" "[I", .fieldLink RX2 11 "SetAgain$Deed" "told" "[I", .methodLink RX2 46 arraycopyName, .native arraycopyName, .static arraycopyName, .initialized "java/lang/System", .fieldLink RX2 18 "SetAgain$Deed" "keptStands" "[I", .fieldLink RX2 21 "SetAgain$Deed" "chair" "LSetAgain$Chair;", .fieldLink RX2 41 "SetAgain$Chair" "stands" "[I"] ++ wsX20 ++ wsX00)
def wsX3_comes : List Cond := .code yX3_comes cX3_comes 2 (some .int) :: ([.fieldLink RX3 18 "SetAgain$Desks" "kept" "I", .fieldLink RX3 9 "SetAgain$Desks" "kinds" "[I"] ++ wsX30)
def wsX3_acts : List Cond := .code yX3_acts cX3_acts 4 (some .int) :: ([.fieldLink RX3 25 "SetAgain$Desks" "ran" "I", .fieldLink RX3 18 "SetAgain$Desks" "kept" "I", .fieldLink RX3 9 "SetAgain$Desks" "kinds" "[I", .fieldLink RX3 28 "SetAgain$Desks" "kind" "I", .fieldLink RX3 31 "SetAgain$Desks" "number" "I", .methodLink RX3 34 yX3_does, .instanceMethod yX3_does, .selects RX3 yX3_does yX3_does, .initialized RX3, .code yX3_does cX3_does 7 (some .int), .fieldLink RX3 42 "SetAgain$Desks" "OWN" "[I", .fieldLink RX3 15 "SetAgain$Desks" "trace" "[I", .fieldLink RX3 22 "SetAgain$Desks" "ABOVE" "[I", .methodLink RX3 38 yX3_ownerOf, .static yX3_ownerOf, .code yX3_ownerOf cX3_ownerOf 4 (some .int), .methodLink RX3 45 yX3_runs, .instanceMethod yX3_runs, .selects RX3 yX3_runs yX3_runs, .code yX3_runs cX3_runs 5 (some .int)] ++ wsX30)
def wsX5_takes : List Cond := .code yX5_takes cX5_takes 2 (some .int) :: ([.fieldLink RX5 24 "SetAgain$Law" "length" "I", .fieldLink RX5 11 "SetAgain$Law" "tape" "[I"] ++ wsX50)
def wsX5_next : List Cond := .code yX5_next cX5_next 1 (some .int) :: ([.fieldLink RX5 31 "SetAgain$Law" "fault" "I", .fieldLink RX5 28 "SetAgain$Law" "at" "I", .fieldLink RX5 24 "SetAgain$Law" "length" "I", .fieldLink RX5 11 "SetAgain$Law" "tape" "[I"] ++ wsX50)
def wsX5_write : List Cond := .code yX5_write cX5_write 2 none :: ([.fieldLink RX5 34 "SetAgain$Law" "drafted" "I", .fieldLink RX5 15 "SetAgain$Law" "draft" "[I"] ++ wsX50)
def wsX5_fail : List Cond := .code yX5_fail cX5_fail 1 none :: ([.fieldLink RX5 31 "SetAgain$Law" "fault" "I", .fieldLink RX5 28 "SetAgain$Law" "at" "I"] ++ wsX50)
def wsX5_isDigit : List Cond := .code yX5_isDigit cX5_isDigit 1 (some .boolean) :: ([])
def wsX5_isName : List Cond := .code yX5_isName cX5_isName 1 (some .boolean) :: ([])
def wsX5_both_r1 : List Cond := [Cond.fieldLink RX5 28 "SetAgain$Law" "at" "I", Cond.methodLink RX5 73 yX5_compared, Cond.instanceMethod yX5_compared, Cond.selects RX5 yX5_compared yX5_compared, Cond.initialized RX5, Cond.methodLink RX5 56 yX5_next, Cond.instanceMethod yX5_next, Cond.selects RX5 yX5_next yX5_next, Cond.code yX5_next cX5_next 1 (some .int), Cond.fieldLink RX5 31 "SetAgain$Law" "fault" "I", Cond.fieldLink RX5 24 "SetAgain$Law" "length" "I", Cond.fieldLink RX5 11 "SetAgain$Law" "tape" "[I", Cond.methodLink RX5 67 yX5_write, Cond.instanceMethod yX5_write, Cond.selects RX5 yX5_write yX5_write, Cond.code yX5_write cX5_write 2 none, Cond.fieldLink RX5 34 "SetAgain$Law" "drafted" "I", Cond.fieldLink RX5 15 "SetAgain$Law" "draft" "[I", Cond.code yX5_compared cX5_compared 3 none, Cond.methodLink RX5 76 yX5_sum, Cond.instanceMethod yX5_sum, Cond.selects RX5 yX5_sum yX5_sum, Cond.code yX5_either cX5_either 3 none, Cond.methodLink RX5 70 yX5_both]
def wsX5_both_r2 : List Cond := [Cond.instanceMethod yX5_both, Cond.selects RX5 yX5_both yX5_both, Cond.code yX5_opened cX5_opened 3 none, Cond.methodLink RX5 82 yX5_operand, Cond.instanceMethod yX5_operand, Cond.selects RX5 yX5_operand yX5_operand, Cond.methodLink RX5 63 yX5_either, Cond.instanceMethod yX5_either, Cond.selects RX5 yX5_either yX5_either, Cond.methodLink RX5 60 yX5_fail, Cond.instanceMethod yX5_fail, Cond.selects RX5 yX5_fail yX5_fail, Cond.code yX5_fail cX5_fail 1 none, Cond.code yX5_operand cX5_operand 3 none, Cond.methodLink RX5 85 yX5_isDigit, Cond.static yX5_isDigit, Cond.code yX5_isDigit cX5_isDigit 1 (some .boolean), Cond.methodLink RX5 89 yX5_number, Cond.instanceMethod yX5_number, Cond.selects RX5 yX5_number yX5_number, Cond.code yX5_number cX5_number 3 none, Cond.methodLink RX5 92 yX5_isName, Cond.static yX5_isName, Cond.code yX5_isName cX5_isName 1 (some .boolean)]
def wsX5_both_r3 : List Cond := [Cond.methodLink RX5 95 yX5_opened, Cond.instanceMethod yX5_opened, Cond.selects RX5 yX5_opened yX5_opened, Cond.code yX5_product cX5_product 4 none, Cond.code yX5_sum cX5_sum 4 none, Cond.methodLink RX5 79 yX5_product, Cond.instanceMethod yX5_product, Cond.selects RX5 yX5_product yX5_product]
def wsX5_both : List Cond := .code yX5_both cX5_both 3 none :: ((wsX5_both_r1 ++ (wsX5_both_r2 ++ wsX5_both_r3)) ++ wsX50)
def wsX5_compared_r1 : List Cond := [Cond.fieldLink RX5 28 "SetAgain$Law" "at" "I", Cond.methodLink RX5 76 yX5_sum, Cond.instanceMethod yX5_sum, Cond.selects RX5 yX5_sum yX5_sum, Cond.initialized RX5, Cond.methodLink RX5 56 yX5_next, Cond.instanceMethod yX5_next, Cond.selects RX5 yX5_next yX5_next, Cond.code yX5_next cX5_next 1 (some .int), Cond.fieldLink RX5 31 "SetAgain$Law" "fault" "I", Cond.fieldLink RX5 24 "SetAgain$Law" "length" "I", Cond.fieldLink RX5 11 "SetAgain$Law" "tape" "[I", Cond.methodLink RX5 67 yX5_write, Cond.instanceMethod yX5_write, Cond.selects RX5 yX5_write yX5_write, Cond.code yX5_write cX5_write 2 none, Cond.fieldLink RX5 34 "SetAgain$Law" "drafted" "I", Cond.fieldLink RX5 15 "SetAgain$Law" "draft" "[I", Cond.code yX5_both cX5_both 3 none, Cond.methodLink RX5 73 yX5_compared, Cond.instanceMethod yX5_compared, Cond.selects RX5 yX5_compared yX5_compared, Cond.code yX5_either cX5_either 3 none, Cond.methodLink RX5 70 yX5_both]
def wsX5_compared_r2 : List Cond := [Cond.instanceMethod yX5_both, Cond.selects RX5 yX5_both yX5_both, Cond.code yX5_opened cX5_opened 3 none, Cond.methodLink RX5 82 yX5_operand, Cond.instanceMethod yX5_operand, Cond.selects RX5 yX5_operand yX5_operand, Cond.methodLink RX5 63 yX5_either, Cond.instanceMethod yX5_either, Cond.selects RX5 yX5_either yX5_either, Cond.methodLink RX5 60 yX5_fail, Cond.instanceMethod yX5_fail, Cond.selects RX5 yX5_fail yX5_fail, Cond.code yX5_fail cX5_fail 1 none, Cond.code yX5_operand cX5_operand 3 none, Cond.methodLink RX5 85 yX5_isDigit, Cond.static yX5_isDigit, Cond.code yX5_isDigit cX5_isDigit 1 (some .boolean), Cond.methodLink RX5 89 yX5_number, Cond.instanceMethod yX5_number, Cond.selects RX5 yX5_number yX5_number, Cond.code yX5_number cX5_number 3 none, Cond.methodLink RX5 92 yX5_isName, Cond.static yX5_isName, Cond.code yX5_isName cX5_isName 1 (some .boolean)]
def wsX5_compared_r3 : List Cond := [Cond.methodLink RX5 95 yX5_opened, Cond.instanceMethod yX5_opened, Cond.selects RX5 yX5_opened yX5_opened, Cond.code yX5_product cX5_product 4 none, Cond.code yX5_sum cX5_sum 4 none, Cond.methodLink RX5 79 yX5_product, Cond.instanceMethod yX5_product, Cond.selects RX5 yX5_product yX5_product]
def wsX5_compared : List Cond := .code yX5_compared cX5_compared 3 none :: ((wsX5_compared_r1 ++ (wsX5_compared_r2 ++ wsX5_compared_r3)) ++ wsX50)
def wsX5_either_r1 : List Cond := [Cond.fieldLink RX5 28 "SetAgain$Law" "at" "I", Cond.methodLink RX5 70 yX5_both, Cond.instanceMethod yX5_both, Cond.selects RX5 yX5_both yX5_both, Cond.initialized RX5, Cond.methodLink RX5 56 yX5_next, Cond.instanceMethod yX5_next, Cond.selects RX5 yX5_next yX5_next, Cond.code yX5_next cX5_next 1 (some .int), Cond.fieldLink RX5 31 "SetAgain$Law" "fault" "I", Cond.fieldLink RX5 24 "SetAgain$Law" "length" "I", Cond.fieldLink RX5 11 "SetAgain$Law" "tape" "[I", Cond.methodLink RX5 67 yX5_write, Cond.instanceMethod yX5_write, Cond.selects RX5 yX5_write yX5_write, Cond.code yX5_write cX5_write 2 none, Cond.fieldLink RX5 34 "SetAgain$Law" "drafted" "I", Cond.fieldLink RX5 15 "SetAgain$Law" "draft" "[I", Cond.code yX5_both cX5_both 3 none, Cond.methodLink RX5 73 yX5_compared, Cond.instanceMethod yX5_compared, Cond.selects RX5 yX5_compared yX5_compared, Cond.code yX5_compared cX5_compared 3 none, Cond.methodLink RX5 76 yX5_sum]
def wsX5_either_r2 : List Cond := [Cond.instanceMethod yX5_sum, Cond.selects RX5 yX5_sum yX5_sum, Cond.code yX5_opened cX5_opened 3 none, Cond.methodLink RX5 82 yX5_operand, Cond.instanceMethod yX5_operand, Cond.selects RX5 yX5_operand yX5_operand, Cond.methodLink RX5 63 yX5_either, Cond.instanceMethod yX5_either, Cond.selects RX5 yX5_either yX5_either, Cond.methodLink RX5 60 yX5_fail, Cond.instanceMethod yX5_fail, Cond.selects RX5 yX5_fail yX5_fail, Cond.code yX5_fail cX5_fail 1 none, Cond.code yX5_operand cX5_operand 3 none, Cond.methodLink RX5 85 yX5_isDigit, Cond.static yX5_isDigit, Cond.code yX5_isDigit cX5_isDigit 1 (some .boolean), Cond.methodLink RX5 89 yX5_number, Cond.instanceMethod yX5_number, Cond.selects RX5 yX5_number yX5_number, Cond.code yX5_number cX5_number 3 none, Cond.methodLink RX5 92 yX5_isName, Cond.static yX5_isName, Cond.code yX5_isName cX5_isName 1 (some .boolean)]
def wsX5_either_r3 : List Cond := [Cond.methodLink RX5 95 yX5_opened, Cond.instanceMethod yX5_opened, Cond.selects RX5 yX5_opened yX5_opened, Cond.code yX5_product cX5_product 4 none, Cond.code yX5_sum cX5_sum 4 none, Cond.methodLink RX5 79 yX5_product, Cond.instanceMethod yX5_product, Cond.selects RX5 yX5_product yX5_product]
def wsX5_either : List Cond := .code yX5_either cX5_either 3 none :: ((wsX5_either_r1 ++ (wsX5_either_r2 ++ wsX5_either_r3)) ++ wsX50)
def wsX5_operand_r1 : List Cond := [Cond.fieldLink RX5 28 "SetAgain$Law" "at" "I", Cond.methodLink RX5 56 yX5_next, Cond.instanceMethod yX5_next, Cond.selects RX5 yX5_next yX5_next, Cond.initialized RX5, Cond.code yX5_next cX5_next 1 (some .int), Cond.fieldLink RX5 31 "SetAgain$Law" "fault" "I", Cond.fieldLink RX5 24 "SetAgain$Law" "length" "I", Cond.fieldLink RX5 11 "SetAgain$Law" "tape" "[I", Cond.methodLink RX5 85 yX5_isDigit, Cond.static yX5_isDigit, Cond.code yX5_isDigit cX5_isDigit 1 (some .boolean), Cond.methodLink RX5 89 yX5_number, Cond.instanceMethod yX5_number, Cond.selects RX5 yX5_number yX5_number, Cond.code yX5_number cX5_number 3 none, Cond.methodLink RX5 67 yX5_write, Cond.instanceMethod yX5_write, Cond.selects RX5 yX5_write yX5_write, Cond.code yX5_write cX5_write 2 none, Cond.fieldLink RX5 34 "SetAgain$Law" "drafted" "I", Cond.fieldLink RX5 15 "SetAgain$Law" "draft" "[I", Cond.methodLink RX5 92 yX5_isName, Cond.static yX5_isName]
def wsX5_operand_r2 : List Cond := [Cond.code yX5_isName cX5_isName 1 (some .boolean), Cond.methodLink RX5 60 yX5_fail, Cond.instanceMethod yX5_fail, Cond.selects RX5 yX5_fail yX5_fail, Cond.code yX5_fail cX5_fail 1 none, Cond.methodLink RX5 95 yX5_opened, Cond.instanceMethod yX5_opened, Cond.selects RX5 yX5_opened yX5_opened, Cond.code yX5_both cX5_both 3 none, Cond.methodLink RX5 73 yX5_compared, Cond.instanceMethod yX5_compared, Cond.selects RX5 yX5_compared yX5_compared, Cond.code yX5_compared cX5_compared 3 none, Cond.methodLink RX5 76 yX5_sum, Cond.instanceMethod yX5_sum, Cond.selects RX5 yX5_sum yX5_sum, Cond.code yX5_either cX5_either 3 none, Cond.methodLink RX5 70 yX5_both, Cond.instanceMethod yX5_both, Cond.selects RX5 yX5_both yX5_both, Cond.code yX5_opened cX5_opened 3 none, Cond.methodLink RX5 82 yX5_operand, Cond.instanceMethod yX5_operand, Cond.selects RX5 yX5_operand yX5_operand]
def wsX5_operand_r3 : List Cond := [Cond.methodLink RX5 63 yX5_either, Cond.instanceMethod yX5_either, Cond.selects RX5 yX5_either yX5_either, Cond.code yX5_product cX5_product 4 none, Cond.code yX5_sum cX5_sum 4 none, Cond.methodLink RX5 79 yX5_product, Cond.instanceMethod yX5_product, Cond.selects RX5 yX5_product yX5_product]
def wsX5_operand : List Cond := .code yX5_operand cX5_operand 3 none :: ((wsX5_operand_r1 ++ (wsX5_operand_r2 ++ wsX5_operand_r3)) ++ wsX50)
def wsX5_product_r1 : List Cond := [Cond.fieldLink RX5 28 "SetAgain$Law" "at" "I", Cond.methodLink RX5 82 yX5_operand, Cond.instanceMethod yX5_operand, Cond.selects RX5 yX5_operand yX5_operand, Cond.initialized RX5, Cond.methodLink RX5 56 yX5_next, Cond.instanceMethod yX5_next, Cond.selects RX5 yX5_next yX5_next, Cond.code yX5_next cX5_next 1 (some .int), Cond.fieldLink RX5 31 "SetAgain$Law" "fault" "I", Cond.fieldLink RX5 24 "SetAgain$Law" "length" "I", Cond.fieldLink RX5 11 "SetAgain$Law" "tape" "[I", Cond.methodLink RX5 67 yX5_write, Cond.instanceMethod yX5_write, Cond.selects RX5 yX5_write yX5_write, Cond.code yX5_write cX5_write 2 none, Cond.fieldLink RX5 34 "SetAgain$Law" "drafted" "I", Cond.fieldLink RX5 15 "SetAgain$Law" "draft" "[I", Cond.code yX5_both cX5_both 3 none, Cond.methodLink RX5 73 yX5_compared, Cond.instanceMethod yX5_compared, Cond.selects RX5 yX5_compared yX5_compared, Cond.code yX5_compared cX5_compared 3 none, Cond.methodLink RX5 76 yX5_sum]
def wsX5_product_r2 : List Cond := [Cond.instanceMethod yX5_sum, Cond.selects RX5 yX5_sum yX5_sum, Cond.code yX5_either cX5_either 3 none, Cond.methodLink RX5 70 yX5_both, Cond.instanceMethod yX5_both, Cond.selects RX5 yX5_both yX5_both, Cond.code yX5_opened cX5_opened 3 none, Cond.methodLink RX5 63 yX5_either, Cond.instanceMethod yX5_either, Cond.selects RX5 yX5_either yX5_either, Cond.methodLink RX5 60 yX5_fail, Cond.instanceMethod yX5_fail, Cond.selects RX5 yX5_fail yX5_fail, Cond.code yX5_fail cX5_fail 1 none, Cond.code yX5_operand cX5_operand 3 none, Cond.methodLink RX5 85 yX5_isDigit, Cond.static yX5_isDigit, Cond.code yX5_isDigit cX5_isDigit 1 (some .boolean), Cond.methodLink RX5 89 yX5_number, Cond.instanceMethod yX5_number, Cond.selects RX5 yX5_number yX5_number, Cond.code yX5_number cX5_number 3 none, Cond.methodLink RX5 92 yX5_isName, Cond.static yX5_isName]
def wsX5_product_r3 : List Cond := [Cond.code yX5_isName cX5_isName 1 (some .boolean), Cond.methodLink RX5 95 yX5_opened, Cond.instanceMethod yX5_opened, Cond.selects RX5 yX5_opened yX5_opened, Cond.code yX5_sum cX5_sum 4 none, Cond.methodLink RX5 79 yX5_product, Cond.instanceMethod yX5_product, Cond.selects RX5 yX5_product yX5_product]
def wsX5_product : List Cond := .code yX5_product cX5_product 4 none :: ((wsX5_product_r1 ++ (wsX5_product_r2 ++ wsX5_product_r3)) ++ wsX50)
def wsX5_sum_r1 : List Cond := [Cond.fieldLink RX5 28 "SetAgain$Law" "at" "I", Cond.methodLink RX5 79 yX5_product, Cond.instanceMethod yX5_product, Cond.selects RX5 yX5_product yX5_product, Cond.initialized RX5, Cond.methodLink RX5 56 yX5_next, Cond.instanceMethod yX5_next, Cond.selects RX5 yX5_next yX5_next, Cond.code yX5_next cX5_next 1 (some .int), Cond.fieldLink RX5 31 "SetAgain$Law" "fault" "I", Cond.fieldLink RX5 24 "SetAgain$Law" "length" "I", Cond.fieldLink RX5 11 "SetAgain$Law" "tape" "[I", Cond.methodLink RX5 67 yX5_write, Cond.instanceMethod yX5_write, Cond.selects RX5 yX5_write yX5_write, Cond.code yX5_write cX5_write 2 none, Cond.fieldLink RX5 34 "SetAgain$Law" "drafted" "I", Cond.fieldLink RX5 15 "SetAgain$Law" "draft" "[I", Cond.code yX5_both cX5_both 3 none, Cond.methodLink RX5 73 yX5_compared, Cond.instanceMethod yX5_compared, Cond.selects RX5 yX5_compared yX5_compared, Cond.code yX5_compared cX5_compared 3 none, Cond.methodLink RX5 76 yX5_sum]
def wsX5_sum_r2 : List Cond := [Cond.instanceMethod yX5_sum, Cond.selects RX5 yX5_sum yX5_sum, Cond.code yX5_either cX5_either 3 none, Cond.methodLink RX5 70 yX5_both, Cond.instanceMethod yX5_both, Cond.selects RX5 yX5_both yX5_both, Cond.code yX5_opened cX5_opened 3 none, Cond.methodLink RX5 82 yX5_operand, Cond.instanceMethod yX5_operand, Cond.selects RX5 yX5_operand yX5_operand, Cond.methodLink RX5 63 yX5_either, Cond.instanceMethod yX5_either, Cond.selects RX5 yX5_either yX5_either, Cond.methodLink RX5 60 yX5_fail, Cond.instanceMethod yX5_fail, Cond.selects RX5 yX5_fail yX5_fail, Cond.code yX5_fail cX5_fail 1 none, Cond.code yX5_operand cX5_operand 3 none, Cond.methodLink RX5 85 yX5_isDigit, Cond.static yX5_isDigit, Cond.code yX5_isDigit cX5_isDigit 1 (some .boolean), Cond.methodLink RX5 89 yX5_number, Cond.instanceMethod yX5_number, Cond.selects RX5 yX5_number yX5_number]
def wsX5_sum_r3 : List Cond := [Cond.code yX5_number cX5_number 3 none, Cond.methodLink RX5 92 yX5_isName, Cond.static yX5_isName, Cond.code yX5_isName cX5_isName 1 (some .boolean), Cond.methodLink RX5 95 yX5_opened, Cond.instanceMethod yX5_opened, Cond.selects RX5 yX5_opened yX5_opened, Cond.code yX5_product cX5_product 4 none]
def wsX5_sum : List Cond := .code yX5_sum cX5_sum 4 none :: ((wsX5_sum_r1 ++ (wsX5_sum_r2 ++ wsX5_sum_r3)) ++ wsX50)
def wsX5_line_r1 : List Cond := [Cond.fieldLink RX5 28 "SetAgain$Law" "at" "I", Cond.methodLink RX5 63 yX5_either, Cond.instanceMethod yX5_either, Cond.selects RX5 yX5_either yX5_either, Cond.initialized RX5, Cond.code yX5_either cX5_either 3 none, Cond.methodLink RX5 70 yX5_both, Cond.instanceMethod yX5_both, Cond.selects RX5 yX5_both yX5_both, Cond.methodLink RX5 56 yX5_next, Cond.instanceMethod yX5_next, Cond.selects RX5 yX5_next yX5_next, Cond.code yX5_next cX5_next 1 (some .int), Cond.fieldLink RX5 31 "SetAgain$Law" "fault" "I", Cond.fieldLink RX5 24 "SetAgain$Law" "length" "I", Cond.fieldLink RX5 11 "SetAgain$Law" "tape" "[I", Cond.methodLink RX5 67 yX5_write, Cond.instanceMethod yX5_write, Cond.selects RX5 yX5_write yX5_write, Cond.code yX5_write cX5_write 2 none, Cond.fieldLink RX5 34 "SetAgain$Law" "drafted" "I", Cond.fieldLink RX5 15 "SetAgain$Law" "draft" "[I", Cond.code yX5_both cX5_both 3 none, Cond.methodLink RX5 73 yX5_compared]
def wsX5_line_r2 : List Cond := [Cond.instanceMethod yX5_compared, Cond.selects RX5 yX5_compared yX5_compared, Cond.code yX5_compared cX5_compared 3 none, Cond.methodLink RX5 76 yX5_sum, Cond.instanceMethod yX5_sum, Cond.selects RX5 yX5_sum yX5_sum, Cond.code yX5_opened cX5_opened 3 none, Cond.methodLink RX5 82 yX5_operand, Cond.instanceMethod yX5_operand, Cond.selects RX5 yX5_operand yX5_operand, Cond.methodLink RX5 60 yX5_fail, Cond.instanceMethod yX5_fail, Cond.selects RX5 yX5_fail yX5_fail, Cond.code yX5_fail cX5_fail 1 none, Cond.code yX5_operand cX5_operand 3 none, Cond.methodLink RX5 85 yX5_isDigit, Cond.static yX5_isDigit, Cond.code yX5_isDigit cX5_isDigit 1 (some .boolean), Cond.methodLink RX5 89 yX5_number, Cond.instanceMethod yX5_number, Cond.selects RX5 yX5_number yX5_number, Cond.code yX5_number cX5_number 3 none, Cond.methodLink RX5 92 yX5_isName, Cond.static yX5_isName]
def wsX5_line_r3 : List Cond := [Cond.code yX5_isName cX5_isName 1 (some .boolean), Cond.methodLink RX5 95 yX5_opened, Cond.instanceMethod yX5_opened, Cond.selects RX5 yX5_opened yX5_opened, Cond.code yX5_product cX5_product 4 none, Cond.code yX5_sum cX5_sum 4 none, Cond.methodLink RX5 79 yX5_product, Cond.instanceMethod yX5_product, Cond.selects RX5 yX5_product yX5_product]
def wsX5_line : List Cond := .code yX5_line cX5_line 1 none :: ((wsX5_line_r1 ++ (wsX5_line_r2 ++ wsX5_line_r3)) ++ wsX50)
def wsX5_lines_r1 : List Cond := [Cond.fieldLink RX5 28 "SetAgain$Law" "at" "I", Cond.fieldLink RX5 24 "SetAgain$Law" "length" "I", Cond.methodLink RX5 53 yX5_line, Cond.instanceMethod yX5_line, Cond.selects RX5 yX5_line yX5_line, Cond.initialized RX5, Cond.code yX5_line cX5_line 1 none, Cond.methodLink RX5 63 yX5_either, Cond.instanceMethod yX5_either, Cond.selects RX5 yX5_either yX5_either, Cond.code yX5_either cX5_either 3 none, Cond.methodLink RX5 70 yX5_both, Cond.instanceMethod yX5_both, Cond.selects RX5 yX5_both yX5_both, Cond.methodLink RX5 56 yX5_next, Cond.instanceMethod yX5_next, Cond.selects RX5 yX5_next yX5_next, Cond.code yX5_next cX5_next 1 (some .int), Cond.fieldLink RX5 31 "SetAgain$Law" "fault" "I", Cond.fieldLink RX5 11 "SetAgain$Law" "tape" "[I", Cond.methodLink RX5 67 yX5_write, Cond.instanceMethod yX5_write, Cond.selects RX5 yX5_write yX5_write, Cond.code yX5_write cX5_write 2 none]
def wsX5_lines_r2 : List Cond := [Cond.fieldLink RX5 34 "SetAgain$Law" "drafted" "I", Cond.fieldLink RX5 15 "SetAgain$Law" "draft" "[I", Cond.code yX5_both cX5_both 3 none, Cond.methodLink RX5 73 yX5_compared, Cond.instanceMethod yX5_compared, Cond.selects RX5 yX5_compared yX5_compared, Cond.code yX5_compared cX5_compared 3 none, Cond.methodLink RX5 76 yX5_sum, Cond.instanceMethod yX5_sum, Cond.selects RX5 yX5_sum yX5_sum, Cond.code yX5_opened cX5_opened 3 none, Cond.methodLink RX5 82 yX5_operand, Cond.instanceMethod yX5_operand, Cond.selects RX5 yX5_operand yX5_operand, Cond.methodLink RX5 60 yX5_fail, Cond.instanceMethod yX5_fail, Cond.selects RX5 yX5_fail yX5_fail, Cond.code yX5_fail cX5_fail 1 none, Cond.code yX5_operand cX5_operand 3 none, Cond.methodLink RX5 85 yX5_isDigit, Cond.static yX5_isDigit, Cond.code yX5_isDigit cX5_isDigit 1 (some .boolean), Cond.methodLink RX5 89 yX5_number, Cond.instanceMethod yX5_number]
def wsX5_lines_r3 : List Cond := [Cond.selects RX5 yX5_number yX5_number, Cond.code yX5_number cX5_number 3 none, Cond.methodLink RX5 92 yX5_isName, Cond.static yX5_isName, Cond.code yX5_isName cX5_isName 1 (some .boolean), Cond.methodLink RX5 95 yX5_opened, Cond.instanceMethod yX5_opened, Cond.selects RX5 yX5_opened yX5_opened, Cond.code yX5_product cX5_product 4 none, Cond.code yX5_sum cX5_sum 4 none, Cond.methodLink RX5 79 yX5_product, Cond.instanceMethod yX5_product, Cond.selects RX5 yX5_product yX5_product]
def wsX5_lines : List Cond := .code yX5_lines cX5_lines 2 none :: ((wsX5_lines_r1 ++ (wsX5_lines_r2 ++ wsX5_lines_r3)) ++ wsX50)
def wsX5_isRead_r1 : List Cond := [Cond.fieldLink RX5 28 "SetAgain$Law" "at" "I", Cond.fieldLink RX5 31 "SetAgain$Law" "fault" "I", Cond.fieldLink RX5 34 "SetAgain$Law" "drafted" "I", Cond.fieldLink RX5 24 "SetAgain$Law" "length" "I", Cond.fieldLink RX5 15 "SetAgain$Law" "draft" "[I", Cond.fieldLink RX5 18 "SetAgain$Law" "code" "[I", Cond.methodLink RX5 40 arraycopyName, Cond.native arraycopyName, Cond.static arraycopyName, Cond.initialized "java/lang/System", Cond.fieldLink RX5 46 "SetAgain$Law" "coded" "I", Cond.fieldLink RX5 49 "SetAgain$Law" "holds" "Z", Cond.methodLink RX5 37 yX5_lines, Cond.instanceMethod yX5_lines, Cond.selects RX5 yX5_lines yX5_lines, Cond.initialized RX5, Cond.code yX5_lines cX5_lines 2 none, Cond.methodLink RX5 53 yX5_line, Cond.instanceMethod yX5_line, Cond.selects RX5 yX5_line yX5_line, Cond.code yX5_line cX5_line 1 none, Cond.methodLink RX5 63 yX5_either, Cond.instanceMethod yX5_either, Cond.selects RX5 yX5_either yX5_either]
def wsX5_isRead_r2 : List Cond := [Cond.code yX5_either cX5_either 3 none, Cond.methodLink RX5 70 yX5_both, Cond.instanceMethod yX5_both, Cond.selects RX5 yX5_both yX5_both, Cond.methodLink RX5 56 yX5_next, Cond.instanceMethod yX5_next, Cond.selects RX5 yX5_next yX5_next, Cond.code yX5_next cX5_next 1 (some .int), Cond.fieldLink RX5 11 "SetAgain$Law" "tape" "[I", Cond.methodLink RX5 67 yX5_write, Cond.instanceMethod yX5_write, Cond.selects RX5 yX5_write yX5_write, Cond.code yX5_write cX5_write 2 none, Cond.code yX5_both cX5_both 3 none, Cond.methodLink RX5 73 yX5_compared, Cond.instanceMethod yX5_compared, Cond.selects RX5 yX5_compared yX5_compared, Cond.code yX5_compared cX5_compared 3 none, Cond.methodLink RX5 76 yX5_sum, Cond.instanceMethod yX5_sum, Cond.selects RX5 yX5_sum yX5_sum, Cond.code yX5_opened cX5_opened 3 none, Cond.methodLink RX5 82 yX5_operand, Cond.instanceMethod yX5_operand]
def wsX5_isRead_r3 : List Cond := [Cond.selects RX5 yX5_operand yX5_operand, Cond.methodLink RX5 60 yX5_fail, Cond.instanceMethod yX5_fail, Cond.selects RX5 yX5_fail yX5_fail, Cond.code yX5_fail cX5_fail 1 none, Cond.code yX5_operand cX5_operand 3 none, Cond.methodLink RX5 85 yX5_isDigit, Cond.static yX5_isDigit, Cond.code yX5_isDigit cX5_isDigit 1 (some .boolean), Cond.methodLink RX5 89 yX5_number, Cond.instanceMethod yX5_number, Cond.selects RX5 yX5_number yX5_number, Cond.code yX5_number cX5_number 3 none, Cond.methodLink RX5 92 yX5_isName, Cond.static yX5_isName, Cond.code yX5_isName cX5_isName 1 (some .boolean), Cond.methodLink RX5 95 yX5_opened, Cond.instanceMethod yX5_opened, Cond.selects RX5 yX5_opened yX5_opened, Cond.code yX5_product cX5_product 4 none, Cond.code yX5_sum cX5_sum 4 none, Cond.methodLink RX5 79 yX5_product, Cond.instanceMethod yX5_product, Cond.selects RX5 yX5_product yX5_product]
def wsX5_isRead : List Cond := .code yX5_isRead cX5_isRead 1 (some .int) :: ((wsX5_isRead_r1 ++ (wsX5_isRead_r2 ++ wsX5_isRead_r3)) ++ wsX50)
def wsX7_takesDesk : List Cond := .code yX7_takesDesk cX7_takesDesk 2 none :: ([.fieldLink RX7 15 "SetAgain$Shelf" "sort" "I", .fieldLink RX7 19 "SetAgain$Shelf" "desk" "I"] ++ wsX70)
def wsX7_takesRow : List Cond := .code yX7_takesRow cX7_takesRow 4 none :: ([.fieldLink RX7 15 "SetAgain$Shelf" "sort" "I", .fieldLink RX7 22 "SetAgain$Shelf" "length" "I", .fieldLink RX7 9 "SetAgain$Shelf" "elements" "[J"] ++ wsX70)
def wsX11_isSetting : List Cond := .code yX11_isSetting cX11_isSetting 1 (some .boolean) :: ([])
def wsX11_fits : List Cond := .code yX11_fits cX11_fits 2 (some .boolean) :: ([.fieldLink RX11 314 "SetAgain" "MOST" "[I", .fieldLink RX11 317 "SetAgain" "LEAST" "[I"])
def wsX11_sitter : List Cond := .code yX11_sitter cX11_sitter 3 (some .int) :: ([.fieldLink RX11 12 "SetAgain" "chair" "LSetAgain$Chair;", .methodLink RX11 85 yX11_isSetting, .static yX11_isSetting, .initialized RX11, .code yX11_isSetting cX11_isSetting 1 (some .boolean), .methodLink RX11 89 yX11_fits, .static yX11_fits, .code yX11_fits cX11_fits 2 (some .boolean), .fieldLink RX11 314 "SetAgain" "MOST" "[I", .fieldLink RX11 317 "SetAgain" "LEAST" "[I", .methodLink RX11 93 yX0_comes, .instanceMethod yX0_comes, .selects RX0 yX0_comes yX0_comes, .initialized RX0, .code yX0_comes cX0_comes 6 (some .int), .fieldLink RX0 28 "SetAgain$Chair" "sitters" "I", .fieldLink RX0 11 "SetAgain$Chair" "told" "[I", .methodLink RX0 32 yX0_forget, .instanceMethod yX0_forget, .selects RX0 yX0_forget yX0_forget, .code yX0_forget cX0_forget 4 none, .fieldLink RX0 25 "SetAgain$Chair" "lost" "[I"] ++ wsX110 ++ wsX00)
def wsX11_isShelf : List Cond := .code yX11_isShelf cX11_isShelf 1 (some .boolean) :: ([])
def wsX11_sitters_r1 : List Cond := [Cond.fieldLink RX11 80 "SetAgain" "shelves" "[LSetAgain$Shelf;", Cond.fieldLink RX11 100 "SetAgain$Shelf" "sort" "I", Cond.methodLink RX11 97 yX11_isShelf, Cond.static yX11_isShelf, Cond.initialized RX11, Cond.code yX11_isShelf cX11_isShelf 1 (some .boolean), Cond.methodLink RX11 104 yX11_fromRow, Cond.instanceMethod yX11_fromRow, Cond.selects RX11 yX11_fromRow yX11_fromRow, Cond.code yX11_fromRow cX11_fromRow 6 (some .int), Cond.methodLink RX11 295 yX7_hasPlaces, Cond.instanceMethod yX7_hasPlaces, Cond.selects RX7 yX7_hasPlaces yX7_hasPlaces, Cond.initialized RX7, Cond.code yX7_hasPlaces cX7_hasPlaces 3 (some .boolean), Cond.fieldLink RX7 22 "SetAgain$Shelf" "length" "I", Cond.methodLink RX11 324 yX11_comesFrom, Cond.instanceMethod yX11_comesFrom, Cond.selects RX11 yX11_comesFrom yX11_comesFrom, Cond.code yX11_comesFrom cX11_comesFrom 6 (some .boolean), Cond.fieldLink RX11 281 "SetAgain$Shelf" "elements" "[J", Cond.fieldLink RX11 12 "SetAgain" "chair" "LSetAgain$Chair;", Cond.methodLink RX11 85 yX11_isSetting, Cond.static yX11_isSetting]
def wsX11_sitters_r2 : List Cond := [Cond.code yX11_isSetting cX11_isSetting 1 (some .boolean), Cond.methodLink RX11 89 yX11_fits, Cond.static yX11_fits, Cond.code yX11_fits cX11_fits 2 (some .boolean), Cond.fieldLink RX11 314 "SetAgain" "MOST" "[I", Cond.fieldLink RX11 317 "SetAgain" "LEAST" "[I", Cond.methodLink RX11 93 yX0_comes, Cond.instanceMethod yX0_comes, Cond.selects RX0 yX0_comes yX0_comes, Cond.initialized RX0, Cond.code yX0_comes cX0_comes 6 (some .int), Cond.fieldLink RX0 28 "SetAgain$Chair" "sitters" "I", Cond.fieldLink RX0 11 "SetAgain$Chair" "told" "[I", Cond.methodLink RX0 32 yX0_forget, Cond.instanceMethod yX0_forget, Cond.selects RX0 yX0_forget yX0_forget, Cond.code yX0_forget cX0_forget 4 none, Cond.fieldLink RX0 25 "SetAgain$Chair" "lost" "[I"]
def wsX11_sitters : List Cond := .code yX11_sitters cX11_sitters 5 (some .int) :: ((wsX11_sitters_r1 ++ wsX11_sitters_r2) ++ wsX110 ++ wsX70 ++ wsX00)
def wsX11_mend_r1 : List Cond := [Cond.fieldLink RX11 12 "SetAgain" "chair" "LSetAgain$Chair;", Cond.fieldLink RX11 112 "SetAgain$Chair" "told" "[I", Cond.fieldLink RX11 67 "SetAgain" "changes" "LSetAgain$Changes;", Cond.methodLink RX11 108 yX0_placeOf, Cond.instanceMethod yX0_placeOf, Cond.selects RX0 yX0_placeOf yX0_placeOf, Cond.initialized RX0, Cond.code yX0_placeOf cX0_placeOf 3 (some .int), Cond.fieldLink RX0 28 "SetAgain$Chair" "sitters" "I", Cond.methodLink RX11 89 yX11_fits, Cond.static yX11_fits, Cond.initialized RX11, Cond.code yX11_fits cX11_fits 2 (some .boolean), Cond.fieldLink RX11 314 "SetAgain" "MOST" "[I", Cond.fieldLink RX11 317 "SetAgain" "LEAST" "[I", Cond.methodLink RX11 116 yX1_comes, Cond.instanceMethod yX1_comes, Cond.selects RX1 yX1_comes yX1_comes, Cond.initialized RX1, Cond.code yX1_comes cX1_comes 4 none, Cond.fieldLink RX1 19 "SetAgain$Changes" "done" "I", Cond.fieldLink RX1 9 "SetAgain$Changes" "places" "[I", Cond.fieldLink RX1 13 "SetAgain$Changes" "before" "[I", Cond.fieldLink RX1 16 "SetAgain$Changes" "after" "[I"]
def wsX11_mend_r2 : List Cond := [Cond.fieldLink RX1 26 "SetAgain$Changes" "kept" "I", Cond.methodLink RX1 23 yX1_dropOldest, Cond.instanceMethod yX1_dropOldest, Cond.selects RX1 yX1_dropOldest yX1_dropOldest, Cond.code yX1_dropOldest cX1_dropOldest 1 none, Cond.methodLink RX1 29 arraycopyName, Cond.native arraycopyName, Cond.static arraycopyName, Cond.initialized "java/lang/System", Cond.methodLink RX11 119 yX0_becomes, Cond.instanceMethod yX0_becomes, Cond.selects RX0 yX0_becomes yX0_becomes, Cond.code yX0_becomes cX0_becomes 3 none, Cond.fieldLink RX0 11 "SetAgain$Chair" "told" "[I", Cond.methodLink RX0 32 yX0_forget, Cond.instanceMethod yX0_forget, Cond.selects RX0 yX0_forget yX0_forget, Cond.code yX0_forget cX0_forget 4 none, Cond.fieldLink RX0 25 "SetAgain$Chair" "lost" "[I"]
def wsX11_mend : List Cond := .code yX11_mend cX11_mend 6 (some .int) :: ((wsX11_mend_r1 ++ wsX11_mend_r2) ++ wsX110 ++ wsX00 ++ wsX10)
def wsX11_isPart : List Cond := .code yX11_isPart cX11_isPart 1 (some .boolean) :: ([])
def wsX11_of : List Cond := .code yX11_of cX11_of 4 (some .int) :: ([.fieldLink RX11 12 "SetAgain" "chair" "LSetAgain$Chair;", .fieldLink RX11 126 "SetAgain$Chair" "stands" "[I", .fieldLink RX11 112 "SetAgain$Chair" "told" "[I", .methodLink RX11 123 yX11_isPart, .static yX11_isPart, .initialized RX11, .code yX11_isPart cX11_isPart 1 (some .boolean), .methodLink RX11 108 yX0_placeOf, .instanceMethod yX0_placeOf, .selects RX0 yX0_placeOf yX0_placeOf, .initialized RX0, .code yX0_placeOf cX0_placeOf 3 (some .int), .fieldLink RX0 28 "SetAgain$Chair" "sitters" "I"] ++ wsX110 ++ wsX00)
def wsX11_feed : List Cond := .code yX11_feed cX11_feed 2 (some .int) :: ([.fieldLink RX11 12 "SetAgain" "chair" "LSetAgain$Chair;", .fieldLink RX11 129 "SetAgain$Chair" "law" "LSetAgain$Law;", .methodLink RX11 133 yX5_takes, .instanceMethod yX5_takes, .selects RX5 yX5_takes yX5_takes, .initialized RX5, .code yX5_takes cX5_takes 2 (some .int), .fieldLink RX5 24 "SetAgain$Law" "length" "I", .fieldLink RX5 11 "SetAgain$Law" "tape" "[I"] ++ wsX110 ++ wsX00 ++ wsX50)
def wsX11_law_r1 : List Cond := [Cond.fieldLink RX11 12 "SetAgain" "chair" "LSetAgain$Chair;", Cond.fieldLink RX11 129 "SetAgain$Chair" "law" "LSetAgain$Law;", Cond.methodLink RX11 139 yX5_isRead, Cond.instanceMethod yX5_isRead, Cond.selects RX5 yX5_isRead yX5_isRead, Cond.initialized RX5, Cond.code yX5_isRead cX5_isRead 1 (some .int), Cond.fieldLink RX5 28 "SetAgain$Law" "at" "I", Cond.fieldLink RX5 31 "SetAgain$Law" "fault" "I", Cond.fieldLink RX5 34 "SetAgain$Law" "drafted" "I", Cond.fieldLink RX5 24 "SetAgain$Law" "length" "I", Cond.fieldLink RX5 15 "SetAgain$Law" "draft" "[I", Cond.fieldLink RX5 18 "SetAgain$Law" "code" "[I", Cond.methodLink RX5 40 arraycopyName, Cond.native arraycopyName, Cond.static arraycopyName, Cond.initialized "java/lang/System", Cond.fieldLink RX5 46 "SetAgain$Law" "coded" "I", Cond.fieldLink RX5 49 "SetAgain$Law" "holds" "Z", Cond.methodLink RX5 37 yX5_lines, Cond.instanceMethod yX5_lines, Cond.selects RX5 yX5_lines yX5_lines, Cond.code yX5_lines cX5_lines 2 none, Cond.methodLink RX5 53 yX5_line]
def wsX11_law_r2 : List Cond := [Cond.instanceMethod yX5_line, Cond.selects RX5 yX5_line yX5_line, Cond.code yX5_line cX5_line 1 none, Cond.methodLink RX5 63 yX5_either, Cond.instanceMethod yX5_either, Cond.selects RX5 yX5_either yX5_either, Cond.code yX5_either cX5_either 3 none, Cond.methodLink RX5 70 yX5_both, Cond.instanceMethod yX5_both, Cond.selects RX5 yX5_both yX5_both, Cond.methodLink RX5 56 yX5_next, Cond.instanceMethod yX5_next, Cond.selects RX5 yX5_next yX5_next, Cond.code yX5_next cX5_next 1 (some .int), Cond.fieldLink RX5 11 "SetAgain$Law" "tape" "[I", Cond.methodLink RX5 67 yX5_write, Cond.instanceMethod yX5_write, Cond.selects RX5 yX5_write yX5_write, Cond.code yX5_write cX5_write 2 none, Cond.code yX5_both cX5_both 3 none, Cond.methodLink RX5 73 yX5_compared, Cond.instanceMethod yX5_compared, Cond.selects RX5 yX5_compared yX5_compared, Cond.code yX5_compared cX5_compared 3 none]
def wsX11_law_r3 : List Cond := [Cond.methodLink RX5 76 yX5_sum, Cond.instanceMethod yX5_sum, Cond.selects RX5 yX5_sum yX5_sum, Cond.code yX5_opened cX5_opened 3 none, Cond.methodLink RX5 82 yX5_operand, Cond.instanceMethod yX5_operand, Cond.selects RX5 yX5_operand yX5_operand, Cond.methodLink RX5 60 yX5_fail, Cond.instanceMethod yX5_fail, Cond.selects RX5 yX5_fail yX5_fail, Cond.code yX5_fail cX5_fail 1 none, Cond.code yX5_operand cX5_operand 3 none, Cond.methodLink RX5 85 yX5_isDigit, Cond.static yX5_isDigit, Cond.code yX5_isDigit cX5_isDigit 1 (some .boolean), Cond.methodLink RX5 89 yX5_number, Cond.instanceMethod yX5_number, Cond.selects RX5 yX5_number yX5_number, Cond.code yX5_number cX5_number 3 none, Cond.methodLink RX5 92 yX5_isName, Cond.static yX5_isName, Cond.code yX5_isName cX5_isName 1 (some .boolean), Cond.methodLink RX5 95 yX5_opened, Cond.instanceMethod yX5_opened]
def wsX11_law_r4 : List Cond := [Cond.selects RX5 yX5_opened yX5_opened, Cond.code yX5_product cX5_product 4 none, Cond.code yX5_sum cX5_sum 4 none, Cond.methodLink RX5 79 yX5_product, Cond.instanceMethod yX5_product, Cond.selects RX5 yX5_product yX5_product, Cond.methodLink RX11 143 yX0_forgetAll, Cond.instanceMethod yX0_forgetAll, Cond.selects RX0 yX0_forgetAll yX0_forgetAll, Cond.initialized RX0, Cond.code yX0_forgetAll cX0_forgetAll 2 none, Cond.methodLink RX0 32 yX0_forget, Cond.instanceMethod yX0_forget, Cond.selects RX0 yX0_forget yX0_forget, Cond.code yX0_forget cX0_forget 4 none, Cond.fieldLink RX0 25 "SetAgain$Chair" "lost" "[I"]
def wsX11_law : List Cond := .code yX11_law cX11_law 2 (some .int) :: ((wsX11_law_r1 ++ (wsX11_law_r2 ++ (wsX11_law_r3 ++ wsX11_law_r4))) ++ wsX110 ++ wsX00 ++ wsX50)
def wsX11_loss_r1 : List Cond := [Cond.fieldLink RX11 12 "SetAgain" "chair" "LSetAgain$Chair;", Cond.methodLink RX11 146 yX0_has, Cond.instanceMethod yX0_has, Cond.selects RX0 yX0_has yX0_has, Cond.initialized RX0, Cond.code yX0_has cX0_has 2 (some .boolean), Cond.fieldLink RX0 28 "SetAgain$Chair" "sitters" "I", Cond.methodLink RX11 123 yX11_isPart, Cond.static yX11_isPart, Cond.initialized RX11, Cond.code yX11_isPart cX11_isPart 1 (some .boolean), Cond.methodLink RX11 85 yX11_isSetting, Cond.static yX11_isSetting, Cond.code yX11_isSetting cX11_isSetting 1 (some .boolean), Cond.methodLink RX11 149 yX0_lossAt, Cond.instanceMethod yX0_lossAt, Cond.selects RX0 yX0_lossAt yX0_lossAt, Cond.code yX0_lossAt cX0_lossAt 9 (some .int), Cond.fieldLink RX0 25 "SetAgain$Chair" "lost" "[I", Cond.fieldLink RX0 21 "SetAgain$Chair" "law" "LSetAgain$Law;", Cond.fieldLink RX0 49 "SetAgain$Law" "holds" "Z", Cond.methodLink RX0 45 Lib.Math.abs.name, Cond.static Lib.Math.abs.name, Cond.initialized "java/lang/Math"]
def wsX11_loss_r2 : List Cond := [Cond.code Lib.Math.abs.name Lib.Math.abs.code 1 (some .int), Cond.methodLink RX0 57 Lib.Math.min.name, Cond.static Lib.Math.min.name, Cond.code Lib.Math.min.name Lib.Math.min.code 2 (some .int), Cond.methodLink RX0 36 Lib.Math.max.name, Cond.static Lib.Math.max.name, Cond.code Lib.Math.max.name Lib.Math.max.code 2 (some .int), Cond.methodLink RX0 42 yX0_numberOf, Cond.instanceMethod yX0_numberOf, Cond.selects RX0 yX0_numberOf yX0_numberOf, Cond.code yX0_numberOf cX0_numberOf 3 (some .int), Cond.fieldLink RX0 11 "SetAgain$Chair" "told" "[I", Cond.methodLink RX0 53 yX5_valueOf, Cond.instanceMethod yX5_valueOf, Cond.selects RX5 yX5_valueOf yX5_valueOf, Cond.initialized RX5, Cond.code yX5_valueOf cX5_valueOf 10 (some .int), Cond.fieldLink RX5 46 "SetAgain$Law" "coded" "I", Cond.fieldLink RX5 18 "SetAgain$Law" "code" "[I", Cond.fieldLink RX5 21 "SetAgain$Law" "stack" "[I", Cond.methodLink RX5 99 yX5_operands, Cond.static yX5_operands, Cond.code yX5_operands cX5_operands 1 (some .int), Cond.methodLink RX5 103 yX5_named]
def wsX11_loss_r3 : List Cond := [Cond.static yX5_named, Cond.code yX5_named cX5_named 5 (some .int), Cond.methodLink RX5 111 Lib.Math.abs.name, Cond.methodLink RX5 107 yX5_worked, Cond.static yX5_worked, Cond.code yX5_worked cX5_worked 3 (some .int)]
def wsX11_loss : List Cond := .code yX11_loss cX11_loss 4 (some .int) :: ((wsX11_loss_r1 ++ (wsX11_loss_r2 ++ wsX11_loss_r3)) ++ wsX110 ++ wsX00 ++ wsX50)
def wsX11_refusalOf : List Cond := .code yX11_refusalOf cX11_refusalOf 2 (some .int) :: ([.fieldLink RX11 80 "SetAgain" "shelves" "[LSetAgain$Shelf;", .fieldLink RX11 100 "SetAgain$Shelf" "sort" "I"] ++ wsX110 ++ wsX70)
def wsX11_readWeek_r1 : List Cond := [Cond.fieldLink RX11 19 "SetAgain" "week" "LSetAgain$Week;", Cond.fieldLink RX11 80 "SetAgain" "shelves" "[LSetAgain$Shelf;", Cond.fieldLink RX11 12 "SetAgain" "chair" "LSetAgain$Chair;", Cond.fieldLink RX11 310 "SetAgain$Chair" "sitters" "I", Cond.methodLink RX11 209 yX11_refusalOf, Cond.instanceMethod yX11_refusalOf, Cond.selects RX11 yX11_refusalOf yX11_refusalOf, Cond.initialized RX11, Cond.code yX11_refusalOf cX11_refusalOf 2 (some .int), Cond.fieldLink RX11 100 "SetAgain$Shelf" "sort" "I", Cond.methodLink RX11 320 yX10_reads, Cond.instanceMethod yX10_reads, Cond.selects RX10 yX10_reads yX10_reads, Cond.initialized RX10, Cond.code yX10_reads cX10_reads 5 none, Cond.fieldLink RX10 18 "SetAgain$Shelf" "length" "I", Cond.methodLink RX10 24 Lib.Math.min.name, Cond.static Lib.Math.min.name, Cond.initialized "java/lang/Math", Cond.code Lib.Math.min.name Lib.Math.min.code 2 (some .int), Cond.fieldLink RX10 30 "SetAgain$Week" "length" "I", Cond.fieldLink RX10 31 "SetAgain$Week" "sat" "I", Cond.fieldLink RX10 15 "SetAgain$Week" "times" "[I", Cond.fieldLink RX10 34 "SetAgain$Shelf" "elements" "[J"]
def wsX11_readWeek_r2 : List Cond := [Cond.fieldLink RX10 9 "SetAgain$Week" "sitters" "[I"]
def wsX11_readWeek : List Cond := .code yX11_readWeek cX11_readWeek 3 (some .int) :: ((wsX11_readWeek_r1 ++ wsX11_readWeek_r2) ++ wsX110 ++ wsX00 ++ wsX70 ++ wsX100)
def wsX11_never_r1 : List Cond := [Cond.fieldLink RX11 35 "SetAgain" "still" "LSetAgain$Still;", Cond.methodLink RX11 97 yX11_isShelf, Cond.static yX11_isShelf, Cond.initialized RX11, Cond.code yX11_isShelf cX11_isShelf 1 (some .boolean), Cond.methodLink RX11 123 yX11_isPart, Cond.static yX11_isPart, Cond.code yX11_isPart cX11_isPart 1 (some .boolean), Cond.methodLink RX11 85 yX11_isSetting, Cond.static yX11_isSetting, Cond.code yX11_isSetting cX11_isSetting 1 (some .boolean), Cond.methodLink RX11 153 yX11_readWeek, Cond.instanceMethod yX11_readWeek, Cond.selects RX11 yX11_readWeek yX11_readWeek, Cond.code yX11_readWeek cX11_readWeek 3 (some .int), Cond.fieldLink RX11 19 "SetAgain" "week" "LSetAgain$Week;", Cond.fieldLink RX11 80 "SetAgain" "shelves" "[LSetAgain$Shelf;", Cond.fieldLink RX11 12 "SetAgain" "chair" "LSetAgain$Chair;", Cond.fieldLink RX11 310 "SetAgain$Chair" "sitters" "I", Cond.methodLink RX11 209 yX11_refusalOf, Cond.instanceMethod yX11_refusalOf, Cond.selects RX11 yX11_refusalOf yX11_refusalOf, Cond.code yX11_refusalOf cX11_refusalOf 2 (some .int), Cond.fieldLink RX11 100 "SetAgain$Shelf" "sort" "I"]
def wsX11_never_r2 : List Cond := [Cond.methodLink RX11 320 yX10_reads, Cond.instanceMethod yX10_reads, Cond.selects RX10 yX10_reads yX10_reads, Cond.initialized RX10, Cond.code yX10_reads cX10_reads 5 none, Cond.fieldLink RX10 18 "SetAgain$Shelf" "length" "I", Cond.methodLink RX10 24 Lib.Math.min.name, Cond.static Lib.Math.min.name, Cond.initialized "java/lang/Math", Cond.code Lib.Math.min.name Lib.Math.min.code 2 (some .int), Cond.fieldLink RX10 30 "SetAgain$Week" "length" "I", Cond.fieldLink RX10 31 "SetAgain$Week" "sat" "I", Cond.fieldLink RX10 15 "SetAgain$Week" "times" "[I", Cond.fieldLink RX10 34 "SetAgain$Shelf" "elements" "[J", Cond.fieldLink RX10 9 "SetAgain$Week" "sitters" "[I", Cond.methodLink RX11 156 yX8_allLosses, Cond.instanceMethod yX8_allLosses, Cond.selects RX8 yX8_allLosses yX8_allLosses, Cond.initialized RX8, Cond.code yX8_allLosses cX8_allLosses 5 (some .int), Cond.fieldLink RX8 38 "SetAgain$Still" "week" "LSetAgain$Week;", Cond.fieldLink RX8 42 "SetAgain$Week" "times" "[I", Cond.fieldLink RX8 34 "SetAgain$Still" "chair" "LSetAgain$Chair;", Cond.methodLink RX8 47 yX0_lossAt]
def wsX11_never_r3 : List Cond := [Cond.instanceMethod yX0_lossAt, Cond.selects RX0 yX0_lossAt yX0_lossAt, Cond.initialized RX0, Cond.code yX0_lossAt cX0_lossAt 9 (some .int), Cond.fieldLink RX0 25 "SetAgain$Chair" "lost" "[I", Cond.fieldLink RX0 21 "SetAgain$Chair" "law" "LSetAgain$Law;", Cond.fieldLink RX0 49 "SetAgain$Law" "holds" "Z", Cond.methodLink RX0 45 Lib.Math.abs.name, Cond.static Lib.Math.abs.name, Cond.code Lib.Math.abs.name Lib.Math.abs.code 1 (some .int), Cond.methodLink RX0 57 Lib.Math.min.name, Cond.methodLink RX0 36 Lib.Math.max.name, Cond.static Lib.Math.max.name, Cond.code Lib.Math.max.name Lib.Math.max.code 2 (some .int), Cond.methodLink RX0 42 yX0_numberOf, Cond.instanceMethod yX0_numberOf, Cond.selects RX0 yX0_numberOf yX0_numberOf, Cond.code yX0_numberOf cX0_numberOf 3 (some .int), Cond.fieldLink RX0 11 "SetAgain$Chair" "told" "[I", Cond.methodLink RX0 53 yX5_valueOf, Cond.instanceMethod yX5_valueOf, Cond.selects RX5 yX5_valueOf yX5_valueOf, Cond.initialized RX5, Cond.code yX5_valueOf cX5_valueOf 10 (some .int)]
def wsX11_never_r4 : List Cond := [Cond.fieldLink RX5 46 "SetAgain$Law" "coded" "I", Cond.fieldLink RX5 18 "SetAgain$Law" "code" "[I", Cond.fieldLink RX5 21 "SetAgain$Law" "stack" "[I", Cond.methodLink RX5 99 yX5_operands, Cond.static yX5_operands, Cond.code yX5_operands cX5_operands 1 (some .int), Cond.methodLink RX5 103 yX5_named, Cond.static yX5_named, Cond.code yX5_named cX5_named 5 (some .int), Cond.methodLink RX5 111 Lib.Math.abs.name, Cond.methodLink RX5 107 yX5_worked, Cond.static yX5_worked, Cond.code yX5_worked cX5_worked 3 (some .int)]
def wsX11_never : List Cond := .code yX11_never cX11_never 5 (some .int) :: ((wsX11_never_r1 ++ (wsX11_never_r2 ++ (wsX11_never_r3 ++ wsX11_never_r4))) ++ wsX110 ++ wsX00 ++ wsX70 ++ wsX100 ++ wsX80 ++ wsX50)
def wsX11_best_r1 : List Cond := [Cond.fieldLink RX11 19 "SetAgain" "week" "LSetAgain$Week;", Cond.fieldLink RX11 159 "SetAgain$Week" "sat" "I", Cond.fieldLink RX11 35 "SetAgain" "still" "LSetAgain$Still;", Cond.methodLink RX11 97 yX11_isShelf, Cond.static yX11_isShelf, Cond.initialized RX11, Cond.code yX11_isShelf cX11_isShelf 1 (some .boolean), Cond.methodLink RX11 123 yX11_isPart, Cond.static yX11_isPart, Cond.code yX11_isPart cX11_isPart 1 (some .boolean), Cond.methodLink RX11 153 yX11_readWeek, Cond.instanceMethod yX11_readWeek, Cond.selects RX11 yX11_readWeek yX11_readWeek, Cond.code yX11_readWeek cX11_readWeek 3 (some .int), Cond.fieldLink RX11 80 "SetAgain" "shelves" "[LSetAgain$Shelf;", Cond.fieldLink RX11 12 "SetAgain" "chair" "LSetAgain$Chair;", Cond.fieldLink RX11 310 "SetAgain$Chair" "sitters" "I", Cond.methodLink RX11 209 yX11_refusalOf, Cond.instanceMethod yX11_refusalOf, Cond.selects RX11 yX11_refusalOf yX11_refusalOf, Cond.code yX11_refusalOf cX11_refusalOf 2 (some .int), Cond.fieldLink RX11 100 "SetAgain$Shelf" "sort" "I", Cond.methodLink RX11 320 yX10_reads, Cond.instanceMethod yX10_reads]
def wsX11_best_r2 : List Cond := [Cond.selects RX10 yX10_reads yX10_reads, Cond.initialized RX10, Cond.code yX10_reads cX10_reads 5 none, Cond.fieldLink RX10 18 "SetAgain$Shelf" "length" "I", Cond.methodLink RX10 24 Lib.Math.min.name, Cond.static Lib.Math.min.name, Cond.initialized "java/lang/Math", Cond.code Lib.Math.min.name Lib.Math.min.code 2 (some .int), Cond.fieldLink RX10 30 "SetAgain$Week" "length" "I", Cond.fieldLink RX10 31 "SetAgain$Week" "sat" "I", Cond.fieldLink RX10 15 "SetAgain$Week" "times" "[I", Cond.fieldLink RX10 34 "SetAgain$Shelf" "elements" "[J", Cond.fieldLink RX10 9 "SetAgain$Week" "sitters" "[I", Cond.methodLink RX11 162 yX8_bestOf, Cond.instanceMethod yX8_bestOf, Cond.selects RX8 yX8_bestOf yX8_bestOf, Cond.initialized RX8, Cond.code yX8_bestOf cX8_bestOf 7 (some .int), Cond.methodLink RX8 59 yX8_allLosses, Cond.instanceMethod yX8_allLosses, Cond.selects RX8 yX8_allLosses yX8_allLosses, Cond.code yX8_allLosses cX8_allLosses 5 (some .int), Cond.fieldLink RX8 38 "SetAgain$Still" "week" "LSetAgain$Week;", Cond.fieldLink RX8 42 "SetAgain$Week" "times" "[I"]
def wsX11_best_r3 : List Cond := [Cond.fieldLink RX8 34 "SetAgain$Still" "chair" "LSetAgain$Chair;", Cond.methodLink RX8 47 yX0_lossAt, Cond.instanceMethod yX0_lossAt, Cond.selects RX0 yX0_lossAt yX0_lossAt, Cond.initialized RX0, Cond.code yX0_lossAt cX0_lossAt 9 (some .int), Cond.fieldLink RX0 25 "SetAgain$Chair" "lost" "[I", Cond.fieldLink RX0 21 "SetAgain$Chair" "law" "LSetAgain$Law;", Cond.fieldLink RX0 49 "SetAgain$Law" "holds" "Z", Cond.methodLink RX0 45 Lib.Math.abs.name, Cond.static Lib.Math.abs.name, Cond.code Lib.Math.abs.name Lib.Math.abs.code 1 (some .int), Cond.methodLink RX0 57 Lib.Math.min.name, Cond.methodLink RX0 36 Lib.Math.max.name, Cond.static Lib.Math.max.name, Cond.code Lib.Math.max.name Lib.Math.max.code 2 (some .int), Cond.methodLink RX0 42 yX0_numberOf, Cond.instanceMethod yX0_numberOf, Cond.selects RX0 yX0_numberOf yX0_numberOf, Cond.code yX0_numberOf cX0_numberOf 3 (some .int), Cond.fieldLink RX0 11 "SetAgain$Chair" "told" "[I", Cond.methodLink RX0 53 yX5_valueOf, Cond.instanceMethod yX5_valueOf, Cond.selects RX5 yX5_valueOf yX5_valueOf]
def wsX11_best_r4 : List Cond := [Cond.initialized RX5, Cond.code yX5_valueOf cX5_valueOf 10 (some .int), Cond.fieldLink RX5 46 "SetAgain$Law" "coded" "I", Cond.fieldLink RX5 18 "SetAgain$Law" "code" "[I", Cond.fieldLink RX5 21 "SetAgain$Law" "stack" "[I", Cond.methodLink RX5 99 yX5_operands, Cond.static yX5_operands, Cond.code yX5_operands cX5_operands 1 (some .int), Cond.methodLink RX5 103 yX5_named, Cond.static yX5_named, Cond.code yX5_named cX5_named 5 (some .int), Cond.methodLink RX5 111 Lib.Math.abs.name, Cond.methodLink RX5 107 yX5_worked, Cond.static yX5_worked, Cond.code yX5_worked cX5_worked 3 (some .int), Cond.methodLink RX8 62 yX8_worstLoss, Cond.instanceMethod yX8_worstLoss, Cond.selects RX8 yX8_worstLoss yX8_worstLoss, Cond.code yX8_worstLoss cX8_worstLoss 5 (some .int), Cond.methodLink RX8 53 Lib.Math.max.name]
def wsX11_best : List Cond := .code yX11_best cX11_best 5 (some .int) :: ((wsX11_best_r1 ++ (wsX11_best_r2 ++ (wsX11_best_r3 ++ wsX11_best_r4))) ++ wsX110 ++ wsX100 ++ wsX00 ++ wsX70 ++ wsX80 ++ wsX50)
def wsX11_middle_r1 : List Cond := [Cond.fieldLink RX11 19 "SetAgain" "week" "LSetAgain$Week;", Cond.fieldLink RX11 159 "SetAgain$Week" "sat" "I", Cond.fieldLink RX11 35 "SetAgain" "still" "LSetAgain$Still;", Cond.methodLink RX11 97 yX11_isShelf, Cond.static yX11_isShelf, Cond.initialized RX11, Cond.code yX11_isShelf cX11_isShelf 1 (some .boolean), Cond.methodLink RX11 123 yX11_isPart, Cond.static yX11_isPart, Cond.code yX11_isPart cX11_isPart 1 (some .boolean), Cond.methodLink RX11 153 yX11_readWeek, Cond.instanceMethod yX11_readWeek, Cond.selects RX11 yX11_readWeek yX11_readWeek, Cond.code yX11_readWeek cX11_readWeek 3 (some .int), Cond.fieldLink RX11 80 "SetAgain" "shelves" "[LSetAgain$Shelf;", Cond.fieldLink RX11 12 "SetAgain" "chair" "LSetAgain$Chair;", Cond.fieldLink RX11 310 "SetAgain$Chair" "sitters" "I", Cond.methodLink RX11 209 yX11_refusalOf, Cond.instanceMethod yX11_refusalOf, Cond.selects RX11 yX11_refusalOf yX11_refusalOf, Cond.code yX11_refusalOf cX11_refusalOf 2 (some .int), Cond.fieldLink RX11 100 "SetAgain$Shelf" "sort" "I", Cond.methodLink RX11 320 yX10_reads, Cond.instanceMethod yX10_reads]
def wsX11_middle_r2 : List Cond := [Cond.selects RX10 yX10_reads yX10_reads, Cond.initialized RX10, Cond.code yX10_reads cX10_reads 5 none, Cond.fieldLink RX10 18 "SetAgain$Shelf" "length" "I", Cond.methodLink RX10 24 Lib.Math.min.name, Cond.static Lib.Math.min.name, Cond.initialized "java/lang/Math", Cond.code Lib.Math.min.name Lib.Math.min.code 2 (some .int), Cond.fieldLink RX10 30 "SetAgain$Week" "length" "I", Cond.fieldLink RX10 31 "SetAgain$Week" "sat" "I", Cond.fieldLink RX10 15 "SetAgain$Week" "times" "[I", Cond.fieldLink RX10 34 "SetAgain$Shelf" "elements" "[J", Cond.fieldLink RX10 9 "SetAgain$Week" "sitters" "[I", Cond.methodLink RX11 165 yX8_middleWant, Cond.instanceMethod yX8_middleWant, Cond.selects RX8 yX8_middleWant yX8_middleWant, Cond.initialized RX8, Cond.code yX8_middleWant cX8_middleWant 5 (some .int), Cond.fieldLink RX8 9 "SetAgain$Still" "weight" "[I", Cond.fieldLink RX8 15 "SetAgain$Still" "wanted" "[Z", Cond.methodLink RX8 65 yX8_weighWants, Cond.instanceMethod yX8_weighWants, Cond.selects RX8 yX8_weighWants yX8_weighWants, Cond.code yX8_weighWants cX8_weighWants 7 (some .int)]
def wsX11_middle_r3 : List Cond := [Cond.fieldLink RX8 38 "SetAgain$Still" "week" "LSetAgain$Week;", Cond.fieldLink RX8 42 "SetAgain$Week" "times" "[I", Cond.fieldLink RX8 34 "SetAgain$Still" "chair" "LSetAgain$Chair;", Cond.methodLink RX8 69 yX0_numberOf, Cond.instanceMethod yX0_numberOf, Cond.selects RX0 yX0_numberOf yX0_numberOf, Cond.initialized RX0, Cond.code yX0_numberOf cX0_numberOf 3 (some .int), Cond.fieldLink RX0 11 "SetAgain$Chair" "told" "[I"]
def wsX11_middle : List Cond := .code yX11_middle cX11_middle 4 (some .int) :: ((wsX11_middle_r1 ++ (wsX11_middle_r2 ++ wsX11_middle_r3)) ++ wsX110 ++ wsX100 ++ wsX00 ++ wsX70 ++ wsX80)
def wsX11_shifts_r1 : List Cond := [Cond.fieldLink RX11 19 "SetAgain" "week" "LSetAgain$Week;", Cond.fieldLink RX11 168 "SetAgain$Week" "length" "I", Cond.fieldLink RX11 42 "SetAgain" "turning" "LSetAgain$Turning;", Cond.methodLink RX11 97 yX11_isShelf, Cond.static yX11_isShelf, Cond.initialized RX11, Cond.code yX11_isShelf cX11_isShelf 1 (some .boolean), Cond.methodLink RX11 123 yX11_isPart, Cond.static yX11_isPart, Cond.code yX11_isPart cX11_isPart 1 (some .boolean), Cond.methodLink RX11 153 yX11_readWeek, Cond.instanceMethod yX11_readWeek, Cond.selects RX11 yX11_readWeek yX11_readWeek, Cond.code yX11_readWeek cX11_readWeek 3 (some .int), Cond.fieldLink RX11 80 "SetAgain" "shelves" "[LSetAgain$Shelf;", Cond.fieldLink RX11 12 "SetAgain" "chair" "LSetAgain$Chair;", Cond.fieldLink RX11 310 "SetAgain$Chair" "sitters" "I", Cond.methodLink RX11 209 yX11_refusalOf, Cond.instanceMethod yX11_refusalOf, Cond.selects RX11 yX11_refusalOf yX11_refusalOf, Cond.code yX11_refusalOf cX11_refusalOf 2 (some .int), Cond.fieldLink RX11 100 "SetAgain$Shelf" "sort" "I", Cond.methodLink RX11 320 yX10_reads, Cond.instanceMethod yX10_reads]
def wsX11_shifts_r2 : List Cond := [Cond.selects RX10 yX10_reads yX10_reads, Cond.initialized RX10, Cond.code yX10_reads cX10_reads 5 none, Cond.fieldLink RX10 18 "SetAgain$Shelf" "length" "I", Cond.methodLink RX10 24 Lib.Math.min.name, Cond.static Lib.Math.min.name, Cond.initialized "java/lang/Math", Cond.code Lib.Math.min.name Lib.Math.min.code 2 (some .int), Cond.fieldLink RX10 30 "SetAgain$Week" "length" "I", Cond.fieldLink RX10 31 "SetAgain$Week" "sat" "I", Cond.fieldLink RX10 15 "SetAgain$Week" "times" "[I", Cond.fieldLink RX10 34 "SetAgain$Shelf" "elements" "[J", Cond.fieldLink RX10 9 "SetAgain$Week" "sitters" "[I", Cond.methodLink RX11 171 yX9_shiftByShift, Cond.instanceMethod yX9_shiftByShift, Cond.selects RX9 yX9_shiftByShift yX9_shiftByShift, Cond.initialized RX9, Cond.code yX9_shiftByShift cX9_shiftByShift 6 (some .int), Cond.fieldLink RX9 15 "SetAgain$Turning" "chair" "LSetAgain$Chair;", Cond.fieldLink RX9 27 "SetAgain$Chair" "stands" "[I", Cond.fieldLink RX9 9 "SetAgain$Turning" "ahead" "[I", Cond.methodLink RX9 23 yX9_pay, Cond.instanceMethod yX9_pay, Cond.selects RX9 yX9_pay yX9_pay]
def wsX11_shifts_r3 : List Cond := [Cond.code yX9_pay cX9_pay 6 none, Cond.fieldLink RX9 19 "SetAgain$Turning" "week" "LSetAgain$Week;", Cond.fieldLink RX9 40 "SetAgain$Week" "length" "I", Cond.methodLink RX9 46 yX9_unturned, Cond.instanceMethod yX9_unturned, Cond.selects RX9 yX9_unturned yX9_unturned, Cond.code yX9_unturned cX9_unturned 5 (some .int), Cond.fieldLink RX9 57 "SetAgain$Week" "sitters" "[I", Cond.methodLink RX9 60 yX0_lossAt, Cond.instanceMethod yX0_lossAt, Cond.selects RX0 yX0_lossAt yX0_lossAt, Cond.initialized RX0, Cond.code yX0_lossAt cX0_lossAt 9 (some .int), Cond.fieldLink RX0 25 "SetAgain$Chair" "lost" "[I", Cond.fieldLink RX0 21 "SetAgain$Chair" "law" "LSetAgain$Law;", Cond.fieldLink RX0 49 "SetAgain$Law" "holds" "Z", Cond.methodLink RX0 45 Lib.Math.abs.name, Cond.static Lib.Math.abs.name, Cond.code Lib.Math.abs.name Lib.Math.abs.code 1 (some .int), Cond.methodLink RX0 57 Lib.Math.min.name, Cond.methodLink RX0 36 Lib.Math.max.name, Cond.static Lib.Math.max.name, Cond.code Lib.Math.max.name Lib.Math.max.code 2 (some .int), Cond.methodLink RX0 42 yX0_numberOf]
def wsX11_shifts_r4 : List Cond := [Cond.instanceMethod yX0_numberOf, Cond.selects RX0 yX0_numberOf yX0_numberOf, Cond.code yX0_numberOf cX0_numberOf 3 (some .int), Cond.fieldLink RX0 11 "SetAgain$Chair" "told" "[I", Cond.methodLink RX0 53 yX5_valueOf, Cond.instanceMethod yX5_valueOf, Cond.selects RX5 yX5_valueOf yX5_valueOf, Cond.initialized RX5, Cond.code yX5_valueOf cX5_valueOf 10 (some .int), Cond.fieldLink RX5 46 "SetAgain$Law" "coded" "I", Cond.fieldLink RX5 18 "SetAgain$Law" "code" "[I", Cond.fieldLink RX5 21 "SetAgain$Law" "stack" "[I", Cond.methodLink RX5 99 yX5_operands, Cond.static yX5_operands, Cond.code yX5_operands cX5_operands 1 (some .int), Cond.methodLink RX5 103 yX5_named, Cond.static yX5_named, Cond.code yX5_named cX5_named 5 (some .int), Cond.methodLink RX5 111 Lib.Math.abs.name, Cond.methodLink RX5 107 yX5_worked, Cond.static yX5_worked, Cond.code yX5_worked cX5_worked 3 (some .int), Cond.methodLink RX9 36 yX0_slipped, Cond.instanceMethod yX0_slipped]
def wsX11_shifts_r5 : List Cond := [Cond.selects RX0 yX0_slipped yX0_slipped, Cond.code yX0_slipped cX0_slipped 3 (some .int), Cond.methodLink RX9 49 yX0_priceOf, Cond.instanceMethod yX0_priceOf, Cond.selects RX0 yX0_priceOf yX0_priceOf, Cond.code yX0_priceOf cX0_priceOf 2 (some .int), Cond.methodLink RX9 53 yX9_spread, Cond.instanceMethod yX9_spread, Cond.selects RX9 yX9_spread yX9_spread, Cond.code yX9_spread cX9_spread 4 none, Cond.methodLink RX9 63 Lib.Math.min.name, Cond.methodLink RX9 32 yX9_leastSetting, Cond.instanceMethod yX9_leastSetting, Cond.selects RX9 yX9_leastSetting yX9_leastSetting, Cond.code yX9_leastSetting cX9_leastSetting 7 (some .int), Cond.methodLink RX9 68 Lib.Math.abs.name]
def wsX11_shifts : List Cond := .code yX11_shifts cX11_shifts 5 (some .int) :: ((wsX11_shifts_r1 ++ (wsX11_shifts_r2 ++ (wsX11_shifts_r3 ++ (wsX11_shifts_r4 ++ wsX11_shifts_r5)))) ++ wsX110 ++ wsX100 ++ wsX00 ++ wsX70 ++ wsX90 ++ wsX50)
def wsX11_once_r1 : List Cond := [Cond.fieldLink RX11 42 "SetAgain" "turning" "LSetAgain$Turning;", Cond.methodLink RX11 97 yX11_isShelf, Cond.static yX11_isShelf, Cond.initialized RX11, Cond.code yX11_isShelf cX11_isShelf 1 (some .boolean), Cond.methodLink RX11 123 yX11_isPart, Cond.static yX11_isPart, Cond.code yX11_isPart cX11_isPart 1 (some .boolean), Cond.methodLink RX11 153 yX11_readWeek, Cond.instanceMethod yX11_readWeek, Cond.selects RX11 yX11_readWeek yX11_readWeek, Cond.code yX11_readWeek cX11_readWeek 3 (some .int), Cond.fieldLink RX11 19 "SetAgain" "week" "LSetAgain$Week;", Cond.fieldLink RX11 80 "SetAgain" "shelves" "[LSetAgain$Shelf;", Cond.fieldLink RX11 12 "SetAgain" "chair" "LSetAgain$Chair;", Cond.fieldLink RX11 310 "SetAgain$Chair" "sitters" "I", Cond.methodLink RX11 209 yX11_refusalOf, Cond.instanceMethod yX11_refusalOf, Cond.selects RX11 yX11_refusalOf yX11_refusalOf, Cond.code yX11_refusalOf cX11_refusalOf 2 (some .int), Cond.fieldLink RX11 100 "SetAgain$Shelf" "sort" "I", Cond.methodLink RX11 320 yX10_reads, Cond.instanceMethod yX10_reads, Cond.selects RX10 yX10_reads yX10_reads]
def wsX11_once_r2 : List Cond := [Cond.initialized RX10, Cond.code yX10_reads cX10_reads 5 none, Cond.fieldLink RX10 18 "SetAgain$Shelf" "length" "I", Cond.methodLink RX10 24 Lib.Math.min.name, Cond.static Lib.Math.min.name, Cond.initialized "java/lang/Math", Cond.code Lib.Math.min.name Lib.Math.min.code 2 (some .int), Cond.fieldLink RX10 30 "SetAgain$Week" "length" "I", Cond.fieldLink RX10 31 "SetAgain$Week" "sat" "I", Cond.fieldLink RX10 15 "SetAgain$Week" "times" "[I", Cond.fieldLink RX10 34 "SetAgain$Shelf" "elements" "[J", Cond.fieldLink RX10 9 "SetAgain$Week" "sitters" "[I", Cond.methodLink RX11 174 yX9_oneTurning, Cond.instanceMethod yX9_oneTurning, Cond.selects RX9 yX9_oneTurning yX9_oneTurning, Cond.initialized RX9, Cond.code yX9_oneTurning cX9_oneTurning 12 (some .int), Cond.fieldLink RX9 15 "SetAgain$Turning" "chair" "LSetAgain$Chair;", Cond.fieldLink RX9 27 "SetAgain$Chair" "stands" "[I", Cond.fieldLink RX9 9 "SetAgain$Turning" "ahead" "[I", Cond.fieldLink RX9 19 "SetAgain$Turning" "week" "LSetAgain$Week;", Cond.fieldLink RX9 40 "SetAgain$Week" "length" "I", Cond.methodLink RX9 68 Lib.Math.abs.name, Cond.static Lib.Math.abs.name]
def wsX11_once_r3 : List Cond := [Cond.code Lib.Math.abs.name Lib.Math.abs.code 1 (some .int), Cond.fieldLink RX9 57 "SetAgain$Week" "sitters" "[I", Cond.methodLink RX9 23 yX9_pay, Cond.instanceMethod yX9_pay, Cond.selects RX9 yX9_pay yX9_pay, Cond.code yX9_pay cX9_pay 6 none, Cond.methodLink RX9 46 yX9_unturned, Cond.instanceMethod yX9_unturned, Cond.selects RX9 yX9_unturned yX9_unturned, Cond.code yX9_unturned cX9_unturned 5 (some .int), Cond.methodLink RX9 60 yX0_lossAt, Cond.instanceMethod yX0_lossAt, Cond.selects RX0 yX0_lossAt yX0_lossAt, Cond.initialized RX0, Cond.code yX0_lossAt cX0_lossAt 9 (some .int), Cond.fieldLink RX0 25 "SetAgain$Chair" "lost" "[I", Cond.fieldLink RX0 21 "SetAgain$Chair" "law" "LSetAgain$Law;", Cond.fieldLink RX0 49 "SetAgain$Law" "holds" "Z", Cond.methodLink RX0 45 Lib.Math.abs.name, Cond.methodLink RX0 57 Lib.Math.min.name, Cond.methodLink RX0 36 Lib.Math.max.name, Cond.static Lib.Math.max.name, Cond.code Lib.Math.max.name Lib.Math.max.code 2 (some .int), Cond.methodLink RX0 42 yX0_numberOf]
def wsX11_once_r4 : List Cond := [Cond.instanceMethod yX0_numberOf, Cond.selects RX0 yX0_numberOf yX0_numberOf, Cond.code yX0_numberOf cX0_numberOf 3 (some .int), Cond.fieldLink RX0 11 "SetAgain$Chair" "told" "[I", Cond.methodLink RX0 53 yX5_valueOf, Cond.instanceMethod yX5_valueOf, Cond.selects RX5 yX5_valueOf yX5_valueOf, Cond.initialized RX5, Cond.code yX5_valueOf cX5_valueOf 10 (some .int), Cond.fieldLink RX5 46 "SetAgain$Law" "coded" "I", Cond.fieldLink RX5 18 "SetAgain$Law" "code" "[I", Cond.fieldLink RX5 21 "SetAgain$Law" "stack" "[I", Cond.methodLink RX5 99 yX5_operands, Cond.static yX5_operands, Cond.code yX5_operands cX5_operands 1 (some .int), Cond.methodLink RX5 103 yX5_named, Cond.static yX5_named, Cond.code yX5_named cX5_named 5 (some .int), Cond.methodLink RX5 111 Lib.Math.abs.name, Cond.methodLink RX5 107 yX5_worked, Cond.static yX5_worked, Cond.code yX5_worked cX5_worked 3 (some .int), Cond.methodLink RX9 36 yX0_slipped, Cond.instanceMethod yX0_slipped]
def wsX11_once_r5 : List Cond := [Cond.selects RX0 yX0_slipped yX0_slipped, Cond.code yX0_slipped cX0_slipped 3 (some .int), Cond.methodLink RX9 49 yX0_priceOf, Cond.instanceMethod yX0_priceOf, Cond.selects RX0 yX0_priceOf yX0_priceOf, Cond.code yX0_priceOf cX0_priceOf 2 (some .int), Cond.methodLink RX9 53 yX9_spread, Cond.instanceMethod yX9_spread, Cond.selects RX9 yX9_spread yX9_spread, Cond.code yX9_spread cX9_spread 4 none, Cond.methodLink RX9 63 Lib.Math.min.name]
def wsX11_once : List Cond := .code yX11_once cX11_once 5 (some .int) :: ((wsX11_once_r1 ++ (wsX11_once_r2 ++ (wsX11_once_r3 ++ (wsX11_once_r4 ++ wsX11_once_r5)))) ++ wsX110 ++ wsX00 ++ wsX70 ++ wsX100 ++ wsX90 ++ wsX50)
def wsX11_week_r1 : List Cond := [Cond.fieldLink RX11 28 "SetAgain" "habits" "LSetAgain$Habits;", Cond.fieldLink RX11 19 "SetAgain" "week" "LSetAgain$Week;", Cond.fieldLink RX11 168 "SetAgain$Week" "length" "I", Cond.fieldLink RX11 184 "SetAgain$Habits" "losses" "I", Cond.fieldLink RX11 187 "SetAgain$Habits" "costs" "I", Cond.methodLink RX11 97 yX11_isShelf, Cond.static yX11_isShelf, Cond.initialized RX11, Cond.code yX11_isShelf cX11_isShelf 1 (some .boolean), Cond.methodLink RX11 153 yX11_readWeek, Cond.instanceMethod yX11_readWeek, Cond.selects RX11 yX11_readWeek yX11_readWeek, Cond.code yX11_readWeek cX11_readWeek 3 (some .int), Cond.fieldLink RX11 80 "SetAgain" "shelves" "[LSetAgain$Shelf;", Cond.fieldLink RX11 12 "SetAgain" "chair" "LSetAgain$Chair;", Cond.fieldLink RX11 310 "SetAgain$Chair" "sitters" "I", Cond.methodLink RX11 209 yX11_refusalOf, Cond.instanceMethod yX11_refusalOf, Cond.selects RX11 yX11_refusalOf yX11_refusalOf, Cond.code yX11_refusalOf cX11_refusalOf 2 (some .int), Cond.fieldLink RX11 100 "SetAgain$Shelf" "sort" "I", Cond.methodLink RX11 320 yX10_reads, Cond.instanceMethod yX10_reads, Cond.selects RX10 yX10_reads yX10_reads]
def wsX11_week_r2 : List Cond := [Cond.initialized RX10, Cond.code yX10_reads cX10_reads 5 none, Cond.fieldLink RX10 18 "SetAgain$Shelf" "length" "I", Cond.methodLink RX10 24 Lib.Math.min.name, Cond.static Lib.Math.min.name, Cond.initialized "java/lang/Math", Cond.code Lib.Math.min.name Lib.Math.min.code 2 (some .int), Cond.fieldLink RX10 30 "SetAgain$Week" "length" "I", Cond.fieldLink RX10 31 "SetAgain$Week" "sat" "I", Cond.fieldLink RX10 15 "SetAgain$Week" "times" "[I", Cond.fieldLink RX10 34 "SetAgain$Shelf" "elements" "[J", Cond.fieldLink RX10 9 "SetAgain$Week" "sitters" "[I", Cond.methodLink RX11 177 yX4_live, Cond.instanceMethod yX4_live, Cond.selects RX4 yX4_live yX4_live, Cond.initialized RX4, Cond.code yX4_live cX4_live 3 none, Cond.fieldLink RX4 32 "SetAgain$Habits" "week" "LSetAgain$Week;", Cond.fieldLink RX4 53 "SetAgain$Week" "sitters" "[I", Cond.methodLink RX4 50 yX4_begin, Cond.instanceMethod yX4_begin, Cond.selects RX4 yX4_begin yX4_begin, Cond.code yX4_begin cX4_begin 2 none, Cond.fieldLink RX4 36 "SetAgain$Habits" "losses" "I"]
def wsX11_week_r3 : List Cond := [Cond.fieldLink RX4 39 "SetAgain$Habits" "costs" "I", Cond.fieldLink RX4 15 "SetAgain$Habits" "turns" "[I", Cond.fieldLink RX4 18 "SetAgain$Habits" "spared" "[I", Cond.methodLink RX4 42 yX4_standAsNow, Cond.instanceMethod yX4_standAsNow, Cond.selects RX4 yX4_standAsNow yX4_standAsNow, Cond.code yX4_standAsNow cX4_standAsNow 2 none, Cond.fieldLink RX4 9 "SetAgain$Habits" "stand" "[I", Cond.fieldLink RX4 28 "SetAgain$Habits" "chair" "LSetAgain$Chair;", Cond.fieldLink RX4 45 "SetAgain$Chair" "stands" "[I", Cond.methodLink RX4 58 yX4_pass, Cond.instanceMethod yX4_pass, Cond.selects RX4 yX4_pass yX4_pass, Cond.code yX4_pass cX4_pass 2 none, Cond.fieldLink RX4 25 "SetAgain$Habits" "leaver" "I", Cond.methodLink RX4 62 yX4_comes, Cond.instanceMethod yX4_comes, Cond.selects RX4 yX4_comes yX4_comes, Cond.code yX4_comes cX4_comes 6 none, Cond.fieldLink RX4 21 "SetAgain$Habits" "tried" "I", Cond.fieldLink RX4 71 "SetAgain$Habits" "triedNear" "I", Cond.methodLink RX4 89 Lib.Math.max.name, Cond.static Lib.Math.max.name, Cond.code Lib.Math.max.name Lib.Math.max.code 2 (some .int)]
def wsX11_week_r4 : List Cond := [Cond.methodLink RX4 74 yX0_numberOf, Cond.instanceMethod yX0_numberOf, Cond.selects RX0 yX0_numberOf yX0_numberOf, Cond.initialized RX0, Cond.code yX0_numberOf cX0_numberOf 3 (some .int), Cond.fieldLink RX0 11 "SetAgain$Chair" "told" "[I", Cond.methodLink RX4 78 yX0_turned, Cond.instanceMethod yX0_turned, Cond.selects RX0 yX0_turned yX0_turned, Cond.code yX0_turned cX0_turned 6 (some .int), Cond.methodLink RX0 45 Lib.Math.abs.name, Cond.static Lib.Math.abs.name, Cond.code Lib.Math.abs.name Lib.Math.abs.code 1 (some .int), Cond.methodLink RX0 42 yX0_numberOf, Cond.methodLink RX4 82 yX4_turnTo, Cond.instanceMethod yX4_turnTo, Cond.selects RX4 yX4_turnTo yX4_turnTo, Cond.code yX4_turnTo cX4_turnTo 5 (some .int), Cond.methodLink RX4 101 Lib.Math.abs.name, Cond.methodLink RX4 105 yX0_priceOf, Cond.instanceMethod yX0_priceOf, Cond.selects RX0 yX0_priceOf yX0_priceOf, Cond.code yX0_priceOf cX0_priceOf 2 (some .int), Cond.methodLink RX4 85 yX0_fetch]
def wsX11_week_r5 : List Cond := [Cond.instanceMethod yX0_fetch, Cond.selects RX0 yX0_fetch yX0_fetch, Cond.code yX0_fetch cX0_fetch 1 (some .int), Cond.methodLink RX4 94 yX0_lossAt, Cond.instanceMethod yX0_lossAt, Cond.selects RX0 yX0_lossAt yX0_lossAt, Cond.code yX0_lossAt cX0_lossAt 9 (some .int), Cond.fieldLink RX0 25 "SetAgain$Chair" "lost" "[I", Cond.fieldLink RX0 21 "SetAgain$Chair" "law" "LSetAgain$Law;", Cond.fieldLink RX0 49 "SetAgain$Law" "holds" "Z", Cond.methodLink RX0 57 Lib.Math.min.name, Cond.methodLink RX0 36 Lib.Math.max.name, Cond.methodLink RX0 53 yX5_valueOf, Cond.instanceMethod yX5_valueOf, Cond.selects RX5 yX5_valueOf yX5_valueOf, Cond.initialized RX5, Cond.code yX5_valueOf cX5_valueOf 10 (some .int), Cond.fieldLink RX5 46 "SetAgain$Law" "coded" "I", Cond.fieldLink RX5 18 "SetAgain$Law" "code" "[I", Cond.fieldLink RX5 21 "SetAgain$Law" "stack" "[I", Cond.methodLink RX5 99 yX5_operands, Cond.static yX5_operands, Cond.code yX5_operands cX5_operands 1 (some .int), Cond.methodLink RX5 103 yX5_named]
def wsX11_week_r6 : List Cond := [Cond.static yX5_named, Cond.code yX5_named cX5_named 5 (some .int), Cond.methodLink RX5 111 Lib.Math.abs.name, Cond.methodLink RX5 107 yX5_worked, Cond.static yX5_worked, Cond.code yX5_worked cX5_worked 3 (some .int), Cond.methodLink RX4 65 yX4_leaves, Cond.instanceMethod yX4_leaves, Cond.selects RX4 yX4_leaves yX4_leaves, Cond.code yX4_leaves cX4_leaves 2 none, Cond.fieldLink RX4 98 "SetAgain$Habits" "left" "I", Cond.methodLink RX4 68 yX4_slip, Cond.instanceMethod yX4_slip, Cond.selects RX4 yX4_slip yX4_slip, Cond.code yX4_slip cX4_slip 2 none, Cond.methodLink RX4 108 yX0_slipped, Cond.instanceMethod yX0_slipped, Cond.selects RX0 yX0_slipped yX0_slipped, Cond.code yX0_slipped cX0_slipped 3 (some .int), Cond.methodLink RX11 181 yX4_allTurns, Cond.instanceMethod yX4_allTurns, Cond.selects RX4 yX4_allTurns yX4_allTurns, Cond.code yX4_allTurns cX4_allTurns 3 (some .int)]
def wsX11_week : List Cond := .code yX11_week cX11_week 4 (some .int) :: ((wsX11_week_r1 ++ (wsX11_week_r2 ++ (wsX11_week_r3 ++ (wsX11_week_r4 ++ (wsX11_week_r5 ++ wsX11_week_r6))))) ++ wsX110 ++ wsX100 ++ wsX40 ++ wsX00 ++ wsX70 ++ wsX50)
def wsX11_stands_r1 : List Cond := [Cond.fieldLink RX11 19 "SetAgain" "week" "LSetAgain$Week;", Cond.fieldLink RX11 168 "SetAgain$Week" "length" "I", Cond.fieldLink RX11 28 "SetAgain" "habits" "LSetAgain$Habits;", Cond.fieldLink RX11 190 "SetAgain$Habits" "stand" "[I", Cond.methodLink RX11 97 yX11_isShelf, Cond.static yX11_isShelf, Cond.initialized RX11, Cond.code yX11_isShelf cX11_isShelf 1 (some .boolean), Cond.methodLink RX11 123 yX11_isPart, Cond.static yX11_isPart, Cond.code yX11_isPart cX11_isPart 1 (some .boolean), Cond.methodLink RX11 153 yX11_readWeek, Cond.instanceMethod yX11_readWeek, Cond.selects RX11 yX11_readWeek yX11_readWeek, Cond.code yX11_readWeek cX11_readWeek 3 (some .int), Cond.fieldLink RX11 80 "SetAgain" "shelves" "[LSetAgain$Shelf;", Cond.fieldLink RX11 12 "SetAgain" "chair" "LSetAgain$Chair;", Cond.fieldLink RX11 310 "SetAgain$Chair" "sitters" "I", Cond.methodLink RX11 209 yX11_refusalOf, Cond.instanceMethod yX11_refusalOf, Cond.selects RX11 yX11_refusalOf yX11_refusalOf, Cond.code yX11_refusalOf cX11_refusalOf 2 (some .int), Cond.fieldLink RX11 100 "SetAgain$Shelf" "sort" "I", Cond.methodLink RX11 320 yX10_reads]
def wsX11_stands_r2 : List Cond := [Cond.instanceMethod yX10_reads, Cond.selects RX10 yX10_reads yX10_reads, Cond.initialized RX10, Cond.code yX10_reads cX10_reads 5 none, Cond.fieldLink RX10 18 "SetAgain$Shelf" "length" "I", Cond.methodLink RX10 24 Lib.Math.min.name, Cond.static Lib.Math.min.name, Cond.initialized "java/lang/Math", Cond.code Lib.Math.min.name Lib.Math.min.code 2 (some .int), Cond.fieldLink RX10 30 "SetAgain$Week" "length" "I", Cond.fieldLink RX10 31 "SetAgain$Week" "sat" "I", Cond.fieldLink RX10 15 "SetAgain$Week" "times" "[I", Cond.fieldLink RX10 34 "SetAgain$Shelf" "elements" "[J", Cond.fieldLink RX10 9 "SetAgain$Week" "sitters" "[I", Cond.methodLink RX11 177 yX4_live, Cond.instanceMethod yX4_live, Cond.selects RX4 yX4_live yX4_live, Cond.initialized RX4, Cond.code yX4_live cX4_live 3 none, Cond.fieldLink RX4 32 "SetAgain$Habits" "week" "LSetAgain$Week;", Cond.fieldLink RX4 53 "SetAgain$Week" "sitters" "[I", Cond.methodLink RX4 50 yX4_begin, Cond.instanceMethod yX4_begin, Cond.selects RX4 yX4_begin yX4_begin]
def wsX11_stands_r3 : List Cond := [Cond.code yX4_begin cX4_begin 2 none, Cond.fieldLink RX4 36 "SetAgain$Habits" "losses" "I", Cond.fieldLink RX4 39 "SetAgain$Habits" "costs" "I", Cond.fieldLink RX4 15 "SetAgain$Habits" "turns" "[I", Cond.fieldLink RX4 18 "SetAgain$Habits" "spared" "[I", Cond.methodLink RX4 42 yX4_standAsNow, Cond.instanceMethod yX4_standAsNow, Cond.selects RX4 yX4_standAsNow yX4_standAsNow, Cond.code yX4_standAsNow cX4_standAsNow 2 none, Cond.fieldLink RX4 9 "SetAgain$Habits" "stand" "[I", Cond.fieldLink RX4 28 "SetAgain$Habits" "chair" "LSetAgain$Chair;", Cond.fieldLink RX4 45 "SetAgain$Chair" "stands" "[I", Cond.methodLink RX4 58 yX4_pass, Cond.instanceMethod yX4_pass, Cond.selects RX4 yX4_pass yX4_pass, Cond.code yX4_pass cX4_pass 2 none, Cond.fieldLink RX4 25 "SetAgain$Habits" "leaver" "I", Cond.methodLink RX4 62 yX4_comes, Cond.instanceMethod yX4_comes, Cond.selects RX4 yX4_comes yX4_comes, Cond.code yX4_comes cX4_comes 6 none, Cond.fieldLink RX4 21 "SetAgain$Habits" "tried" "I", Cond.fieldLink RX4 71 "SetAgain$Habits" "triedNear" "I", Cond.methodLink RX4 89 Lib.Math.max.name]
def wsX11_stands_r4 : List Cond := [Cond.static Lib.Math.max.name, Cond.code Lib.Math.max.name Lib.Math.max.code 2 (some .int), Cond.methodLink RX4 74 yX0_numberOf, Cond.instanceMethod yX0_numberOf, Cond.selects RX0 yX0_numberOf yX0_numberOf, Cond.initialized RX0, Cond.code yX0_numberOf cX0_numberOf 3 (some .int), Cond.fieldLink RX0 11 "SetAgain$Chair" "told" "[I", Cond.methodLink RX4 78 yX0_turned, Cond.instanceMethod yX0_turned, Cond.selects RX0 yX0_turned yX0_turned, Cond.code yX0_turned cX0_turned 6 (some .int), Cond.methodLink RX0 45 Lib.Math.abs.name, Cond.static Lib.Math.abs.name, Cond.code Lib.Math.abs.name Lib.Math.abs.code 1 (some .int), Cond.methodLink RX0 42 yX0_numberOf, Cond.methodLink RX4 82 yX4_turnTo, Cond.instanceMethod yX4_turnTo, Cond.selects RX4 yX4_turnTo yX4_turnTo, Cond.code yX4_turnTo cX4_turnTo 5 (some .int), Cond.methodLink RX4 101 Lib.Math.abs.name, Cond.methodLink RX4 105 yX0_priceOf, Cond.instanceMethod yX0_priceOf, Cond.selects RX0 yX0_priceOf yX0_priceOf]
def wsX11_stands_r5 : List Cond := [Cond.code yX0_priceOf cX0_priceOf 2 (some .int), Cond.methodLink RX4 85 yX0_fetch, Cond.instanceMethod yX0_fetch, Cond.selects RX0 yX0_fetch yX0_fetch, Cond.code yX0_fetch cX0_fetch 1 (some .int), Cond.methodLink RX4 94 yX0_lossAt, Cond.instanceMethod yX0_lossAt, Cond.selects RX0 yX0_lossAt yX0_lossAt, Cond.code yX0_lossAt cX0_lossAt 9 (some .int), Cond.fieldLink RX0 25 "SetAgain$Chair" "lost" "[I", Cond.fieldLink RX0 21 "SetAgain$Chair" "law" "LSetAgain$Law;", Cond.fieldLink RX0 49 "SetAgain$Law" "holds" "Z", Cond.methodLink RX0 57 Lib.Math.min.name, Cond.methodLink RX0 36 Lib.Math.max.name, Cond.methodLink RX0 53 yX5_valueOf, Cond.instanceMethod yX5_valueOf, Cond.selects RX5 yX5_valueOf yX5_valueOf, Cond.initialized RX5, Cond.code yX5_valueOf cX5_valueOf 10 (some .int), Cond.fieldLink RX5 46 "SetAgain$Law" "coded" "I", Cond.fieldLink RX5 18 "SetAgain$Law" "code" "[I", Cond.fieldLink RX5 21 "SetAgain$Law" "stack" "[I", Cond.methodLink RX5 99 yX5_operands, Cond.static yX5_operands]
def wsX11_stands_r6 : List Cond := [Cond.code yX5_operands cX5_operands 1 (some .int), Cond.methodLink RX5 103 yX5_named, Cond.static yX5_named, Cond.code yX5_named cX5_named 5 (some .int), Cond.methodLink RX5 111 Lib.Math.abs.name, Cond.methodLink RX5 107 yX5_worked, Cond.static yX5_worked, Cond.code yX5_worked cX5_worked 3 (some .int), Cond.methodLink RX4 65 yX4_leaves, Cond.instanceMethod yX4_leaves, Cond.selects RX4 yX4_leaves yX4_leaves, Cond.code yX4_leaves cX4_leaves 2 none, Cond.fieldLink RX4 98 "SetAgain$Habits" "left" "I", Cond.methodLink RX4 68 yX4_slip, Cond.instanceMethod yX4_slip, Cond.selects RX4 yX4_slip yX4_slip, Cond.code yX4_slip cX4_slip 2 none, Cond.methodLink RX4 108 yX0_slipped, Cond.instanceMethod yX0_slipped, Cond.selects RX0 yX0_slipped yX0_slipped, Cond.code yX0_slipped cX0_slipped 3 (some .int)]
def wsX11_stands : List Cond := .code yX11_stands cX11_stands 5 (some .int) :: ((wsX11_stands_r1 ++ (wsX11_stands_r2 ++ (wsX11_stands_r3 ++ (wsX11_stands_r4 ++ (wsX11_stands_r5 ++ wsX11_stands_r6))))) ++ wsX110 ++ wsX100 ++ wsX40 ++ wsX00 ++ wsX70 ++ wsX50)
def wsX11_pays_r1 : List Cond := [Cond.fieldLink RX11 12 "SetAgain" "chair" "LSetAgain$Chair;", Cond.fieldLink RX11 28 "SetAgain" "habits" "LSetAgain$Habits;", Cond.methodLink RX11 97 yX11_isShelf, Cond.static yX11_isShelf, Cond.initialized RX11, Cond.code yX11_isShelf cX11_isShelf 1 (some .boolean), Cond.methodLink RX11 146 yX0_has, Cond.instanceMethod yX0_has, Cond.selects RX0 yX0_has yX0_has, Cond.initialized RX0, Cond.code yX0_has cX0_has 2 (some .boolean), Cond.fieldLink RX0 28 "SetAgain$Chair" "sitters" "I", Cond.methodLink RX11 153 yX11_readWeek, Cond.instanceMethod yX11_readWeek, Cond.selects RX11 yX11_readWeek yX11_readWeek, Cond.code yX11_readWeek cX11_readWeek 3 (some .int), Cond.fieldLink RX11 19 "SetAgain" "week" "LSetAgain$Week;", Cond.fieldLink RX11 80 "SetAgain" "shelves" "[LSetAgain$Shelf;", Cond.fieldLink RX11 310 "SetAgain$Chair" "sitters" "I", Cond.methodLink RX11 209 yX11_refusalOf, Cond.instanceMethod yX11_refusalOf, Cond.selects RX11 yX11_refusalOf yX11_refusalOf, Cond.code yX11_refusalOf cX11_refusalOf 2 (some .int), Cond.fieldLink RX11 100 "SetAgain$Shelf" "sort" "I"]
def wsX11_pays_r2 : List Cond := [Cond.methodLink RX11 320 yX10_reads, Cond.instanceMethod yX10_reads, Cond.selects RX10 yX10_reads yX10_reads, Cond.initialized RX10, Cond.code yX10_reads cX10_reads 5 none, Cond.fieldLink RX10 18 "SetAgain$Shelf" "length" "I", Cond.methodLink RX10 24 Lib.Math.min.name, Cond.static Lib.Math.min.name, Cond.initialized "java/lang/Math", Cond.code Lib.Math.min.name Lib.Math.min.code 2 (some .int), Cond.fieldLink RX10 30 "SetAgain$Week" "length" "I", Cond.fieldLink RX10 31 "SetAgain$Week" "sat" "I", Cond.fieldLink RX10 15 "SetAgain$Week" "times" "[I", Cond.fieldLink RX10 34 "SetAgain$Shelf" "elements" "[J", Cond.fieldLink RX10 9 "SetAgain$Week" "sitters" "[I", Cond.methodLink RX11 193 yX4_bestNear, Cond.instanceMethod yX4_bestNear, Cond.selects RX4 yX4_bestNear yX4_bestNear, Cond.initialized RX4, Cond.code yX4_bestNear cX4_bestNear 6 (some .int), Cond.fieldLink RX4 21 "SetAgain$Habits" "tried" "I", Cond.fieldLink RX4 71 "SetAgain$Habits" "triedNear" "I", Cond.fieldLink RX4 32 "SetAgain$Habits" "week" "LSetAgain$Week;", Cond.fieldLink RX4 111 "SetAgain$Week" "length" "I"]
def wsX11_pays_r3 : List Cond := [Cond.fieldLink RX4 39 "SetAgain$Habits" "costs" "I", Cond.methodLink RX4 114 yX4_live, Cond.instanceMethod yX4_live, Cond.selects RX4 yX4_live yX4_live, Cond.code yX4_live cX4_live 3 none, Cond.fieldLink RX4 53 "SetAgain$Week" "sitters" "[I", Cond.methodLink RX4 50 yX4_begin, Cond.instanceMethod yX4_begin, Cond.selects RX4 yX4_begin yX4_begin, Cond.code yX4_begin cX4_begin 2 none, Cond.fieldLink RX4 36 "SetAgain$Habits" "losses" "I", Cond.fieldLink RX4 15 "SetAgain$Habits" "turns" "[I", Cond.fieldLink RX4 18 "SetAgain$Habits" "spared" "[I", Cond.methodLink RX4 42 yX4_standAsNow, Cond.instanceMethod yX4_standAsNow, Cond.selects RX4 yX4_standAsNow yX4_standAsNow, Cond.code yX4_standAsNow cX4_standAsNow 2 none, Cond.fieldLink RX4 9 "SetAgain$Habits" "stand" "[I", Cond.fieldLink RX4 28 "SetAgain$Habits" "chair" "LSetAgain$Chair;", Cond.fieldLink RX4 45 "SetAgain$Chair" "stands" "[I", Cond.methodLink RX4 58 yX4_pass, Cond.instanceMethod yX4_pass, Cond.selects RX4 yX4_pass yX4_pass, Cond.code yX4_pass cX4_pass 2 none]
def wsX11_pays_r4 : List Cond := [Cond.fieldLink RX4 25 "SetAgain$Habits" "leaver" "I", Cond.methodLink RX4 62 yX4_comes, Cond.instanceMethod yX4_comes, Cond.selects RX4 yX4_comes yX4_comes, Cond.code yX4_comes cX4_comes 6 none, Cond.methodLink RX4 89 Lib.Math.max.name, Cond.static Lib.Math.max.name, Cond.code Lib.Math.max.name Lib.Math.max.code 2 (some .int), Cond.methodLink RX4 74 yX0_numberOf, Cond.instanceMethod yX0_numberOf, Cond.selects RX0 yX0_numberOf yX0_numberOf, Cond.code yX0_numberOf cX0_numberOf 3 (some .int), Cond.fieldLink RX0 11 "SetAgain$Chair" "told" "[I", Cond.methodLink RX4 78 yX0_turned, Cond.instanceMethod yX0_turned, Cond.selects RX0 yX0_turned yX0_turned, Cond.code yX0_turned cX0_turned 6 (some .int), Cond.methodLink RX0 45 Lib.Math.abs.name, Cond.static Lib.Math.abs.name, Cond.code Lib.Math.abs.name Lib.Math.abs.code 1 (some .int), Cond.methodLink RX0 42 yX0_numberOf, Cond.methodLink RX4 82 yX4_turnTo, Cond.instanceMethod yX4_turnTo, Cond.selects RX4 yX4_turnTo yX4_turnTo]
def wsX11_pays_r5 : List Cond := [Cond.code yX4_turnTo cX4_turnTo 5 (some .int), Cond.methodLink RX4 101 Lib.Math.abs.name, Cond.methodLink RX4 105 yX0_priceOf, Cond.instanceMethod yX0_priceOf, Cond.selects RX0 yX0_priceOf yX0_priceOf, Cond.code yX0_priceOf cX0_priceOf 2 (some .int), Cond.methodLink RX4 85 yX0_fetch, Cond.instanceMethod yX0_fetch, Cond.selects RX0 yX0_fetch yX0_fetch, Cond.code yX0_fetch cX0_fetch 1 (some .int), Cond.methodLink RX4 94 yX0_lossAt, Cond.instanceMethod yX0_lossAt, Cond.selects RX0 yX0_lossAt yX0_lossAt, Cond.code yX0_lossAt cX0_lossAt 9 (some .int), Cond.fieldLink RX0 25 "SetAgain$Chair" "lost" "[I", Cond.fieldLink RX0 21 "SetAgain$Chair" "law" "LSetAgain$Law;", Cond.fieldLink RX0 49 "SetAgain$Law" "holds" "Z", Cond.methodLink RX0 57 Lib.Math.min.name, Cond.methodLink RX0 36 Lib.Math.max.name, Cond.methodLink RX0 53 yX5_valueOf, Cond.instanceMethod yX5_valueOf, Cond.selects RX5 yX5_valueOf yX5_valueOf, Cond.initialized RX5, Cond.code yX5_valueOf cX5_valueOf 10 (some .int)]
def wsX11_pays_r6 : List Cond := [Cond.fieldLink RX5 46 "SetAgain$Law" "coded" "I", Cond.fieldLink RX5 18 "SetAgain$Law" "code" "[I", Cond.fieldLink RX5 21 "SetAgain$Law" "stack" "[I", Cond.methodLink RX5 99 yX5_operands, Cond.static yX5_operands, Cond.code yX5_operands cX5_operands 1 (some .int), Cond.methodLink RX5 103 yX5_named, Cond.static yX5_named, Cond.code yX5_named cX5_named 5 (some .int), Cond.methodLink RX5 111 Lib.Math.abs.name, Cond.methodLink RX5 107 yX5_worked, Cond.static yX5_worked, Cond.code yX5_worked cX5_worked 3 (some .int), Cond.methodLink RX4 65 yX4_leaves, Cond.instanceMethod yX4_leaves, Cond.selects RX4 yX4_leaves yX4_leaves, Cond.code yX4_leaves cX4_leaves 2 none, Cond.fieldLink RX4 98 "SetAgain$Habits" "left" "I", Cond.methodLink RX4 68 yX4_slip, Cond.instanceMethod yX4_slip, Cond.selects RX4 yX4_slip yX4_slip, Cond.code yX4_slip cX4_slip 2 none, Cond.methodLink RX4 108 yX0_slipped, Cond.instanceMethod yX0_slipped]
def wsX11_pays_r7 : List Cond := [Cond.selects RX0 yX0_slipped yX0_slipped, Cond.code yX0_slipped cX0_slipped 3 (some .int)]
def wsX11_pays : List Cond := .code yX11_pays cX11_pays 5 (some .int) :: ((wsX11_pays_r1 ++ (wsX11_pays_r2 ++ (wsX11_pays_r3 ++ (wsX11_pays_r4 ++ (wsX11_pays_r5 ++ (wsX11_pays_r6 ++ wsX11_pays_r7)))))) ++ wsX110 ++ wsX00 ++ wsX70 ++ wsX100 ++ wsX40 ++ wsX50)
def wsX11_memories_r1 : List Cond := [Cond.fieldLink RX11 28 "SetAgain" "habits" "LSetAgain$Habits;", Cond.methodLink RX11 97 yX11_isShelf, Cond.static yX11_isShelf, Cond.initialized RX11, Cond.code yX11_isShelf cX11_isShelf 1 (some .boolean), Cond.methodLink RX11 153 yX11_readWeek, Cond.instanceMethod yX11_readWeek, Cond.selects RX11 yX11_readWeek yX11_readWeek, Cond.code yX11_readWeek cX11_readWeek 3 (some .int), Cond.fieldLink RX11 19 "SetAgain" "week" "LSetAgain$Week;", Cond.fieldLink RX11 80 "SetAgain" "shelves" "[LSetAgain$Shelf;", Cond.fieldLink RX11 12 "SetAgain" "chair" "LSetAgain$Chair;", Cond.fieldLink RX11 310 "SetAgain$Chair" "sitters" "I", Cond.methodLink RX11 209 yX11_refusalOf, Cond.instanceMethod yX11_refusalOf, Cond.selects RX11 yX11_refusalOf yX11_refusalOf, Cond.code yX11_refusalOf cX11_refusalOf 2 (some .int), Cond.fieldLink RX11 100 "SetAgain$Shelf" "sort" "I", Cond.methodLink RX11 320 yX10_reads, Cond.instanceMethod yX10_reads, Cond.selects RX10 yX10_reads yX10_reads, Cond.initialized RX10, Cond.code yX10_reads cX10_reads 5 none, Cond.fieldLink RX10 18 "SetAgain$Shelf" "length" "I"]
def wsX11_memories_r2 : List Cond := [Cond.methodLink RX10 24 Lib.Math.min.name, Cond.static Lib.Math.min.name, Cond.initialized "java/lang/Math", Cond.code Lib.Math.min.name Lib.Math.min.code 2 (some .int), Cond.fieldLink RX10 30 "SetAgain$Week" "length" "I", Cond.fieldLink RX10 31 "SetAgain$Week" "sat" "I", Cond.fieldLink RX10 15 "SetAgain$Week" "times" "[I", Cond.fieldLink RX10 34 "SetAgain$Shelf" "elements" "[J", Cond.fieldLink RX10 9 "SetAgain$Week" "sitters" "[I", Cond.methodLink RX11 196 yX4_bestMemories, Cond.instanceMethod yX4_bestMemories, Cond.selects RX4 yX4_bestMemories yX4_bestMemories, Cond.initialized RX4, Cond.code yX4_bestMemories cX4_bestMemories 9 (some .int), Cond.fieldLink RX4 32 "SetAgain$Habits" "week" "LSetAgain$Week;", Cond.fieldLink RX4 111 "SetAgain$Week" "length" "I", Cond.fieldLink RX4 28 "SetAgain$Habits" "chair" "LSetAgain$Chair;", Cond.fieldLink RX4 117 "SetAgain$Chair" "sitters" "I", Cond.fieldLink RX4 39 "SetAgain$Habits" "costs" "I", Cond.methodLink RX4 114 yX4_live, Cond.instanceMethod yX4_live, Cond.selects RX4 yX4_live yX4_live, Cond.code yX4_live cX4_live 3 none, Cond.fieldLink RX4 53 "SetAgain$Week" "sitters" "[I"]
def wsX11_memories_r3 : List Cond := [Cond.methodLink RX4 50 yX4_begin, Cond.instanceMethod yX4_begin, Cond.selects RX4 yX4_begin yX4_begin, Cond.code yX4_begin cX4_begin 2 none, Cond.fieldLink RX4 36 "SetAgain$Habits" "losses" "I", Cond.fieldLink RX4 15 "SetAgain$Habits" "turns" "[I", Cond.fieldLink RX4 18 "SetAgain$Habits" "spared" "[I", Cond.methodLink RX4 42 yX4_standAsNow, Cond.instanceMethod yX4_standAsNow, Cond.selects RX4 yX4_standAsNow yX4_standAsNow, Cond.code yX4_standAsNow cX4_standAsNow 2 none, Cond.fieldLink RX4 9 "SetAgain$Habits" "stand" "[I", Cond.fieldLink RX4 45 "SetAgain$Chair" "stands" "[I", Cond.methodLink RX4 58 yX4_pass, Cond.instanceMethod yX4_pass, Cond.selects RX4 yX4_pass yX4_pass, Cond.code yX4_pass cX4_pass 2 none, Cond.fieldLink RX4 25 "SetAgain$Habits" "leaver" "I", Cond.methodLink RX4 62 yX4_comes, Cond.instanceMethod yX4_comes, Cond.selects RX4 yX4_comes yX4_comes, Cond.code yX4_comes cX4_comes 6 none, Cond.fieldLink RX4 21 "SetAgain$Habits" "tried" "I", Cond.fieldLink RX4 71 "SetAgain$Habits" "triedNear" "I"]
def wsX11_memories_r4 : List Cond := [Cond.methodLink RX4 89 Lib.Math.max.name, Cond.static Lib.Math.max.name, Cond.code Lib.Math.max.name Lib.Math.max.code 2 (some .int), Cond.methodLink RX4 74 yX0_numberOf, Cond.instanceMethod yX0_numberOf, Cond.selects RX0 yX0_numberOf yX0_numberOf, Cond.initialized RX0, Cond.code yX0_numberOf cX0_numberOf 3 (some .int), Cond.fieldLink RX0 11 "SetAgain$Chair" "told" "[I", Cond.methodLink RX4 78 yX0_turned, Cond.instanceMethod yX0_turned, Cond.selects RX0 yX0_turned yX0_turned, Cond.code yX0_turned cX0_turned 6 (some .int), Cond.methodLink RX0 45 Lib.Math.abs.name, Cond.static Lib.Math.abs.name, Cond.code Lib.Math.abs.name Lib.Math.abs.code 1 (some .int), Cond.methodLink RX0 42 yX0_numberOf, Cond.methodLink RX4 82 yX4_turnTo, Cond.instanceMethod yX4_turnTo, Cond.selects RX4 yX4_turnTo yX4_turnTo, Cond.code yX4_turnTo cX4_turnTo 5 (some .int), Cond.methodLink RX4 101 Lib.Math.abs.name, Cond.methodLink RX4 105 yX0_priceOf, Cond.instanceMethod yX0_priceOf]
def wsX11_memories_r5 : List Cond := [Cond.selects RX0 yX0_priceOf yX0_priceOf, Cond.code yX0_priceOf cX0_priceOf 2 (some .int), Cond.methodLink RX4 85 yX0_fetch, Cond.instanceMethod yX0_fetch, Cond.selects RX0 yX0_fetch yX0_fetch, Cond.code yX0_fetch cX0_fetch 1 (some .int), Cond.methodLink RX4 94 yX0_lossAt, Cond.instanceMethod yX0_lossAt, Cond.selects RX0 yX0_lossAt yX0_lossAt, Cond.code yX0_lossAt cX0_lossAt 9 (some .int), Cond.fieldLink RX0 25 "SetAgain$Chair" "lost" "[I", Cond.fieldLink RX0 21 "SetAgain$Chair" "law" "LSetAgain$Law;", Cond.fieldLink RX0 49 "SetAgain$Law" "holds" "Z", Cond.methodLink RX0 57 Lib.Math.min.name, Cond.methodLink RX0 36 Lib.Math.max.name, Cond.methodLink RX0 53 yX5_valueOf, Cond.instanceMethod yX5_valueOf, Cond.selects RX5 yX5_valueOf yX5_valueOf, Cond.initialized RX5, Cond.code yX5_valueOf cX5_valueOf 10 (some .int), Cond.fieldLink RX5 46 "SetAgain$Law" "coded" "I", Cond.fieldLink RX5 18 "SetAgain$Law" "code" "[I", Cond.fieldLink RX5 21 "SetAgain$Law" "stack" "[I", Cond.methodLink RX5 99 yX5_operands]
def wsX11_memories_r6 : List Cond := [Cond.static yX5_operands, Cond.code yX5_operands cX5_operands 1 (some .int), Cond.methodLink RX5 103 yX5_named, Cond.static yX5_named, Cond.code yX5_named cX5_named 5 (some .int), Cond.methodLink RX5 111 Lib.Math.abs.name, Cond.methodLink RX5 107 yX5_worked, Cond.static yX5_worked, Cond.code yX5_worked cX5_worked 3 (some .int), Cond.methodLink RX4 65 yX4_leaves, Cond.instanceMethod yX4_leaves, Cond.selects RX4 yX4_leaves yX4_leaves, Cond.code yX4_leaves cX4_leaves 2 none, Cond.fieldLink RX4 98 "SetAgain$Habits" "left" "I", Cond.methodLink RX4 68 yX4_slip, Cond.instanceMethod yX4_slip, Cond.selects RX4 yX4_slip yX4_slip, Cond.code yX4_slip cX4_slip 2 none, Cond.methodLink RX4 108 yX0_slipped, Cond.instanceMethod yX0_slipped, Cond.selects RX0 yX0_slipped yX0_slipped, Cond.code yX0_slipped cX0_slipped 3 (some .int), Cond.methodLink RX4 119 yJ6_bitCount_0f7a4, Cond.static yJ6_bitCount_0f7a4]
def wsX11_memories_r7 : List Cond := [Cond.initialized RJ6, Cond.code yJ6_bitCount_0f7a4 cJ6_bitCount_0f7a4 1 (some .int), Cond.constant RJ6 265 (1431655765), Cond.constant RJ6 266 (858993459), Cond.constant RJ6 267 (252645135), Cond.methodLink RX4 124 yX4_sparedBy, Cond.instanceMethod yX4_sparedBy, Cond.selects RX4 yX4_sparedBy yX4_sparedBy, Cond.code yX4_sparedBy cX4_sparedBy 4 (some .int)]
def wsX11_memories : List Cond := .code yX11_memories cX11_memories 5 (some .int) :: ((wsX11_memories_r1 ++ (wsX11_memories_r2 ++ (wsX11_memories_r3 ++ (wsX11_memories_r4 ++ (wsX11_memories_r5 ++ (wsX11_memories_r6 ++ wsX11_memories_r7)))))) ++ wsX110 ++ wsX00 ++ wsX70 ++ wsX100 ++ wsX40 ++ wsX50)
def wsX11_marked_r1 : List Cond := [Cond.fieldLink RX11 28 "SetAgain" "habits" "LSetAgain$Habits;", Cond.methodLink RX11 97 yX11_isShelf, Cond.static yX11_isShelf, Cond.initialized RX11, Cond.code yX11_isShelf cX11_isShelf 1 (some .boolean), Cond.methodLink RX11 153 yX11_readWeek, Cond.instanceMethod yX11_readWeek, Cond.selects RX11 yX11_readWeek yX11_readWeek, Cond.code yX11_readWeek cX11_readWeek 3 (some .int), Cond.fieldLink RX11 19 "SetAgain" "week" "LSetAgain$Week;", Cond.fieldLink RX11 80 "SetAgain" "shelves" "[LSetAgain$Shelf;", Cond.fieldLink RX11 12 "SetAgain" "chair" "LSetAgain$Chair;", Cond.fieldLink RX11 310 "SetAgain$Chair" "sitters" "I", Cond.methodLink RX11 209 yX11_refusalOf, Cond.instanceMethod yX11_refusalOf, Cond.selects RX11 yX11_refusalOf yX11_refusalOf, Cond.code yX11_refusalOf cX11_refusalOf 2 (some .int), Cond.fieldLink RX11 100 "SetAgain$Shelf" "sort" "I", Cond.methodLink RX11 320 yX10_reads, Cond.instanceMethod yX10_reads, Cond.selects RX10 yX10_reads yX10_reads, Cond.initialized RX10, Cond.code yX10_reads cX10_reads 5 none, Cond.fieldLink RX10 18 "SetAgain$Shelf" "length" "I"]
def wsX11_marked_r2 : List Cond := [Cond.methodLink RX10 24 Lib.Math.min.name, Cond.static Lib.Math.min.name, Cond.initialized "java/lang/Math", Cond.code Lib.Math.min.name Lib.Math.min.code 2 (some .int), Cond.fieldLink RX10 30 "SetAgain$Week" "length" "I", Cond.fieldLink RX10 31 "SetAgain$Week" "sat" "I", Cond.fieldLink RX10 15 "SetAgain$Week" "times" "[I", Cond.fieldLink RX10 34 "SetAgain$Shelf" "elements" "[J", Cond.fieldLink RX10 9 "SetAgain$Week" "sitters" "[I", Cond.methodLink RX11 199 yX4_savedByMarks, Cond.instanceMethod yX4_savedByMarks, Cond.selects RX4 yX4_savedByMarks yX4_savedByMarks, Cond.initialized RX4, Cond.code yX4_savedByMarks cX4_savedByMarks 4 (some .int), Cond.fieldLink RX4 32 "SetAgain$Habits" "week" "LSetAgain$Week;", Cond.fieldLink RX4 111 "SetAgain$Week" "length" "I", Cond.fieldLink RX4 28 "SetAgain$Habits" "chair" "LSetAgain$Chair;", Cond.fieldLink RX4 15 "SetAgain$Habits" "turns" "[I", Cond.methodLink RX4 114 yX4_live, Cond.instanceMethod yX4_live, Cond.selects RX4 yX4_live yX4_live, Cond.code yX4_live cX4_live 3 none, Cond.fieldLink RX4 53 "SetAgain$Week" "sitters" "[I", Cond.methodLink RX4 50 yX4_begin]
def wsX11_marked_r3 : List Cond := [Cond.instanceMethod yX4_begin, Cond.selects RX4 yX4_begin yX4_begin, Cond.code yX4_begin cX4_begin 2 none, Cond.fieldLink RX4 36 "SetAgain$Habits" "losses" "I", Cond.fieldLink RX4 39 "SetAgain$Habits" "costs" "I", Cond.fieldLink RX4 18 "SetAgain$Habits" "spared" "[I", Cond.methodLink RX4 42 yX4_standAsNow, Cond.instanceMethod yX4_standAsNow, Cond.selects RX4 yX4_standAsNow yX4_standAsNow, Cond.code yX4_standAsNow cX4_standAsNow 2 none, Cond.fieldLink RX4 9 "SetAgain$Habits" "stand" "[I", Cond.fieldLink RX4 45 "SetAgain$Chair" "stands" "[I", Cond.methodLink RX4 58 yX4_pass, Cond.instanceMethod yX4_pass, Cond.selects RX4 yX4_pass yX4_pass, Cond.code yX4_pass cX4_pass 2 none, Cond.fieldLink RX4 25 "SetAgain$Habits" "leaver" "I", Cond.methodLink RX4 62 yX4_comes, Cond.instanceMethod yX4_comes, Cond.selects RX4 yX4_comes yX4_comes, Cond.code yX4_comes cX4_comes 6 none, Cond.fieldLink RX4 21 "SetAgain$Habits" "tried" "I", Cond.fieldLink RX4 71 "SetAgain$Habits" "triedNear" "I", Cond.methodLink RX4 89 Lib.Math.max.name]
def wsX11_marked_r4 : List Cond := [Cond.static Lib.Math.max.name, Cond.code Lib.Math.max.name Lib.Math.max.code 2 (some .int), Cond.methodLink RX4 74 yX0_numberOf, Cond.instanceMethod yX0_numberOf, Cond.selects RX0 yX0_numberOf yX0_numberOf, Cond.initialized RX0, Cond.code yX0_numberOf cX0_numberOf 3 (some .int), Cond.fieldLink RX0 11 "SetAgain$Chair" "told" "[I", Cond.methodLink RX4 78 yX0_turned, Cond.instanceMethod yX0_turned, Cond.selects RX0 yX0_turned yX0_turned, Cond.code yX0_turned cX0_turned 6 (some .int), Cond.methodLink RX0 45 Lib.Math.abs.name, Cond.static Lib.Math.abs.name, Cond.code Lib.Math.abs.name Lib.Math.abs.code 1 (some .int), Cond.methodLink RX0 42 yX0_numberOf, Cond.methodLink RX4 82 yX4_turnTo, Cond.instanceMethod yX4_turnTo, Cond.selects RX4 yX4_turnTo yX4_turnTo, Cond.code yX4_turnTo cX4_turnTo 5 (some .int), Cond.methodLink RX4 101 Lib.Math.abs.name, Cond.methodLink RX4 105 yX0_priceOf, Cond.instanceMethod yX0_priceOf, Cond.selects RX0 yX0_priceOf yX0_priceOf]
def wsX11_marked_r5 : List Cond := [Cond.code yX0_priceOf cX0_priceOf 2 (some .int), Cond.methodLink RX4 85 yX0_fetch, Cond.instanceMethod yX0_fetch, Cond.selects RX0 yX0_fetch yX0_fetch, Cond.code yX0_fetch cX0_fetch 1 (some .int), Cond.methodLink RX4 94 yX0_lossAt, Cond.instanceMethod yX0_lossAt, Cond.selects RX0 yX0_lossAt yX0_lossAt, Cond.code yX0_lossAt cX0_lossAt 9 (some .int), Cond.fieldLink RX0 25 "SetAgain$Chair" "lost" "[I", Cond.fieldLink RX0 21 "SetAgain$Chair" "law" "LSetAgain$Law;", Cond.fieldLink RX0 49 "SetAgain$Law" "holds" "Z", Cond.methodLink RX0 57 Lib.Math.min.name, Cond.methodLink RX0 36 Lib.Math.max.name, Cond.methodLink RX0 53 yX5_valueOf, Cond.instanceMethod yX5_valueOf, Cond.selects RX5 yX5_valueOf yX5_valueOf, Cond.initialized RX5, Cond.code yX5_valueOf cX5_valueOf 10 (some .int), Cond.fieldLink RX5 46 "SetAgain$Law" "coded" "I", Cond.fieldLink RX5 18 "SetAgain$Law" "code" "[I", Cond.fieldLink RX5 21 "SetAgain$Law" "stack" "[I", Cond.methodLink RX5 99 yX5_operands, Cond.static yX5_operands]
def wsX11_marked_r6 : List Cond := [Cond.code yX5_operands cX5_operands 1 (some .int), Cond.methodLink RX5 103 yX5_named, Cond.static yX5_named, Cond.code yX5_named cX5_named 5 (some .int), Cond.methodLink RX5 111 Lib.Math.abs.name, Cond.methodLink RX5 107 yX5_worked, Cond.static yX5_worked, Cond.code yX5_worked cX5_worked 3 (some .int), Cond.methodLink RX4 65 yX4_leaves, Cond.instanceMethod yX4_leaves, Cond.selects RX4 yX4_leaves yX4_leaves, Cond.code yX4_leaves cX4_leaves 2 none, Cond.fieldLink RX4 98 "SetAgain$Habits" "left" "I", Cond.methodLink RX4 68 yX4_slip, Cond.instanceMethod yX4_slip, Cond.selects RX4 yX4_slip yX4_slip, Cond.code yX4_slip cX4_slip 2 none, Cond.methodLink RX4 108 yX0_slipped, Cond.instanceMethod yX0_slipped, Cond.selects RX0 yX0_slipped yX0_slipped, Cond.code yX0_slipped cX0_slipped 3 (some .int)]
def wsX11_marked : List Cond := .code yX11_marked cX11_marked 3 (some .int) :: ((wsX11_marked_r1 ++ (wsX11_marked_r2 ++ (wsX11_marked_r3 ++ (wsX11_marked_r4 ++ (wsX11_marked_r5 ++ wsX11_marked_r6))))) ++ wsX110 ++ wsX00 ++ wsX70 ++ wsX100 ++ wsX40 ++ wsX50)
def wsX11_chairs_r1 : List Cond := [Cond.fieldLink RX11 12 "SetAgain" "chair" "LSetAgain$Chair;", Cond.fieldLink RX11 35 "SetAgain" "still" "LSetAgain$Still;", Cond.methodLink RX11 97 yX11_isShelf, Cond.static yX11_isShelf, Cond.initialized RX11, Cond.code yX11_isShelf cX11_isShelf 1 (some .boolean), Cond.methodLink RX11 123 yX11_isPart, Cond.static yX11_isPart, Cond.code yX11_isPart cX11_isPart 1 (some .boolean), Cond.methodLink RX11 146 yX0_has, Cond.instanceMethod yX0_has, Cond.selects RX0 yX0_has yX0_has, Cond.initialized RX0, Cond.code yX0_has cX0_has 2 (some .boolean), Cond.fieldLink RX0 28 "SetAgain$Chair" "sitters" "I", Cond.methodLink RX11 153 yX11_readWeek, Cond.instanceMethod yX11_readWeek, Cond.selects RX11 yX11_readWeek yX11_readWeek, Cond.code yX11_readWeek cX11_readWeek 3 (some .int), Cond.fieldLink RX11 19 "SetAgain" "week" "LSetAgain$Week;", Cond.fieldLink RX11 80 "SetAgain" "shelves" "[LSetAgain$Shelf;", Cond.fieldLink RX11 310 "SetAgain$Chair" "sitters" "I", Cond.methodLink RX11 209 yX11_refusalOf, Cond.instanceMethod yX11_refusalOf]
def wsX11_chairs_r2 : List Cond := [Cond.selects RX11 yX11_refusalOf yX11_refusalOf, Cond.code yX11_refusalOf cX11_refusalOf 2 (some .int), Cond.fieldLink RX11 100 "SetAgain$Shelf" "sort" "I", Cond.methodLink RX11 320 yX10_reads, Cond.instanceMethod yX10_reads, Cond.selects RX10 yX10_reads yX10_reads, Cond.initialized RX10, Cond.code yX10_reads cX10_reads 5 none, Cond.fieldLink RX10 18 "SetAgain$Shelf" "length" "I", Cond.methodLink RX10 24 Lib.Math.min.name, Cond.static Lib.Math.min.name, Cond.initialized "java/lang/Math", Cond.code Lib.Math.min.name Lib.Math.min.code 2 (some .int), Cond.fieldLink RX10 30 "SetAgain$Week" "length" "I", Cond.fieldLink RX10 31 "SetAgain$Week" "sat" "I", Cond.fieldLink RX10 15 "SetAgain$Week" "times" "[I", Cond.fieldLink RX10 34 "SetAgain$Shelf" "elements" "[J", Cond.fieldLink RX10 9 "SetAgain$Week" "sitters" "[I", Cond.methodLink RX11 202 yX8_parted, Cond.instanceMethod yX8_parted, Cond.selects RX8 yX8_parted yX8_parted, Cond.initialized RX8, Cond.code yX8_parted cX8_parted 4 (some .int), Cond.fieldLink RX8 79 "SetAgain$Still" "found" "Z"]
def wsX11_chairs_r3 : List Cond := [Cond.fieldLink RX8 83 "SetAgain$Still" "free" "I", Cond.fieldLink RX8 90 "SetAgain$Still" "least" "I", Cond.methodLink RX8 72 yX8_gather, Cond.instanceMethod yX8_gather, Cond.selects RX8 yX8_gather yX8_gather, Cond.code yX8_gather cX8_gather 2 none, Cond.fieldLink RX8 96 "SetAgain$Still" "sitting" "I", Cond.fieldLink RX8 38 "SetAgain$Still" "week" "LSetAgain$Week;", Cond.fieldLink RX8 42 "SetAgain$Week" "times" "[I", Cond.fieldLink RX8 19 "SetAgain$Still" "ones" "[I", Cond.methodLink RX8 75 yX8_sumGroups, Cond.instanceMethod yX8_sumGroups, Cond.selects RX8 yX8_sumGroups yX8_sumGroups, Cond.code yX8_sumGroups cX8_sumGroups 4 none, Cond.fieldLink RX8 34 "SetAgain$Still" "chair" "LSetAgain$Chair;", Cond.methodLink RX8 47 yX0_lossAt, Cond.instanceMethod yX0_lossAt, Cond.selects RX0 yX0_lossAt yX0_lossAt, Cond.code yX0_lossAt cX0_lossAt 9 (some .int), Cond.fieldLink RX0 25 "SetAgain$Chair" "lost" "[I", Cond.fieldLink RX0 21 "SetAgain$Chair" "law" "LSetAgain$Law;", Cond.fieldLink RX0 49 "SetAgain$Law" "holds" "Z", Cond.methodLink RX0 45 Lib.Math.abs.name, Cond.static Lib.Math.abs.name]
def wsX11_chairs_r4 : List Cond := [Cond.code Lib.Math.abs.name Lib.Math.abs.code 1 (some .int), Cond.methodLink RX0 57 Lib.Math.min.name, Cond.methodLink RX0 36 Lib.Math.max.name, Cond.static Lib.Math.max.name, Cond.code Lib.Math.max.name Lib.Math.max.code 2 (some .int), Cond.methodLink RX0 42 yX0_numberOf, Cond.instanceMethod yX0_numberOf, Cond.selects RX0 yX0_numberOf yX0_numberOf, Cond.code yX0_numberOf cX0_numberOf 3 (some .int), Cond.fieldLink RX0 11 "SetAgain$Chair" "told" "[I", Cond.methodLink RX0 53 yX5_valueOf, Cond.instanceMethod yX5_valueOf, Cond.selects RX5 yX5_valueOf yX5_valueOf, Cond.initialized RX5, Cond.code yX5_valueOf cX5_valueOf 10 (some .int), Cond.fieldLink RX5 46 "SetAgain$Law" "coded" "I", Cond.fieldLink RX5 18 "SetAgain$Law" "code" "[I", Cond.fieldLink RX5 21 "SetAgain$Law" "stack" "[I", Cond.methodLink RX5 99 yX5_operands, Cond.static yX5_operands, Cond.code yX5_operands cX5_operands 1 (some .int), Cond.methodLink RX5 103 yX5_named, Cond.static yX5_named, Cond.code yX5_named cX5_named 5 (some .int)]
def wsX11_chairs_r5 : List Cond := [Cond.methodLink RX5 111 Lib.Math.abs.name, Cond.methodLink RX5 107 yX5_worked, Cond.static yX5_worked, Cond.code yX5_worked cX5_worked 3 (some .int), Cond.methodLink RX8 99 yX8_sumGroupsUpTo, Cond.instanceMethod yX8_sumGroupsUpTo, Cond.selects RX8 yX8_sumGroupsUpTo yX8_sumGroupsUpTo, Cond.code yX8_sumGroupsUpTo cX8_sumGroupsUpTo 5 none, Cond.fieldLink RX8 22 "SetAgain$Still" "sums" "[I", Cond.fieldLink RX8 25 "SetAgain$Still" "leasts" "[I", Cond.methodLink RX8 103 Lib.Math.min.name, Cond.methodLink RX8 87 yX8_part, Cond.instanceMethod yX8_part, Cond.selects RX8 yX8_part yX8_part, Cond.code yX8_part cX8_part 3 none, Cond.fieldLink RX8 28 "SetAgain$Still" "group" "[I", Cond.methodLink RX8 106 yX8_weigh, Cond.instanceMethod yX8_weigh, Cond.selects RX8 yX8_weigh yX8_weigh, Cond.code yX8_weigh cX8_weigh 3 none, Cond.fieldLink RX8 31 "SetAgain$Still" "bestGroup" "[I", Cond.methodLink RX8 93 yX8_chairOf, Cond.instanceMethod yX8_chairOf, Cond.selects RX8 yX8_chairOf yX8_chairOf]
def wsX11_chairs_r6 : List Cond := [Cond.code yX8_chairOf cX8_chairOf 4 (some .int)]
def wsX11_chairs : List Cond := .code yX11_chairs cX11_chairs 6 (some .int) :: ((wsX11_chairs_r1 ++ (wsX11_chairs_r2 ++ (wsX11_chairs_r3 ++ (wsX11_chairs_r4 ++ (wsX11_chairs_r5 ++ wsX11_chairs_r6))))) ++ wsX110 ++ wsX00 ++ wsX70 ++ wsX100 ++ wsX80 ++ wsX50)
def wsX11_wilful_r1 : List Cond := [Cond.fieldLink RX11 12 "SetAgain" "chair" "LSetAgain$Chair;", Cond.constant RX11 205 (-2000000000), Cond.fieldLink RX11 28 "SetAgain" "habits" "LSetAgain$Habits;", Cond.methodLink RX11 97 yX11_isShelf, Cond.static yX11_isShelf, Cond.initialized RX11, Cond.code yX11_isShelf cX11_isShelf 1 (some .boolean), Cond.methodLink RX11 146 yX0_has, Cond.instanceMethod yX0_has, Cond.selects RX0 yX0_has yX0_has, Cond.initialized RX0, Cond.code yX0_has cX0_has 2 (some .boolean), Cond.fieldLink RX0 28 "SetAgain$Chair" "sitters" "I", Cond.methodLink RX11 85 yX11_isSetting, Cond.static yX11_isSetting, Cond.code yX11_isSetting cX11_isSetting 1 (some .boolean), Cond.methodLink RX11 153 yX11_readWeek, Cond.instanceMethod yX11_readWeek, Cond.selects RX11 yX11_readWeek yX11_readWeek, Cond.code yX11_readWeek cX11_readWeek 3 (some .int), Cond.fieldLink RX11 19 "SetAgain" "week" "LSetAgain$Week;", Cond.fieldLink RX11 80 "SetAgain" "shelves" "[LSetAgain$Shelf;", Cond.fieldLink RX11 310 "SetAgain$Chair" "sitters" "I", Cond.methodLink RX11 209 yX11_refusalOf]
def wsX11_wilful_r2 : List Cond := [Cond.instanceMethod yX11_refusalOf, Cond.selects RX11 yX11_refusalOf yX11_refusalOf, Cond.code yX11_refusalOf cX11_refusalOf 2 (some .int), Cond.fieldLink RX11 100 "SetAgain$Shelf" "sort" "I", Cond.methodLink RX11 320 yX10_reads, Cond.instanceMethod yX10_reads, Cond.selects RX10 yX10_reads yX10_reads, Cond.initialized RX10, Cond.code yX10_reads cX10_reads 5 none, Cond.fieldLink RX10 18 "SetAgain$Shelf" "length" "I", Cond.methodLink RX10 24 Lib.Math.min.name, Cond.static Lib.Math.min.name, Cond.initialized "java/lang/Math", Cond.code Lib.Math.min.name Lib.Math.min.code 2 (some .int), Cond.fieldLink RX10 30 "SetAgain$Week" "length" "I", Cond.fieldLink RX10 31 "SetAgain$Week" "sat" "I", Cond.fieldLink RX10 15 "SetAgain$Week" "times" "[I", Cond.fieldLink RX10 34 "SetAgain$Shelf" "elements" "[J", Cond.fieldLink RX10 9 "SetAgain$Week" "sitters" "[I", Cond.methodLink RX11 206 yX4_moreByWilful, Cond.instanceMethod yX4_moreByWilful, Cond.selects RX4 yX4_moreByWilful yX4_moreByWilful, Cond.initialized RX4, Cond.code yX4_moreByWilful cX4_moreByWilful 4 (some .int)]
def wsX11_wilful_r3 : List Cond := [Cond.fieldLink RX4 32 "SetAgain$Habits" "week" "LSetAgain$Week;", Cond.fieldLink RX4 111 "SetAgain$Week" "length" "I", Cond.fieldLink RX4 39 "SetAgain$Habits" "costs" "I", Cond.fieldLink RX4 25 "SetAgain$Habits" "leaver" "I", Cond.fieldLink RX4 98 "SetAgain$Habits" "left" "I", Cond.methodLink RX4 114 yX4_live, Cond.instanceMethod yX4_live, Cond.selects RX4 yX4_live yX4_live, Cond.code yX4_live cX4_live 3 none, Cond.fieldLink RX4 53 "SetAgain$Week" "sitters" "[I", Cond.methodLink RX4 50 yX4_begin, Cond.instanceMethod yX4_begin, Cond.selects RX4 yX4_begin yX4_begin, Cond.code yX4_begin cX4_begin 2 none, Cond.fieldLink RX4 36 "SetAgain$Habits" "losses" "I", Cond.fieldLink RX4 15 "SetAgain$Habits" "turns" "[I", Cond.fieldLink RX4 18 "SetAgain$Habits" "spared" "[I", Cond.methodLink RX4 42 yX4_standAsNow, Cond.instanceMethod yX4_standAsNow, Cond.selects RX4 yX4_standAsNow yX4_standAsNow, Cond.code yX4_standAsNow cX4_standAsNow 2 none, Cond.fieldLink RX4 9 "SetAgain$Habits" "stand" "[I", Cond.fieldLink RX4 28 "SetAgain$Habits" "chair" "LSetAgain$Chair;", Cond.fieldLink RX4 45 "SetAgain$Chair" "stands" "[I"]
def wsX11_wilful_r4 : List Cond := [Cond.methodLink RX4 58 yX4_pass, Cond.instanceMethod yX4_pass, Cond.selects RX4 yX4_pass yX4_pass, Cond.code yX4_pass cX4_pass 2 none, Cond.methodLink RX4 62 yX4_comes, Cond.instanceMethod yX4_comes, Cond.selects RX4 yX4_comes yX4_comes, Cond.code yX4_comes cX4_comes 6 none, Cond.fieldLink RX4 21 "SetAgain$Habits" "tried" "I", Cond.fieldLink RX4 71 "SetAgain$Habits" "triedNear" "I", Cond.methodLink RX4 89 Lib.Math.max.name, Cond.static Lib.Math.max.name, Cond.code Lib.Math.max.name Lib.Math.max.code 2 (some .int), Cond.methodLink RX4 74 yX0_numberOf, Cond.instanceMethod yX0_numberOf, Cond.selects RX0 yX0_numberOf yX0_numberOf, Cond.code yX0_numberOf cX0_numberOf 3 (some .int), Cond.fieldLink RX0 11 "SetAgain$Chair" "told" "[I", Cond.methodLink RX4 78 yX0_turned, Cond.instanceMethod yX0_turned, Cond.selects RX0 yX0_turned yX0_turned, Cond.code yX0_turned cX0_turned 6 (some .int), Cond.methodLink RX0 45 Lib.Math.abs.name, Cond.static Lib.Math.abs.name]
def wsX11_wilful_r5 : List Cond := [Cond.code Lib.Math.abs.name Lib.Math.abs.code 1 (some .int), Cond.methodLink RX0 42 yX0_numberOf, Cond.methodLink RX4 82 yX4_turnTo, Cond.instanceMethod yX4_turnTo, Cond.selects RX4 yX4_turnTo yX4_turnTo, Cond.code yX4_turnTo cX4_turnTo 5 (some .int), Cond.methodLink RX4 101 Lib.Math.abs.name, Cond.methodLink RX4 105 yX0_priceOf, Cond.instanceMethod yX0_priceOf, Cond.selects RX0 yX0_priceOf yX0_priceOf, Cond.code yX0_priceOf cX0_priceOf 2 (some .int), Cond.methodLink RX4 85 yX0_fetch, Cond.instanceMethod yX0_fetch, Cond.selects RX0 yX0_fetch yX0_fetch, Cond.code yX0_fetch cX0_fetch 1 (some .int), Cond.methodLink RX4 94 yX0_lossAt, Cond.instanceMethod yX0_lossAt, Cond.selects RX0 yX0_lossAt yX0_lossAt, Cond.code yX0_lossAt cX0_lossAt 9 (some .int), Cond.fieldLink RX0 25 "SetAgain$Chair" "lost" "[I", Cond.fieldLink RX0 21 "SetAgain$Chair" "law" "LSetAgain$Law;", Cond.fieldLink RX0 49 "SetAgain$Law" "holds" "Z", Cond.methodLink RX0 57 Lib.Math.min.name, Cond.methodLink RX0 36 Lib.Math.max.name]
def wsX11_wilful_r6 : List Cond := [Cond.methodLink RX0 53 yX5_valueOf, Cond.instanceMethod yX5_valueOf, Cond.selects RX5 yX5_valueOf yX5_valueOf, Cond.initialized RX5, Cond.code yX5_valueOf cX5_valueOf 10 (some .int), Cond.fieldLink RX5 46 "SetAgain$Law" "coded" "I", Cond.fieldLink RX5 18 "SetAgain$Law" "code" "[I", Cond.fieldLink RX5 21 "SetAgain$Law" "stack" "[I", Cond.methodLink RX5 99 yX5_operands, Cond.static yX5_operands, Cond.code yX5_operands cX5_operands 1 (some .int), Cond.methodLink RX5 103 yX5_named, Cond.static yX5_named, Cond.code yX5_named cX5_named 5 (some .int), Cond.methodLink RX5 111 Lib.Math.abs.name, Cond.methodLink RX5 107 yX5_worked, Cond.static yX5_worked, Cond.code yX5_worked cX5_worked 3 (some .int), Cond.methodLink RX4 65 yX4_leaves, Cond.instanceMethod yX4_leaves, Cond.selects RX4 yX4_leaves yX4_leaves, Cond.code yX4_leaves cX4_leaves 2 none, Cond.methodLink RX4 68 yX4_slip, Cond.instanceMethod yX4_slip]
def wsX11_wilful_r7 : List Cond := [Cond.selects RX4 yX4_slip yX4_slip, Cond.code yX4_slip cX4_slip 2 none, Cond.methodLink RX4 108 yX0_slipped, Cond.instanceMethod yX0_slipped, Cond.selects RX0 yX0_slipped yX0_slipped, Cond.code yX0_slipped cX0_slipped 3 (some .int)]
def wsX11_wilful : List Cond := .code yX11_wilful cX11_wilful 4 (some .int) :: ((wsX11_wilful_r1 ++ (wsX11_wilful_r2 ++ (wsX11_wilful_r3 ++ (wsX11_wilful_r4 ++ (wsX11_wilful_r5 ++ (wsX11_wilful_r6 ++ wsX11_wilful_r7)))))) ++ wsX110 ++ wsX00 ++ wsX70 ++ wsX100 ++ wsX40 ++ wsX50)
def wsX11_who_r1 : List Cond := [Cond.fieldLink RX11 80 "SetAgain" "shelves" "[LSetAgain$Shelf;", Cond.fieldLink RX11 212 "SetAgain$Shelf" "length" "I", Cond.fieldLink RX11 51 "SetAgain" "seen" "LSetAgain$Seen;", Cond.methodLink RX11 97 yX11_isShelf, Cond.static yX11_isShelf, Cond.initialized RX11, Cond.code yX11_isShelf cX11_isShelf 1 (some .boolean), Cond.methodLink RX11 123 yX11_isPart, Cond.static yX11_isPart, Cond.code yX11_isPart cX11_isPart 1 (some .boolean), Cond.methodLink RX11 209 yX11_refusalOf, Cond.instanceMethod yX11_refusalOf, Cond.selects RX11 yX11_refusalOf yX11_refusalOf, Cond.code yX11_refusalOf cX11_refusalOf 2 (some .int), Cond.fieldLink RX11 100 "SetAgain$Shelf" "sort" "I", Cond.methodLink RX11 213 yX6_mayHaveSat, Cond.instanceMethod yX6_mayHaveSat, Cond.selects RX6 yX6_mayHaveSat yX6_mayHaveSat, Cond.initialized RX6, Cond.code yX6_mayHaveSat cX6_mayHaveSat 10 (some .int), Cond.fieldLink RX6 15 "SetAgain$Seen" "row" "LSetAgain$Shelf;", Cond.fieldLink RX6 19 "SetAgain$Seen" "part" "I", Cond.fieldLink RX6 9 "SetAgain$Seen" "chair" "LSetAgain$Chair;", Cond.fieldLink RX6 30 "SetAgain$Chair" "sitters" "I"]
def wsX11_who_r2 : List Cond := [Cond.methodLink RX6 23 yX6_reachedAhead, Cond.instanceMethod yX6_reachedAhead, Cond.selects RX6 yX6_reachedAhead yX6_reachedAhead, Cond.code yX6_reachedAhead cX6_reachedAhead 8 (some .long), Cond.fieldLink RX6 39 "SetAgain$Chair" "stands" "[I", Cond.methodLink RX6 35 yX6_allBehind, Cond.instanceMethod yX6_allBehind, Cond.selects RX6 yX6_allBehind yX6_allBehind, Cond.code yX6_allBehind cX6_allBehind 7 (some .long), Cond.methodLink RX6 71 yX6_behindShift, Cond.instanceMethod yX6_behindShift, Cond.selects RX6 yX6_behindShift yX6_behindShift, Cond.code yX6_behindShift cX6_behindShift 3 (some .int), Cond.methodLink RX6 74 yX0_slipped, Cond.instanceMethod yX0_slipped, Cond.selects RX0 yX0_slipped yX0_slipped, Cond.initialized RX0, Cond.code yX0_slipped cX0_slipped 3 (some .int), Cond.fieldLink RX0 11 "SetAgain$Chair" "told" "[I", Cond.methodLink RX0 36 Lib.Math.max.name, Cond.static Lib.Math.max.name, Cond.initialized "java/lang/Math", Cond.code Lib.Math.max.name Lib.Math.max.code 2 (some .int), Cond.methodLink RX6 77 yX0_numberOf]
def wsX11_who_r3 : List Cond := [Cond.instanceMethod yX0_numberOf, Cond.selects RX0 yX0_numberOf yX0_numberOf, Cond.code yX0_numberOf cX0_numberOf 3 (some .int), Cond.methodLink RX6 80 yX0_turned, Cond.instanceMethod yX0_turned, Cond.selects RX0 yX0_turned yX0_turned, Cond.code yX0_turned cX0_turned 6 (some .int), Cond.methodLink RX0 45 Lib.Math.abs.name, Cond.static Lib.Math.abs.name, Cond.code Lib.Math.abs.name Lib.Math.abs.code 1 (some .int), Cond.methodLink RX0 42 yX0_numberOf, Cond.methodLink RX6 43 yX6_asSeen, Cond.instanceMethod yX6_asSeen, Cond.selects RX6 yX6_asSeen yX6_asSeen, Cond.code yX6_asSeen cX6_asSeen 4 (some .long), Cond.fieldLink RX6 63 "SetAgain$Shelf" "elements" "[J", Cond.constantLong RX6 67 (-1), Cond.constantLong RX6 46 (2305843009213693951), Cond.constantLong RX6 69 (60), Cond.methodLink RX6 27 yX6_fittingBehind, Cond.instanceMethod yX6_fittingBehind, Cond.selects RX6 yX6_fittingBehind yX6_fittingBehind, Cond.code yX6_fittingBehind cX6_fittingBehind 5 (some .long), Cond.fieldLink RX6 48 "SetAgain$Shelf" "length" "I"]
def wsX11_who_r4 : List Cond := [Cond.methodLink RX6 53 Lib.Math.min.name, Cond.static Lib.Math.min.name, Cond.code Lib.Math.min.name Lib.Math.min.code 2 (some .int), Cond.methodLink RX6 59 yX6_allAhead, Cond.instanceMethod yX6_allAhead, Cond.selects RX6 yX6_allAhead yX6_allAhead, Cond.code yX6_allAhead cX6_allAhead 7 (some .long)]
def wsX11_who : List Cond := .code yX11_who cX11_who 5 (some .int) :: ((wsX11_who_r1 ++ (wsX11_who_r2 ++ (wsX11_who_r3 ++ wsX11_who_r4))) ++ wsX110 ++ wsX70 ++ wsX60 ++ wsX00)
def wsX11_judge_r1 : List Cond := [Cond.fieldLink RX11 80 "SetAgain" "shelves" "[LSetAgain$Shelf;", Cond.methodLink RX11 97 yX11_isShelf, Cond.static yX11_isShelf, Cond.initialized RX11, Cond.code yX11_isShelf cX11_isShelf 1 (some .boolean), Cond.methodLink RX11 123 yX11_isPart, Cond.static yX11_isPart, Cond.code yX11_isPart cX11_isPart 1 (some .boolean), Cond.methodLink RX11 209 yX11_refusalOf, Cond.instanceMethod yX11_refusalOf, Cond.selects RX11 yX11_refusalOf yX11_refusalOf, Cond.code yX11_refusalOf cX11_refusalOf 2 (some .int), Cond.fieldLink RX11 100 "SetAgain$Shelf" "sort" "I", Cond.methodLink RX11 153 yX11_readWeek, Cond.instanceMethod yX11_readWeek, Cond.selects RX11 yX11_readWeek yX11_readWeek, Cond.code yX11_readWeek cX11_readWeek 3 (some .int), Cond.fieldLink RX11 19 "SetAgain" "week" "LSetAgain$Week;", Cond.fieldLink RX11 12 "SetAgain" "chair" "LSetAgain$Chair;", Cond.fieldLink RX11 310 "SetAgain$Chair" "sitters" "I", Cond.methodLink RX11 320 yX10_reads, Cond.instanceMethod yX10_reads, Cond.selects RX10 yX10_reads yX10_reads, Cond.initialized RX10]
def wsX11_judge_r2 : List Cond := [Cond.code yX10_reads cX10_reads 5 none, Cond.fieldLink RX10 18 "SetAgain$Shelf" "length" "I", Cond.methodLink RX10 24 Lib.Math.min.name, Cond.static Lib.Math.min.name, Cond.initialized "java/lang/Math", Cond.code Lib.Math.min.name Lib.Math.min.code 2 (some .int), Cond.fieldLink RX10 30 "SetAgain$Week" "length" "I", Cond.fieldLink RX10 31 "SetAgain$Week" "sat" "I", Cond.fieldLink RX10 15 "SetAgain$Week" "times" "[I", Cond.fieldLink RX10 34 "SetAgain$Shelf" "elements" "[J", Cond.fieldLink RX10 9 "SetAgain$Week" "sitters" "[I", Cond.methodLink RX11 216 yX11_firstUnlike, Cond.instanceMethod yX11_firstUnlike, Cond.selects RX11 yX11_firstUnlike yX11_firstUnlike, Cond.code yX11_firstUnlike cX11_firstUnlike 5 (some .int), Cond.fieldLink RX11 168 "SetAgain$Week" "length" "I", Cond.fieldLink RX11 212 "SetAgain$Shelf" "length" "I", Cond.methodLink RX11 263 Lib.Math.min.name, Cond.fieldLink RX11 28 "SetAgain" "habits" "LSetAgain$Habits;", Cond.fieldLink RX11 331 "SetAgain$Week" "sitters" "[I", Cond.fieldLink RX11 281 "SetAgain$Shelf" "elements" "[J", Cond.constantLong RX11 336 (-1), Cond.fieldLink RX11 190 "SetAgain$Habits" "stand" "[I", Cond.methodLink RX11 328 yX4_begin]
def wsX11_judge_r3 : List Cond := [Cond.instanceMethod yX4_begin, Cond.selects RX4 yX4_begin yX4_begin, Cond.initialized RX4, Cond.code yX4_begin cX4_begin 2 none, Cond.fieldLink RX4 36 "SetAgain$Habits" "losses" "I", Cond.fieldLink RX4 39 "SetAgain$Habits" "costs" "I", Cond.fieldLink RX4 15 "SetAgain$Habits" "turns" "[I", Cond.fieldLink RX4 18 "SetAgain$Habits" "spared" "[I", Cond.methodLink RX4 42 yX4_standAsNow, Cond.instanceMethod yX4_standAsNow, Cond.selects RX4 yX4_standAsNow yX4_standAsNow, Cond.code yX4_standAsNow cX4_standAsNow 2 none, Cond.fieldLink RX4 9 "SetAgain$Habits" "stand" "[I", Cond.fieldLink RX4 28 "SetAgain$Habits" "chair" "LSetAgain$Chair;", Cond.fieldLink RX4 45 "SetAgain$Chair" "stands" "[I", Cond.methodLink RX11 333 yX4_pass, Cond.instanceMethod yX4_pass, Cond.selects RX4 yX4_pass yX4_pass, Cond.code yX4_pass cX4_pass 2 none, Cond.fieldLink RX4 25 "SetAgain$Habits" "leaver" "I", Cond.methodLink RX4 62 yX4_comes, Cond.instanceMethod yX4_comes, Cond.selects RX4 yX4_comes yX4_comes, Cond.code yX4_comes cX4_comes 6 none]
def wsX11_judge_r4 : List Cond := [Cond.fieldLink RX4 21 "SetAgain$Habits" "tried" "I", Cond.fieldLink RX4 71 "SetAgain$Habits" "triedNear" "I", Cond.methodLink RX4 89 Lib.Math.max.name, Cond.static Lib.Math.max.name, Cond.code Lib.Math.max.name Lib.Math.max.code 2 (some .int), Cond.methodLink RX4 74 yX0_numberOf, Cond.instanceMethod yX0_numberOf, Cond.selects RX0 yX0_numberOf yX0_numberOf, Cond.initialized RX0, Cond.code yX0_numberOf cX0_numberOf 3 (some .int), Cond.fieldLink RX0 11 "SetAgain$Chair" "told" "[I", Cond.methodLink RX4 78 yX0_turned, Cond.instanceMethod yX0_turned, Cond.selects RX0 yX0_turned yX0_turned, Cond.code yX0_turned cX0_turned 6 (some .int), Cond.methodLink RX0 45 Lib.Math.abs.name, Cond.static Lib.Math.abs.name, Cond.code Lib.Math.abs.name Lib.Math.abs.code 1 (some .int), Cond.methodLink RX0 42 yX0_numberOf, Cond.methodLink RX4 82 yX4_turnTo, Cond.instanceMethod yX4_turnTo, Cond.selects RX4 yX4_turnTo yX4_turnTo, Cond.code yX4_turnTo cX4_turnTo 5 (some .int), Cond.methodLink RX4 101 Lib.Math.abs.name]
def wsX11_judge_r5 : List Cond := [Cond.methodLink RX4 105 yX0_priceOf, Cond.instanceMethod yX0_priceOf, Cond.selects RX0 yX0_priceOf yX0_priceOf, Cond.code yX0_priceOf cX0_priceOf 2 (some .int), Cond.methodLink RX4 85 yX0_fetch, Cond.instanceMethod yX0_fetch, Cond.selects RX0 yX0_fetch yX0_fetch, Cond.code yX0_fetch cX0_fetch 1 (some .int), Cond.methodLink RX4 94 yX0_lossAt, Cond.instanceMethod yX0_lossAt, Cond.selects RX0 yX0_lossAt yX0_lossAt, Cond.code yX0_lossAt cX0_lossAt 9 (some .int), Cond.fieldLink RX0 25 "SetAgain$Chair" "lost" "[I", Cond.fieldLink RX0 21 "SetAgain$Chair" "law" "LSetAgain$Law;", Cond.fieldLink RX0 49 "SetAgain$Law" "holds" "Z", Cond.methodLink RX0 57 Lib.Math.min.name, Cond.methodLink RX0 36 Lib.Math.max.name, Cond.methodLink RX0 53 yX5_valueOf, Cond.instanceMethod yX5_valueOf, Cond.selects RX5 yX5_valueOf yX5_valueOf, Cond.initialized RX5, Cond.code yX5_valueOf cX5_valueOf 10 (some .int), Cond.fieldLink RX5 46 "SetAgain$Law" "coded" "I", Cond.fieldLink RX5 18 "SetAgain$Law" "code" "[I"]
def wsX11_judge_r6 : List Cond := [Cond.fieldLink RX5 21 "SetAgain$Law" "stack" "[I", Cond.methodLink RX5 99 yX5_operands, Cond.static yX5_operands, Cond.code yX5_operands cX5_operands 1 (some .int), Cond.methodLink RX5 103 yX5_named, Cond.static yX5_named, Cond.code yX5_named cX5_named 5 (some .int), Cond.methodLink RX5 111 Lib.Math.abs.name, Cond.methodLink RX5 107 yX5_worked, Cond.static yX5_worked, Cond.code yX5_worked cX5_worked 3 (some .int), Cond.methodLink RX4 65 yX4_leaves, Cond.instanceMethod yX4_leaves, Cond.selects RX4 yX4_leaves yX4_leaves, Cond.code yX4_leaves cX4_leaves 2 none, Cond.fieldLink RX4 98 "SetAgain$Habits" "left" "I", Cond.methodLink RX4 68 yX4_slip, Cond.instanceMethod yX4_slip, Cond.selects RX4 yX4_slip yX4_slip, Cond.code yX4_slip cX4_slip 2 none, Cond.methodLink RX4 108 yX0_slipped, Cond.instanceMethod yX0_slipped, Cond.selects RX0 yX0_slipped yX0_slipped, Cond.code yX0_slipped cX0_slipped 3 (some .int)]
def wsX11_judge : List Cond := .code yX11_judge cX11_judge 7 (some .int) :: ((wsX11_judge_r1 ++ (wsX11_judge_r2 ++ (wsX11_judge_r3 ++ (wsX11_judge_r4 ++ (wsX11_judge_r5 ++ wsX11_judge_r6))))) ++ wsX110 ++ wsX70 ++ wsX00 ++ wsX100 ++ wsX40 ++ wsX50)
def wsX11_drawn_r1 : List Cond := [Cond.fieldLink RX11 28 "SetAgain" "habits" "LSetAgain$Habits;", Cond.fieldLink RX11 187 "SetAgain$Habits" "costs" "I", Cond.methodLink RX11 97 yX11_isShelf, Cond.static yX11_isShelf, Cond.initialized RX11, Cond.code yX11_isShelf cX11_isShelf 1 (some .boolean), Cond.methodLink RX11 153 yX11_readWeek, Cond.instanceMethod yX11_readWeek, Cond.selects RX11 yX11_readWeek yX11_readWeek, Cond.code yX11_readWeek cX11_readWeek 3 (some .int), Cond.fieldLink RX11 19 "SetAgain" "week" "LSetAgain$Week;", Cond.fieldLink RX11 80 "SetAgain" "shelves" "[LSetAgain$Shelf;", Cond.fieldLink RX11 12 "SetAgain" "chair" "LSetAgain$Chair;", Cond.fieldLink RX11 310 "SetAgain$Chair" "sitters" "I", Cond.methodLink RX11 209 yX11_refusalOf, Cond.instanceMethod yX11_refusalOf, Cond.selects RX11 yX11_refusalOf yX11_refusalOf, Cond.code yX11_refusalOf cX11_refusalOf 2 (some .int), Cond.fieldLink RX11 100 "SetAgain$Shelf" "sort" "I", Cond.methodLink RX11 320 yX10_reads, Cond.instanceMethod yX10_reads, Cond.selects RX10 yX10_reads yX10_reads, Cond.initialized RX10, Cond.code yX10_reads cX10_reads 5 none]
def wsX11_drawn_r2 : List Cond := [Cond.fieldLink RX10 18 "SetAgain$Shelf" "length" "I", Cond.methodLink RX10 24 Lib.Math.min.name, Cond.static Lib.Math.min.name, Cond.initialized "java/lang/Math", Cond.code Lib.Math.min.name Lib.Math.min.code 2 (some .int), Cond.fieldLink RX10 30 "SetAgain$Week" "length" "I", Cond.fieldLink RX10 31 "SetAgain$Week" "sat" "I", Cond.fieldLink RX10 15 "SetAgain$Week" "times" "[I", Cond.fieldLink RX10 34 "SetAgain$Shelf" "elements" "[J", Cond.fieldLink RX10 9 "SetAgain$Week" "sitters" "[I", Cond.methodLink RX11 220 yX4_drawWeeks, Cond.instanceMethod yX4_drawWeeks, Cond.selects RX4 yX4_drawWeeks yX4_drawWeeks, Cond.initialized RX4, Cond.code yX4_drawWeeks cX4_drawWeeks 8 (some .int), Cond.fieldLink RX4 32 "SetAgain$Habits" "week" "LSetAgain$Week;", Cond.fieldLink RX4 111 "SetAgain$Week" "length" "I", Cond.fieldLink RX4 53 "SetAgain$Week" "sitters" "[I", Cond.constant RX4 127 (1103515245), Cond.fieldLink RX4 28 "SetAgain$Habits" "chair" "LSetAgain$Chair;", Cond.methodLink RX4 50 yX4_begin, Cond.instanceMethod yX4_begin, Cond.selects RX4 yX4_begin yX4_begin, Cond.code yX4_begin cX4_begin 2 none]
def wsX11_drawn_r3 : List Cond := [Cond.fieldLink RX4 36 "SetAgain$Habits" "losses" "I", Cond.fieldLink RX4 39 "SetAgain$Habits" "costs" "I", Cond.fieldLink RX4 15 "SetAgain$Habits" "turns" "[I", Cond.fieldLink RX4 18 "SetAgain$Habits" "spared" "[I", Cond.methodLink RX4 42 yX4_standAsNow, Cond.instanceMethod yX4_standAsNow, Cond.selects RX4 yX4_standAsNow yX4_standAsNow, Cond.code yX4_standAsNow cX4_standAsNow 2 none, Cond.fieldLink RX4 9 "SetAgain$Habits" "stand" "[I", Cond.fieldLink RX4 45 "SetAgain$Chair" "stands" "[I", Cond.methodLink RX4 74 yX0_numberOf, Cond.instanceMethod yX0_numberOf, Cond.selects RX0 yX0_numberOf yX0_numberOf, Cond.initialized RX0, Cond.code yX0_numberOf cX0_numberOf 3 (some .int), Cond.fieldLink RX0 11 "SetAgain$Chair" "told" "[I", Cond.methodLink RX4 58 yX4_pass, Cond.instanceMethod yX4_pass, Cond.selects RX4 yX4_pass yX4_pass, Cond.code yX4_pass cX4_pass 2 none, Cond.fieldLink RX4 25 "SetAgain$Habits" "leaver" "I", Cond.methodLink RX4 62 yX4_comes, Cond.instanceMethod yX4_comes, Cond.selects RX4 yX4_comes yX4_comes]
def wsX11_drawn_r4 : List Cond := [Cond.code yX4_comes cX4_comes 6 none, Cond.fieldLink RX4 21 "SetAgain$Habits" "tried" "I", Cond.fieldLink RX4 71 "SetAgain$Habits" "triedNear" "I", Cond.methodLink RX4 89 Lib.Math.max.name, Cond.static Lib.Math.max.name, Cond.code Lib.Math.max.name Lib.Math.max.code 2 (some .int), Cond.methodLink RX4 78 yX0_turned, Cond.instanceMethod yX0_turned, Cond.selects RX0 yX0_turned yX0_turned, Cond.code yX0_turned cX0_turned 6 (some .int), Cond.methodLink RX0 45 Lib.Math.abs.name, Cond.static Lib.Math.abs.name, Cond.code Lib.Math.abs.name Lib.Math.abs.code 1 (some .int), Cond.methodLink RX0 42 yX0_numberOf, Cond.methodLink RX4 82 yX4_turnTo, Cond.instanceMethod yX4_turnTo, Cond.selects RX4 yX4_turnTo yX4_turnTo, Cond.code yX4_turnTo cX4_turnTo 5 (some .int), Cond.methodLink RX4 101 Lib.Math.abs.name, Cond.methodLink RX4 105 yX0_priceOf, Cond.instanceMethod yX0_priceOf, Cond.selects RX0 yX0_priceOf yX0_priceOf, Cond.code yX0_priceOf cX0_priceOf 2 (some .int), Cond.methodLink RX4 85 yX0_fetch]
def wsX11_drawn_r5 : List Cond := [Cond.instanceMethod yX0_fetch, Cond.selects RX0 yX0_fetch yX0_fetch, Cond.code yX0_fetch cX0_fetch 1 (some .int), Cond.methodLink RX4 94 yX0_lossAt, Cond.instanceMethod yX0_lossAt, Cond.selects RX0 yX0_lossAt yX0_lossAt, Cond.code yX0_lossAt cX0_lossAt 9 (some .int), Cond.fieldLink RX0 25 "SetAgain$Chair" "lost" "[I", Cond.fieldLink RX0 21 "SetAgain$Chair" "law" "LSetAgain$Law;", Cond.fieldLink RX0 49 "SetAgain$Law" "holds" "Z", Cond.methodLink RX0 57 Lib.Math.min.name, Cond.methodLink RX0 36 Lib.Math.max.name, Cond.methodLink RX0 53 yX5_valueOf, Cond.instanceMethod yX5_valueOf, Cond.selects RX5 yX5_valueOf yX5_valueOf, Cond.initialized RX5, Cond.code yX5_valueOf cX5_valueOf 10 (some .int), Cond.fieldLink RX5 46 "SetAgain$Law" "coded" "I", Cond.fieldLink RX5 18 "SetAgain$Law" "code" "[I", Cond.fieldLink RX5 21 "SetAgain$Law" "stack" "[I", Cond.methodLink RX5 99 yX5_operands, Cond.static yX5_operands, Cond.code yX5_operands cX5_operands 1 (some .int), Cond.methodLink RX5 103 yX5_named]
def wsX11_drawn_r6 : List Cond := [Cond.static yX5_named, Cond.code yX5_named cX5_named 5 (some .int), Cond.methodLink RX5 111 Lib.Math.abs.name, Cond.methodLink RX5 107 yX5_worked, Cond.static yX5_worked, Cond.code yX5_worked cX5_worked 3 (some .int), Cond.methodLink RX4 65 yX4_leaves, Cond.instanceMethod yX4_leaves, Cond.selects RX4 yX4_leaves yX4_leaves, Cond.code yX4_leaves cX4_leaves 2 none, Cond.fieldLink RX4 98 "SetAgain$Habits" "left" "I", Cond.methodLink RX4 68 yX4_slip, Cond.instanceMethod yX4_slip, Cond.selects RX4 yX4_slip yX4_slip, Cond.code yX4_slip cX4_slip 2 none, Cond.methodLink RX4 108 yX0_slipped, Cond.instanceMethod yX0_slipped, Cond.selects RX0 yX0_slipped yX0_slipped, Cond.code yX0_slipped cX0_slipped 3 (some .int)]
def wsX11_drawn : List Cond := .code yX11_drawn cX11_drawn 7 (some .int) :: ((wsX11_drawn_r1 ++ (wsX11_drawn_r2 ++ (wsX11_drawn_r3 ++ (wsX11_drawn_r4 ++ (wsX11_drawn_r5 ++ wsX11_drawn_r6))))) ++ wsX110 ++ wsX40 ++ wsX00 ++ wsX70 ++ wsX100 ++ wsX50)
def wsX11_sit_r1 : List Cond := [Cond.fieldLink RX11 12 "SetAgain" "chair" "LSetAgain$Chair;", Cond.fieldLink RX11 60 "SetAgain" "deed" "LSetAgain$Deed;", Cond.methodLink RX11 146 yX0_has, Cond.instanceMethod yX0_has, Cond.selects RX0 yX0_has yX0_has, Cond.initialized RX0, Cond.code yX0_has cX0_has 2 (some .boolean), Cond.fieldLink RX0 28 "SetAgain$Chair" "sitters" "I", Cond.methodLink RX11 223 yX2_comes, Cond.instanceMethod yX2_comes, Cond.selects RX2 yX2_comes yX2_comes, Cond.initialized RX2, Cond.code yX2_comes cX2_comes 2 (some .int), Cond.fieldLink RX2 25 "SetAgain$Deed" "habits" "LSetAgain$Habits;", Cond.fieldLink RX2 38 "SetAgain$Habits" "stand" "[I", Cond.fieldLink RX2 21 "SetAgain$Deed" "chair" "LSetAgain$Chair;", Cond.fieldLink RX2 41 "SetAgain$Chair" "stands" "[I", Cond.methodLink RX2 46 arraycopyName, Cond.native arraycopyName, Cond.static arraycopyName, Cond.initialized "java/lang/System", Cond.fieldLink RX2 11 "SetAgain$Deed" "told" "[I", Cond.fieldLink RX2 52 "SetAgain$Habits" "costs" "I", Cond.fieldLink RX2 60 "SetAgain$Habits" "losses" "I"]
def wsX11_sit_r2 : List Cond := [Cond.methodLink RX2 29 yX4_begin, Cond.instanceMethod yX4_begin, Cond.selects RX4 yX4_begin yX4_begin, Cond.initialized RX4, Cond.code yX4_begin cX4_begin 2 none, Cond.fieldLink RX4 36 "SetAgain$Habits" "losses" "I", Cond.fieldLink RX4 39 "SetAgain$Habits" "costs" "I", Cond.fieldLink RX4 15 "SetAgain$Habits" "turns" "[I", Cond.fieldLink RX4 18 "SetAgain$Habits" "spared" "[I", Cond.methodLink RX4 42 yX4_standAsNow, Cond.instanceMethod yX4_standAsNow, Cond.selects RX4 yX4_standAsNow yX4_standAsNow, Cond.code yX4_standAsNow cX4_standAsNow 2 none, Cond.fieldLink RX4 9 "SetAgain$Habits" "stand" "[I", Cond.fieldLink RX4 28 "SetAgain$Habits" "chair" "LSetAgain$Chair;", Cond.fieldLink RX4 45 "SetAgain$Chair" "stands" "[I", Cond.methodLink RX2 34 yX4_comes, Cond.instanceMethod yX4_comes, Cond.selects RX4 yX4_comes yX4_comes, Cond.code yX4_comes cX4_comes 6 none, Cond.fieldLink RX4 21 "SetAgain$Habits" "tried" "I", Cond.fieldLink RX4 71 "SetAgain$Habits" "triedNear" "I", Cond.methodLink RX4 89 Lib.Math.max.name, Cond.static Lib.Math.max.name]
def wsX11_sit_r3 : List Cond := [Cond.initialized "java/lang/Math", Cond.code Lib.Math.max.name Lib.Math.max.code 2 (some .int), Cond.methodLink RX4 74 yX0_numberOf, Cond.instanceMethod yX0_numberOf, Cond.selects RX0 yX0_numberOf yX0_numberOf, Cond.code yX0_numberOf cX0_numberOf 3 (some .int), Cond.fieldLink RX0 11 "SetAgain$Chair" "told" "[I", Cond.methodLink RX4 78 yX0_turned, Cond.instanceMethod yX0_turned, Cond.selects RX0 yX0_turned yX0_turned, Cond.code yX0_turned cX0_turned 6 (some .int), Cond.methodLink RX0 45 Lib.Math.abs.name, Cond.static Lib.Math.abs.name, Cond.code Lib.Math.abs.name Lib.Math.abs.code 1 (some .int), Cond.methodLink RX0 42 yX0_numberOf, Cond.methodLink RX4 82 yX4_turnTo, Cond.instanceMethod yX4_turnTo, Cond.selects RX4 yX4_turnTo yX4_turnTo, Cond.code yX4_turnTo cX4_turnTo 5 (some .int), Cond.methodLink RX4 101 Lib.Math.abs.name, Cond.methodLink RX4 105 yX0_priceOf, Cond.instanceMethod yX0_priceOf, Cond.selects RX0 yX0_priceOf yX0_priceOf, Cond.code yX0_priceOf cX0_priceOf 2 (some .int)]
def wsX11_sit_r4 : List Cond := [Cond.methodLink RX4 85 yX0_fetch, Cond.instanceMethod yX0_fetch, Cond.selects RX0 yX0_fetch yX0_fetch, Cond.code yX0_fetch cX0_fetch 1 (some .int), Cond.methodLink RX4 94 yX0_lossAt, Cond.instanceMethod yX0_lossAt, Cond.selects RX0 yX0_lossAt yX0_lossAt, Cond.code yX0_lossAt cX0_lossAt 9 (some .int), Cond.fieldLink RX0 25 "SetAgain$Chair" "lost" "[I", Cond.fieldLink RX0 21 "SetAgain$Chair" "law" "LSetAgain$Law;", Cond.fieldLink RX0 49 "SetAgain$Law" "holds" "Z", Cond.methodLink RX0 57 Lib.Math.min.name, Cond.static Lib.Math.min.name, Cond.code Lib.Math.min.name Lib.Math.min.code 2 (some .int), Cond.methodLink RX0 36 Lib.Math.max.name, Cond.methodLink RX0 53 yX5_valueOf, Cond.instanceMethod yX5_valueOf, Cond.selects RX5 yX5_valueOf yX5_valueOf, Cond.initialized RX5, Cond.code yX5_valueOf cX5_valueOf 10 (some .int), Cond.fieldLink RX5 46 "SetAgain$Law" "coded" "I", Cond.fieldLink RX5 18 "SetAgain$Law" "code" "[I", Cond.fieldLink RX5 21 "SetAgain$Law" "stack" "[I", Cond.methodLink RX5 99 yX5_operands]
def wsX11_sit_r5 : List Cond := [Cond.static yX5_operands, Cond.code yX5_operands cX5_operands 1 (some .int), Cond.methodLink RX5 103 yX5_named, Cond.static yX5_named, Cond.code yX5_named cX5_named 5 (some .int), Cond.methodLink RX5 111 Lib.Math.abs.name, Cond.methodLink RX5 107 yX5_worked, Cond.static yX5_worked, Cond.code yX5_worked cX5_worked 3 (some .int), Cond.methodLink RX2 56 yX4_allTurns, Cond.instanceMethod yX4_allTurns, Cond.selects RX4 yX4_allTurns yX4_allTurns, Cond.code yX4_allTurns cX4_allTurns 3 (some .int)]
def wsX11_sit : List Cond := .code yX11_sit cX11_sit 2 (some .int) :: ((wsX11_sit_r1 ++ (wsX11_sit_r2 ++ (wsX11_sit_r3 ++ (wsX11_sit_r4 ++ wsX11_sit_r5)))) ++ wsX110 ++ wsX00 ++ wsX20 ++ wsX40 ++ wsX50)
def wsX11_set : List Cond := .code yX11_set cX11_set 3 (some .int) :: ([.fieldLink RX11 60 "SetAgain" "deed" "LSetAgain$Deed;", .methodLink RX11 123 yX11_isPart, .static yX11_isPart, .initialized RX11, .code yX11_isPart cX11_isPart 1 (some .boolean), .methodLink RX11 85 yX11_isSetting, .static yX11_isSetting, .code yX11_isSetting cX11_isSetting 1 (some .boolean), .methodLink RX11 225 yX2_turns, .instanceMethod yX2_turns, .selects RX2 yX2_turns yX2_turns, .initialized RX2, .code yX2_turns cX2_turns 4 (some .int), .fieldLink RX2 21 "SetAgain$Deed" "chair" "LSetAgain$Chair;", .fieldLink RX2 41 "SetAgain$Chair" "stands" "[I", .methodLink RX2 63 Lib.Math.abs.name, .static Lib.Math.abs.name, .initialized "java/lang/Math", .code Lib.Math.abs.name Lib.Math.abs.code 1 (some .int), .fieldLink RX2 11 "SetAgain$Deed" "told" "[I"] ++ wsX110 ++ wsX20 ++ wsX00)
def wsX11_night : List Cond := .code yX11_night cX11_night 1 (some .int) :: ([.fieldLink RX11 60 "SetAgain" "deed" "LSetAgain$Deed;", .methodLink RX11 228 yX2_allSlip, .instanceMethod yX2_allSlip, .selects RX2 yX2_allSlip yX2_allSlip, .initialized RX2, .code yX2_allSlip cX2_allSlip 4 (some .int), .fieldLink RX2 21 "SetAgain$Deed" "chair" "LSetAgain$Chair;", .fieldLink RX2 41 "SetAgain$Chair" "stands" "[I", .methodLink RX2 69 yX0_slipped, .instanceMethod yX0_slipped, .selects RX0 yX0_slipped yX0_slipped, .initialized RX0, .code yX0_slipped cX0_slipped 3 (some .int), .fieldLink RX0 11 "SetAgain$Chair" "told" "[I", .methodLink RX0 36 Lib.Math.max.name, .static Lib.Math.max.name, .initialized "java/lang/Math", .code Lib.Math.max.name Lib.Math.max.code 2 (some .int)] ++ wsX110 ++ wsX20 ++ wsX00)
def wsX11_led : List Cond := .code yX11_led cX11_led 2 (some .int) :: ([.fieldLink RX11 60 "SetAgain" "deed" "LSetAgain$Deed;", .fieldLink RX11 231 "SetAgain$Deed" "told" "[I"] ++ wsX110 ++ wsX20)
def wsX11_image : List Cond := .code yX11_image cX11_image 1 (some .int) :: ([.fieldLink RX11 60 "SetAgain" "deed" "LSetAgain$Deed;", .methodLink RX11 232 yX2_keepImage, .instanceMethod yX2_keepImage, .selects RX2 yX2_keepImage yX2_keepImage, .initialized RX2, .code yX2_keepImage cX2_keepImage 1 (some .int), .fieldLink RX2 11 "SetAgain$Deed" "told" "[I", .fieldLink RX2 15 "SetAgain$Deed" "keptTold" "[I", .methodLink RX2 46 arraycopyName, .native arraycopyName, .static arraycopyName, .initialized "java/lang/System", .fieldLink RX2 21 "SetAgain$Deed" "chair" "LSetAgain$Chair;", .fieldLink RX2 41 "SetAgain$Chair" "stands" "[I", .fieldLink RX2 18 "SetAgain$Deed" "keptStands" "[I", .fieldLink RX2 73 "SetAgain$Deed" "kept" "Z"] ++ wsX110 ++ wsX20 ++ wsX00)
def wsX11_back : List Cond := .code yX11_back cX11_back 1 (some .int) :: ([.fieldLink RX11 60 "SetAgain" "deed" "LSetAgain$Deed;", .methodLink RX11 235 yX2_layBack, .instanceMethod yX2_layBack, .selects RX2 yX2_layBack yX2_layBack, .initialized RX2, .code yX2_layBack cX2_layBack 1 (some .int), .fieldLink RX2 73 "SetAgain$Deed" "kept" "Z", .fieldLink RX2 15 "SetAgain$Deed" "keptTold" "[I", .fieldLink RX2 11 "SetAgain$Deed" "told" "[I", .methodLink RX2 46 arraycopyName, .native arraycopyName, .static arraycopyName, .initialized "java/lang/System", .fieldLink RX2 18 "SetAgain$Deed" "keptStands" "[I", .fieldLink RX2 21 "SetAgain$Deed" "chair" "LSetAgain$Chair;", .fieldLink RX2 41 "SetAgain$Chair" "stands" "[I"] ++ wsX110 ++ wsX20 ++ wsX00)
def wsX11_undo : List Cond := .code yX11_undo cX11_undo 1 (some .int) :: ([.fieldLink RX11 67 "SetAgain" "changes" "LSetAgain$Changes;", .fieldLink RX11 238 "SetAgain$Changes" "done" "I", .fieldLink RX11 12 "SetAgain" "chair" "LSetAgain$Chair;", .fieldLink RX11 241 "SetAgain$Changes" "places" "[I", .fieldLink RX11 244 "SetAgain$Changes" "before" "[I", .methodLink RX11 119 yX0_becomes, .instanceMethod yX0_becomes, .selects RX0 yX0_becomes yX0_becomes, .initialized RX0, .code yX0_becomes cX0_becomes 3 none, .fieldLink RX0 11 "SetAgain$Chair" "told" "[I", .methodLink RX0 32 yX0_forget, .instanceMethod yX0_forget, .selects RX0 yX0_forget yX0_forget, .code yX0_forget cX0_forget 4 none, .fieldLink RX0 25 "SetAgain$Chair" "lost" "[I"] ++ wsX110 ++ wsX10 ++ wsX00)
def wsX11_redo : List Cond := .code yX11_redo cX11_redo 1 (some .int) :: ([.fieldLink RX11 67 "SetAgain" "changes" "LSetAgain$Changes;", .fieldLink RX11 238 "SetAgain$Changes" "done" "I", .fieldLink RX11 247 "SetAgain$Changes" "kept" "I", .fieldLink RX11 12 "SetAgain" "chair" "LSetAgain$Chair;", .fieldLink RX11 241 "SetAgain$Changes" "places" "[I", .fieldLink RX11 250 "SetAgain$Changes" "after" "[I", .methodLink RX11 119 yX0_becomes, .instanceMethod yX0_becomes, .selects RX0 yX0_becomes yX0_becomes, .initialized RX0, .code yX0_becomes cX0_becomes 3 none, .fieldLink RX0 11 "SetAgain$Chair" "told" "[I", .methodLink RX0 32 yX0_forget, .instanceMethod yX0_forget, .selects RX0 yX0_forget yX0_forget, .code yX0_forget cX0_forget 4 none, .fieldLink RX0 25 "SetAgain$Chair" "lost" "[I"] ++ wsX110 ++ wsX10 ++ wsX00)
def wsX11_isKind : List Cond := .code yX11_isKind cX11_isKind 1 (some .boolean) :: ([])
def wsX11_body : List Cond := .code yX11_body cX11_body 2 (some .int) :: ([.fieldLink RX11 74 "SetAgain" "desks" "LSetAgain$Desks;", .methodLink RX11 253 yX11_isKind, .static yX11_isKind, .initialized RX11, .code yX11_isKind cX11_isKind 1 (some .boolean), .methodLink RX11 256 yX3_comes, .instanceMethod yX3_comes, .selects RX3 yX3_comes yX3_comes, .initialized RX3, .code yX3_comes cX3_comes 2 (some .int), .fieldLink RX3 18 "SetAgain$Desks" "kept" "I", .fieldLink RX3 9 "SetAgain$Desks" "kinds" "[I"] ++ wsX110 ++ wsX30)
def wsX11_act_r1 : List Cond := [Cond.fieldLink RX11 74 "SetAgain" "desks" "LSetAgain$Desks;", Cond.methodLink RX11 257 yX3_acts, Cond.instanceMethod yX3_acts, Cond.selects RX3 yX3_acts yX3_acts, Cond.initialized RX3, Cond.code yX3_acts cX3_acts 4 (some .int), Cond.fieldLink RX3 25 "SetAgain$Desks" "ran" "I", Cond.fieldLink RX3 18 "SetAgain$Desks" "kept" "I", Cond.fieldLink RX3 9 "SetAgain$Desks" "kinds" "[I", Cond.fieldLink RX3 28 "SetAgain$Desks" "kind" "I", Cond.fieldLink RX3 31 "SetAgain$Desks" "number" "I", Cond.methodLink RX3 34 yX3_does, Cond.instanceMethod yX3_does, Cond.selects RX3 yX3_does yX3_does, Cond.code yX3_does cX3_does 7 (some .int), Cond.fieldLink RX3 42 "SetAgain$Desks" "OWN" "[I", Cond.fieldLink RX3 15 "SetAgain$Desks" "trace" "[I", Cond.fieldLink RX3 22 "SetAgain$Desks" "ABOVE" "[I", Cond.methodLink RX3 38 yX3_ownerOf, Cond.static yX3_ownerOf, Cond.code yX3_ownerOf cX3_ownerOf 4 (some .int), Cond.methodLink RX3 45 yX3_runs, Cond.instanceMethod yX3_runs, Cond.selects RX3 yX3_runs yX3_runs]
def wsX11_act_r2 : List Cond := [Cond.code yX3_runs cX3_runs 5 (some .int)]
def wsX11_act : List Cond := .code yX11_act cX11_act 4 (some .int) :: ((wsX11_act_r1 ++ wsX11_act_r2) ++ wsX110 ++ wsX30)
def wsX11_trace : List Cond := .code yX11_trace cX11_trace 2 (some .int) :: ([.fieldLink RX11 74 "SetAgain" "desks" "LSetAgain$Desks;", .fieldLink RX11 260 "SetAgain$Desks" "ran" "I", .methodLink RX11 263 Lib.Math.min.name, .static Lib.Math.min.name, .initialized "java/lang/Math", .code Lib.Math.min.name Lib.Math.min.code 2 (some .int), .fieldLink RX11 268 "SetAgain$Desks" "trace" "[I"] ++ wsX110 ++ wsX30)
def wsX11_keep : List Cond := .code yX11_keep cX11_keep 3 (some .int) :: ([.fieldLink RX11 74 "SetAgain" "desks" "LSetAgain$Desks;", .fieldLink RX11 271 "SetAgain$Desks" "kept" "I", .fieldLink RX11 80 "SetAgain" "shelves" "[LSetAgain$Shelf;", .methodLink RX11 97 yX11_isShelf, .static yX11_isShelf, .initialized RX11, .code yX11_isShelf cX11_isShelf 1 (some .boolean), .methodLink RX11 272 yX7_takesDesk, .instanceMethod yX7_takesDesk, .selects RX7 yX7_takesDesk yX7_takesDesk, .initialized RX7, .code yX7_takesDesk cX7_takesDesk 2 none, .fieldLink RX7 15 "SetAgain$Shelf" "sort" "I", .fieldLink RX7 19 "SetAgain$Shelf" "desk" "I"] ++ wsX110 ++ wsX30 ++ wsX70)
def wsX11_row : List Cond := .code yX11_row cX11_row 4 (some .int) :: ([.fieldLink RX11 80 "SetAgain" "shelves" "[LSetAgain$Shelf;", .methodLink RX11 97 yX11_isShelf, .static yX11_isShelf, .initialized RX11, .code yX11_isShelf cX11_isShelf 1 (some .boolean), .methodLink RX11 275 yX7_takesRow, .instanceMethod yX7_takesRow, .selects RX7 yX7_takesRow yX7_takesRow, .initialized RX7, .code yX7_takesRow cX7_takesRow 4 none, .fieldLink RX7 15 "SetAgain$Shelf" "sort" "I", .fieldLink RX7 22 "SetAgain$Shelf" "length" "I", .fieldLink RX7 9 "SetAgain$Shelf" "elements" "[J"] ++ wsX110 ++ wsX70)
def wsX11_refusalAt : List Cond := .code yX11_refusalAt cX11_refusalAt 4 (some .int) :: ([.fieldLink RX11 80 "SetAgain" "shelves" "[LSetAgain$Shelf;", .fieldLink RX11 100 "SetAgain$Shelf" "sort" "I", .methodLink RX11 97 yX11_isShelf, .static yX11_isShelf, .initialized RX11, .code yX11_isShelf cX11_isShelf 1 (some .boolean), .methodLink RX11 291 yX7_isRow, .instanceMethod yX7_isRow, .selects RX7 yX7_isRow yX7_isRow, .initialized RX7, .code yX7_isRow cX7_isRow 1 (some .boolean), .fieldLink RX7 15 "SetAgain$Shelf" "sort" "I", .methodLink RX11 295 yX7_hasPlaces, .instanceMethod yX7_hasPlaces, .selects RX7 yX7_hasPlaces yX7_hasPlaces, .code yX7_hasPlaces cX7_hasPlaces 3 (some .boolean), .fieldLink RX7 22 "SetAgain$Shelf" "length" "I"] ++ wsX110 ++ wsX70)
def wsX11_put_r1 : List Cond := [Cond.fieldLink RX11 80 "SetAgain" "shelves" "[LSetAgain$Shelf;", Cond.fieldLink RX11 281 "SetAgain$Shelf" "elements" "[J", Cond.methodLink RX11 278 yX11_refusalAt, Cond.instanceMethod yX11_refusalAt, Cond.selects RX11 yX11_refusalAt yX11_refusalAt, Cond.initialized RX11, Cond.code yX11_refusalAt cX11_refusalAt 4 (some .int), Cond.fieldLink RX11 100 "SetAgain$Shelf" "sort" "I", Cond.methodLink RX11 97 yX11_isShelf, Cond.static yX11_isShelf, Cond.code yX11_isShelf cX11_isShelf 1 (some .boolean), Cond.methodLink RX11 291 yX7_isRow, Cond.instanceMethod yX7_isRow, Cond.selects RX7 yX7_isRow yX7_isRow, Cond.initialized RX7, Cond.code yX7_isRow cX7_isRow 1 (some .boolean), Cond.fieldLink RX7 15 "SetAgain$Shelf" "sort" "I", Cond.methodLink RX11 295 yX7_hasPlaces, Cond.instanceMethod yX7_hasPlaces, Cond.selects RX7 yX7_hasPlaces yX7_hasPlaces, Cond.code yX7_hasPlaces cX7_hasPlaces 3 (some .boolean), Cond.fieldLink RX7 22 "SetAgain$Shelf" "length" "I", Cond.methodLink RX11 285 yX7_cut, Cond.instanceMethod yX7_cut]
def wsX11_put_r2 : List Cond := [Cond.selects RX7 yX7_cut yX7_cut, Cond.code yX7_cut cX7_cut 3 (some .long)]
def wsX11_put : List Cond := .code yX11_put cX11_put 6 (some .int) :: ((wsX11_put_r1 ++ wsX11_put_r2) ++ wsX110 ++ wsX70)
def wsX11_element : List Cond := .code yX11_element cX11_element 3 (some .long) :: ([.constantLong RX11 289 (-9223372036854775808), .fieldLink RX11 80 "SetAgain" "shelves" "[LSetAgain$Shelf;", .fieldLink RX11 281 "SetAgain$Shelf" "elements" "[J", .methodLink RX11 278 yX11_refusalAt, .instanceMethod yX11_refusalAt, .selects RX11 yX11_refusalAt yX11_refusalAt, .initialized RX11, .code yX11_refusalAt cX11_refusalAt 4 (some .int), .fieldLink RX11 100 "SetAgain$Shelf" "sort" "I", .methodLink RX11 97 yX11_isShelf, .static yX11_isShelf, .code yX11_isShelf cX11_isShelf 1 (some .boolean), .methodLink RX11 291 yX7_isRow, .instanceMethod yX7_isRow, .selects RX7 yX7_isRow yX7_isRow, .initialized RX7, .code yX7_isRow cX7_isRow 1 (some .boolean), .fieldLink RX7 15 "SetAgain$Shelf" "sort" "I", .methodLink RX11 295 yX7_hasPlaces, .instanceMethod yX7_hasPlaces, .selects RX7 yX7_hasPlaces yX7_hasPlaces, .code yX7_hasPlaces cX7_hasPlaces 3 (some .boolean), .fieldLink RX7 22 "SetAgain$Shelf" "length" "I"] ++ wsX110 ++ wsX70)
def wsX11_shift : List Cond := .code yX11_shift cX11_shift 8 (some .int) :: ([.fieldLink RX11 80 "SetAgain" "shelves" "[LSetAgain$Shelf;", .fieldLink RX11 100 "SetAgain$Shelf" "sort" "I", .fieldLink RX11 281 "SetAgain$Shelf" "elements" "[J", .methodLink RX11 298 arraycopyName, .native arraycopyName, .static arraycopyName, .initialized "java/lang/System", .methodLink RX11 97 yX11_isShelf, .static yX11_isShelf, .initialized RX11, .code yX11_isShelf cX11_isShelf 1 (some .boolean), .methodLink RX11 291 yX7_isRow, .instanceMethod yX7_isRow, .selects RX7 yX7_isRow yX7_isRow, .initialized RX7, .code yX7_isRow cX7_isRow 1 (some .boolean), .fieldLink RX7 15 "SetAgain$Shelf" "sort" "I", .methodLink RX11 295 yX7_hasPlaces, .instanceMethod yX7_hasPlaces, .selects RX7 yX7_hasPlaces yX7_hasPlaces, .code yX7_hasPlaces cX7_hasPlaces 3 (some .boolean), .fieldLink RX7 22 "SetAgain$Shelf" "length" "I"] ++ wsX110 ++ wsX70)
def wsX11_taken : List Cond := .code yX11_taken cX11_taken 4 (some .int) :: ([.fieldLink RX11 80 "SetAgain" "shelves" "[LSetAgain$Shelf;", .fieldLink RX11 100 "SetAgain$Shelf" "sort" "I", .fieldLink RX11 74 "SetAgain" "desks" "LSetAgain$Desks;", .fieldLink RX11 304 "SetAgain$Shelf" "desk" "I", .methodLink RX11 97 yX11_isShelf, .static yX11_isShelf, .initialized RX11, .code yX11_isShelf cX11_isShelf 1 (some .boolean), .methodLink RX11 253 yX11_isKind, .static yX11_isKind, .code yX11_isKind cX11_isKind 1 (some .boolean), .methodLink RX11 307 yX3_takenFor, .instanceMethod yX3_takenFor, .selects RX3 yX3_takenFor yX3_takenFor, .initialized RX3, .code yX3_takenFor cX3_takenFor 5 (some .int), .fieldLink RX3 9 "SetAgain$Desks" "kinds" "[I", .fieldLink RX3 22 "SetAgain$Desks" "ABOVE" "[I"] ++ wsX110 ++ wsX70 ++ wsX30)
def wsX11_count : List Cond := .code yX11_count cX11_count 2 (some .int) :: ([.fieldLink RX11 12 "SetAgain" "chair" "LSetAgain$Chair;", .fieldLink RX11 310 "SetAgain$Chair" "sitters" "I", .fieldLink RX11 129 "SetAgain$Chair" "law" "LSetAgain$Law;", .fieldLink RX11 313 "SetAgain$Law" "length" "I", .fieldLink RX11 67 "SetAgain" "changes" "LSetAgain$Changes;", .fieldLink RX11 238 "SetAgain$Changes" "done" "I", .fieldLink RX11 74 "SetAgain" "desks" "LSetAgain$Desks;", .fieldLink RX11 271 "SetAgain$Desks" "kept" "I", .fieldLink RX11 260 "SetAgain$Desks" "ran" "I"] ++ wsX110 ++ wsX00 ++ wsX50 ++ wsX10 ++ wsX30)
theorem dX0_has_0 : decode cX0_has 0 = .ok (.iload_n 1, 1) := by decide +kernel
theorem dX0_has_1 : decode cX0_has 1 = .ok (.ifCond .lt 15, 3) := by decide +kernel
theorem dX0_has_4 : decode cX0_has 4 = .ok (.iload_n 1, 1) := by decide +kernel
theorem dX0_has_5 : decode cX0_has 5 = .ok (.aload_n 0, 1) := by decide +kernel
theorem dX0_has_6 : decode cX0_has 6 = .ok (.getfield 28, 3) := by decide +kernel
theorem dX0_has_9 : decode cX0_has 9 = .ok (.if_icmp .ge 7, 3) := by decide +kernel
theorem dX0_has_16 : decode cX0_has 16 = .ok (.iconst 0, 1) := by decide +kernel
theorem dX0_has_17 : decode cX0_has 17 = .ok (.ireturn, 1) := by decide +kernel
theorem dX0_placeOf_0 : decode cX0_placeOf 0 = .ok (.iload_n 1, 1) := by decide +kernel
theorem dX0_placeOf_1 : decode cX0_placeOf 1 = .ok (.ifCond .lt 13, 3) := by decide +kernel
theorem dX0_placeOf_4 : decode cX0_placeOf 4 = .ok (.iload_n 2, 1) := by decide +kernel
theorem dX0_placeOf_5 : decode cX0_placeOf 5 = .ok (.ifCond .lt 9, 3) := by decide +kernel
theorem dX0_placeOf_8 : decode cX0_placeOf 8 = .ok (.iload_n 2, 1) := by decide +kernel
theorem dX0_placeOf_9 : decode cX0_placeOf 9 = .ok (.bipush 10, 2) := by decide +kernel
theorem dX0_placeOf_11 : decode cX0_placeOf 11 = .ok (.if_icmp .le 5, 3) := by decide +kernel
theorem dX0_placeOf_14 : decode cX0_placeOf 14 = .ok (.iconst (-1), 1) := by decide +kernel
theorem dX0_placeOf_15 : decode cX0_placeOf 15 = .ok (.ireturn, 1) := by decide +kernel
theorem dX0_placeOf_16 : decode cX0_placeOf 16 = .ok (.iload_n 2, 1) := by decide +kernel
theorem dX0_placeOf_17 : decode cX0_placeOf 17 = .ok (.bipush 8, 2) := by decide +kernel
theorem dX0_placeOf_19 : decode cX0_placeOf 19 = .ok (.if_icmp .ge 22, 3) := by decide +kernel
theorem dX0_placeOf_22 : decode cX0_placeOf 22 = .ok (.iload_n 1, 1) := by decide +kernel
theorem dX0_placeOf_23 : decode cX0_placeOf 23 = .ok (.aload_n 0, 1) := by decide +kernel
theorem dX0_placeOf_24 : decode cX0_placeOf 24 = .ok (.getfield 28, 3) := by decide +kernel
theorem dX0_placeOf_27 : decode cX0_placeOf 27 = .ok (.if_icmp .ge 12, 3) := by decide +kernel
theorem dX0_placeOf_39 : decode cX0_placeOf 39 = .ok (.iconst (-1), 1) := by decide +kernel
theorem dX0_placeOf_40 : decode cX0_placeOf 40 = .ok (.ireturn, 1) := by decide +kernel
theorem dX0_placeOf_41 : decode cX0_placeOf 41 = .ok (.iload_n 2, 1) := by decide +kernel
theorem dX0_placeOf_42 : decode cX0_placeOf 42 = .ok (.bipush 10, 2) := by decide +kernel
theorem dX0_placeOf_44 : decode cX0_placeOf 44 = .ok (.if_icmp .ne 14, 3) := by decide +kernel
theorem dX0_placeOf_47 : decode cX0_placeOf 47 = .ok (.iload_n 1, 1) := by decide +kernel
theorem dX0_placeOf_48 : decode cX0_placeOf 48 = .ok (.ifCond .ne 8, 3) := by decide +kernel
theorem dX0_placeOf_51 : decode cX0_placeOf 51 = .ok (.bipush 70, 2) := by decide +kernel
theorem dX0_placeOf_53 : decode cX0_placeOf 53 = .ok (.goto 4, 3) := by decide +kernel
theorem dX0_placeOf_56 : decode cX0_placeOf 56 = .ok (.iconst (-1), 1) := by decide +kernel
theorem dX0_placeOf_57 : decode cX0_placeOf 57 = .ok (.ireturn, 1) := by decide +kernel
theorem dX0_placeOf_58 : decode cX0_placeOf 58 = .ok (.iload_n 1, 1) := by decide +kernel
theorem dX0_placeOf_59 : decode cX0_placeOf 59 = .ok (.iconst 3, 1) := by decide +kernel
theorem dX0_placeOf_60 : decode cX0_placeOf 60 = .ok (.if_icmp .lt 5, 3) := by decide +kernel
theorem dX0_placeOf_63 : decode cX0_placeOf 63 = .ok (.iconst (-1), 1) := by decide +kernel
theorem dX0_placeOf_64 : decode cX0_placeOf 64 = .ok (.ireturn, 1) := by decide +kernel
theorem dX0_placeOf_65 : decode cX0_placeOf 65 = .ok (.iload_n 2, 1) := by decide +kernel
theorem dX0_placeOf_66 : decode cX0_placeOf 66 = .ok (.bipush 9, 2) := by decide +kernel
theorem dX0_placeOf_68 : decode cX0_placeOf 68 = .ok (.if_icmp .ne 8, 3) := by decide +kernel
theorem dX0_placeOf_71 : decode cX0_placeOf 71 = .ok (.bipush 67, 2) := by decide +kernel
theorem dX0_placeOf_73 : decode cX0_placeOf 73 = .ok (.goto 5, 3) := by decide +kernel
theorem dX0_placeOf_76 : decode cX0_placeOf 76 = .ok (.bipush 64, 2) := by decide +kernel
theorem dX0_placeOf_78 : decode cX0_placeOf 78 = .ok (.iload_n 1, 1) := by decide +kernel
theorem dX0_placeOf_79 : decode cX0_placeOf 79 = .ok (.iadd, 1) := by decide +kernel
theorem dX0_placeOf_80 : decode cX0_placeOf 80 = .ok (.ireturn, 1) := by decide +kernel
set_option maxRecDepth 20000 in
theorem ggX0_comes_X0_forget : GoodIn wsX0_comes wsX0_forget := goodIn_r _ [7, 8, 9, 10, 11, 12, 13] (by decide +kernel) (by decide +kernel)
set_option maxRecDepth 20000 in
theorem gX0_comes_X0_forget : GoodIn wsX0_comes (wsV RX0 32 RX0 yX0_forget wsX0_forget) := goodIn_app (goodIn_of _ (by decide +kernel)) ggX0_comes_X0_forget
theorem dX0_comes_0 : decode cX0_comes 0 = .ok (.aload_n 0, 1) := by decide +kernel
theorem dX0_comes_1 : decode cX0_comes 1 = .ok (.getfield 28, 3) := by decide +kernel
theorem dX0_comes_4 : decode cX0_comes 4 = .ok (.bipush 8, 2) := by decide +kernel
theorem dX0_comes_6 : decode cX0_comes 6 = .ok (.if_icmp .lt 6, 3) := by decide +kernel
theorem dX0_comes_12 : decode cX0_comes 12 = .ok (.aload_n 0, 1) := by decide +kernel
theorem dX0_comes_13 : decode cX0_comes 13 = .ok (.getfield 28, 3) := by decide +kernel
theorem dX0_comes_16 : decode cX0_comes 16 = .ok (.bipush 8, 2) := by decide +kernel
theorem dX0_comes_18 : decode cX0_comes 18 = .ok (.imul, 1) := by decide +kernel
theorem dX0_comes_19 : decode cX0_comes 19 = .ok (.istore 5, 2) := by decide +kernel
theorem dX0_comes_21 : decode cX0_comes 21 = .ok (.aload_n 0, 1) := by decide +kernel
theorem dX0_comes_22 : decode cX0_comes 22 = .ok (.getfield 11, 3) := by decide +kernel
theorem dX0_comes_25 : decode cX0_comes 25 = .ok (.iload 5, 2) := by decide +kernel
theorem dX0_comes_27 : decode cX0_comes 27 = .ok (.iload_n 1, 1) := by decide +kernel
theorem dX0_comes_28 : decode cX0_comes 28 = .ok (.iastore, 1) := by decide +kernel
theorem dX0_comes_29 : decode cX0_comes 29 = .ok (.aload_n 0, 1) := by decide +kernel
theorem dX0_comes_30 : decode cX0_comes 30 = .ok (.getfield 11, 3) := by decide +kernel
theorem dX0_comes_33 : decode cX0_comes 33 = .ok (.iload 5, 2) := by decide +kernel
theorem dX0_comes_35 : decode cX0_comes 35 = .ok (.iconst 1, 1) := by decide +kernel
theorem dX0_comes_36 : decode cX0_comes 36 = .ok (.iadd, 1) := by decide +kernel
theorem dX0_comes_37 : decode cX0_comes 37 = .ok (.iload_n 2, 1) := by decide +kernel
theorem dX0_comes_38 : decode cX0_comes 38 = .ok (.iastore, 1) := by decide +kernel
theorem dX0_comes_39 : decode cX0_comes 39 = .ok (.aload_n 0, 1) := by decide +kernel
theorem dX0_comes_40 : decode cX0_comes 40 = .ok (.getfield 11, 3) := by decide +kernel
theorem dX0_comes_43 : decode cX0_comes 43 = .ok (.iload 5, 2) := by decide +kernel
theorem dX0_comes_45 : decode cX0_comes 45 = .ok (.iconst 2, 1) := by decide +kernel
theorem dX0_comes_46 : decode cX0_comes 46 = .ok (.iadd, 1) := by decide +kernel
theorem dX0_comes_47 : decode cX0_comes 47 = .ok (.iload_n 3, 1) := by decide +kernel
theorem dX0_comes_48 : decode cX0_comes 48 = .ok (.iastore, 1) := by decide +kernel
theorem dX0_comes_49 : decode cX0_comes 49 = .ok (.aload_n 0, 1) := by decide +kernel
theorem dX0_comes_50 : decode cX0_comes 50 = .ok (.getfield 11, 3) := by decide +kernel
theorem dX0_comes_53 : decode cX0_comes 53 = .ok (.iload 5, 2) := by decide +kernel
theorem dX0_comes_55 : decode cX0_comes 55 = .ok (.iconst 3, 1) := by decide +kernel
theorem dX0_comes_56 : decode cX0_comes 56 = .ok (.iadd, 1) := by decide +kernel
theorem dX0_comes_57 : decode cX0_comes 57 = .ok (.iconst 1, 1) := by decide +kernel
theorem dX0_comes_58 : decode cX0_comes 58 = .ok (.iastore, 1) := by decide +kernel
theorem dX0_comes_59 : decode cX0_comes 59 = .ok (.aload_n 0, 1) := by decide +kernel
theorem dX0_comes_60 : decode cX0_comes 60 = .ok (.getfield 11, 3) := by decide +kernel
theorem dX0_comes_63 : decode cX0_comes 63 = .ok (.iload 5, 2) := by decide +kernel
theorem dX0_comes_65 : decode cX0_comes 65 = .ok (.iconst 4, 1) := by decide +kernel
theorem dX0_comes_66 : decode cX0_comes 66 = .ok (.iadd, 1) := by decide +kernel
theorem dX0_comes_67 : decode cX0_comes 67 = .ok (.iconst 1, 1) := by decide +kernel
theorem dX0_comes_68 : decode cX0_comes 68 = .ok (.iastore, 1) := by decide +kernel
theorem dX0_comes_69 : decode cX0_comes 69 = .ok (.aload_n 0, 1) := by decide +kernel
theorem dX0_comes_70 : decode cX0_comes 70 = .ok (.getfield 11, 3) := by decide +kernel
theorem dX0_comes_73 : decode cX0_comes 73 = .ok (.iload 5, 2) := by decide +kernel
theorem dX0_comes_75 : decode cX0_comes 75 = .ok (.iconst 5, 1) := by decide +kernel
theorem dX0_comes_76 : decode cX0_comes 76 = .ok (.iadd, 1) := by decide +kernel
theorem dX0_comes_77 : decode cX0_comes 77 = .ok (.iload 4, 2) := by decide +kernel
theorem dX0_comes_79 : decode cX0_comes 79 = .ok (.iastore, 1) := by decide +kernel
theorem dX0_comes_80 : decode cX0_comes 80 = .ok (.aload_n 0, 1) := by decide +kernel
theorem dX0_comes_81 : decode cX0_comes 81 = .ok (.aload_n 0, 1) := by decide +kernel
theorem dX0_comes_82 : decode cX0_comes 82 = .ok (.getfield 28, 3) := by decide +kernel
theorem dX0_comes_85 : decode cX0_comes 85 = .ok (.invokevirtual 32, 3) := by decide +kernel
theorem dX0_comes_88 : decode cX0_comes 88 = .ok (.aload_n 0, 1) := by decide +kernel
theorem dX0_comes_89 : decode cX0_comes 89 = .ok (.dup, 1) := by decide +kernel
theorem dX0_comes_90 : decode cX0_comes 90 = .ok (.getfield 28, 3) := by decide +kernel
theorem dX0_comes_93 : decode cX0_comes 93 = .ok (.iconst 1, 1) := by decide +kernel
theorem dX0_comes_94 : decode cX0_comes 94 = .ok (.iadd, 1) := by decide +kernel
theorem dX0_comes_95 : decode cX0_comes 95 = .ok (.putfield 28, 3) := by decide +kernel
theorem dX0_comes_98 : decode cX0_comes 98 = .ok (.aload_n 0, 1) := by decide +kernel
theorem dX0_comes_99 : decode cX0_comes 99 = .ok (.getfield 28, 3) := by decide +kernel
theorem dX0_comes_102 : decode cX0_comes 102 = .ok (.iconst 1, 1) := by decide +kernel
theorem dX0_comes_103 : decode cX0_comes 103 = .ok (.isub, 1) := by decide +kernel
theorem dX0_comes_104 : decode cX0_comes 104 = .ok (.ireturn, 1) := by decide +kernel
theorem dX0_becomes_0 : decode cX0_becomes 0 = .ok (.iload_n 1, 1) := by decide +kernel
theorem dX0_becomes_1 : decode cX0_becomes 1 = .ok (.ifCond .lt 9, 3) := by decide +kernel
theorem dX0_becomes_4 : decode cX0_becomes 4 = .ok (.iload_n 1, 1) := by decide +kernel
theorem dX0_becomes_5 : decode cX0_becomes 5 = .ok (.bipush 70, 2) := by decide +kernel
theorem dX0_becomes_7 : decode cX0_becomes 7 = .ok (.if_icmp .le 4, 3) := by decide +kernel
theorem dX0_becomes_11 : decode cX0_becomes 11 = .ok (.aload_n 0, 1) := by decide +kernel
theorem dX0_becomes_12 : decode cX0_becomes 12 = .ok (.getfield 11, 3) := by decide +kernel
theorem dX0_becomes_15 : decode cX0_becomes 15 = .ok (.iload_n 1, 1) := by decide +kernel
theorem dX0_becomes_16 : decode cX0_becomes 16 = .ok (.iload_n 2, 1) := by decide +kernel
theorem dX0_becomes_17 : decode cX0_becomes 17 = .ok (.iastore, 1) := by decide +kernel
theorem dX0_becomes_18 : decode cX0_becomes 18 = .ok (.iload_n 1, 1) := by decide +kernel
theorem dX0_becomes_19 : decode cX0_becomes 19 = .ok (.bipush 64, 2) := by decide +kernel
theorem dX0_becomes_21 : decode cX0_becomes 21 = .ok (.if_icmp .ge 11, 3) := by decide +kernel
theorem dX0_becomes_32 : decode cX0_becomes 32 = .ok (.return_, 1) := by decide +kernel
theorem dX0_slipped_0 : decode cX0_slipped 0 = .ok (.iconst 0, 1) := by decide +kernel
theorem dX0_slipped_1 : decode cX0_slipped 1 = .ok (.iload_n 2, 1) := by decide +kernel
theorem dX0_slipped_2 : decode cX0_slipped 2 = .ok (.aload_n 0, 1) := by decide +kernel
theorem dX0_slipped_3 : decode cX0_slipped 3 = .ok (.getfield 11, 3) := by decide +kernel
theorem dX0_slipped_6 : decode cX0_slipped 6 = .ok (.bipush 64, 2) := by decide +kernel
theorem dX0_slipped_8 : decode cX0_slipped 8 = .ok (.iload_n 1, 1) := by decide +kernel
theorem dX0_slipped_9 : decode cX0_slipped 9 = .ok (.iadd, 1) := by decide +kernel
theorem dX0_slipped_10 : decode cX0_slipped 10 = .ok (.iaload, 1) := by decide +kernel
theorem dX0_slipped_11 : decode cX0_slipped 11 = .ok (.isub, 1) := by decide +kernel
theorem dX0_slipped_12 : decode cX0_slipped 12 = .ok (.invokestatic 36, 3) := by decide +kernel
theorem dX0_slipped_15 : decode cX0_slipped 15 = .ok (.ireturn, 1) := by decide +kernel
theorem dX0_forget_0 : decode cX0_forget 0 = .ok (.iload_n 1, 1) := by decide +kernel
theorem dX0_forget_1 : decode cX0_forget 1 = .ok (.iconst 1, 1) := by decide +kernel
theorem dX0_forget_2 : decode cX0_forget 2 = .ok (.iadd, 1) := by decide +kernel
theorem dX0_forget_3 : decode cX0_forget 3 = .ok (.sipush 183, 3) := by decide +kernel
theorem dX0_forget_6 : decode cX0_forget 6 = .ok (.imul, 1) := by decide +kernel
theorem dX0_forget_7 : decode cX0_forget 7 = .ok (.istore_n 2, 1) := by decide +kernel
theorem dX0_forget_8 : decode cX0_forget 8 = .ok (.iload_n 1, 1) := by decide +kernel
theorem dX0_forget_9 : decode cX0_forget 9 = .ok (.sipush 183, 3) := by decide +kernel
theorem dX0_forget_12 : decode cX0_forget 12 = .ok (.imul, 1) := by decide +kernel
theorem dX0_forget_13 : decode cX0_forget 13 = .ok (.istore_n 3, 1) := by decide +kernel
theorem dX0_forget_14 : decode cX0_forget 14 = .ok (.iload_n 3, 1) := by decide +kernel
theorem dX0_forget_15 : decode cX0_forget 15 = .ok (.iload_n 2, 1) := by decide +kernel
theorem dX0_forget_16 : decode cX0_forget 16 = .ok (.if_icmp .ge 16, 3) := by decide +kernel
theorem dX0_forget_19 : decode cX0_forget 19 = .ok (.aload_n 0, 1) := by decide +kernel
theorem dX0_forget_20 : decode cX0_forget 20 = .ok (.getfield 25, 3) := by decide +kernel
theorem dX0_forget_23 : decode cX0_forget 23 = .ok (.iload_n 3, 1) := by decide +kernel
theorem dX0_forget_24 : decode cX0_forget 24 = .ok (.iconst (-1), 1) := by decide +kernel
theorem dX0_forget_25 : decode cX0_forget 25 = .ok (.iastore, 1) := by decide +kernel
theorem dX0_forget_26 : decode cX0_forget 26 = .ok (.iinc 3 1, 3) := by decide +kernel
theorem dX0_forget_29 : decode cX0_forget 29 = .ok (.goto (-15), 3) := by decide +kernel
theorem dX0_forget_32 : decode cX0_forget 32 = .ok (.return_, 1) := by decide +kernel
theorem dX1_comes_0 : decode cX1_comes 0 = .ok (.aload_n 0, 1) := by decide +kernel
theorem dX1_comes_1 : decode cX1_comes 1 = .ok (.getfield 19, 3) := by decide +kernel
theorem dX1_comes_4 : decode cX1_comes 4 = .ok (.bipush 40, 2) := by decide +kernel
theorem dX1_comes_6 : decode cX1_comes 6 = .ok (.if_icmp .ne 7, 3) := by decide +kernel
theorem dX1_comes_13 : decode cX1_comes 13 = .ok (.aload_n 0, 1) := by decide +kernel
theorem dX1_comes_14 : decode cX1_comes 14 = .ok (.getfield 9, 3) := by decide +kernel
theorem dX1_comes_17 : decode cX1_comes 17 = .ok (.aload_n 0, 1) := by decide +kernel
theorem dX1_comes_18 : decode cX1_comes 18 = .ok (.getfield 19, 3) := by decide +kernel
theorem dX1_comes_21 : decode cX1_comes 21 = .ok (.iload_n 1, 1) := by decide +kernel
theorem dX1_comes_22 : decode cX1_comes 22 = .ok (.iastore, 1) := by decide +kernel
theorem dX1_comes_23 : decode cX1_comes 23 = .ok (.aload_n 0, 1) := by decide +kernel
theorem dX1_comes_24 : decode cX1_comes 24 = .ok (.getfield 13, 3) := by decide +kernel
theorem dX1_comes_27 : decode cX1_comes 27 = .ok (.aload_n 0, 1) := by decide +kernel
theorem dX1_comes_28 : decode cX1_comes 28 = .ok (.getfield 19, 3) := by decide +kernel
theorem dX1_comes_31 : decode cX1_comes 31 = .ok (.iload_n 2, 1) := by decide +kernel
theorem dX1_comes_32 : decode cX1_comes 32 = .ok (.iastore, 1) := by decide +kernel
theorem dX1_comes_33 : decode cX1_comes 33 = .ok (.aload_n 0, 1) := by decide +kernel
theorem dX1_comes_34 : decode cX1_comes 34 = .ok (.getfield 16, 3) := by decide +kernel
theorem dX1_comes_37 : decode cX1_comes 37 = .ok (.aload_n 0, 1) := by decide +kernel
theorem dX1_comes_38 : decode cX1_comes 38 = .ok (.getfield 19, 3) := by decide +kernel
theorem dX1_comes_41 : decode cX1_comes 41 = .ok (.iload_n 3, 1) := by decide +kernel
theorem dX1_comes_42 : decode cX1_comes 42 = .ok (.iastore, 1) := by decide +kernel
theorem dX1_comes_43 : decode cX1_comes 43 = .ok (.aload_n 0, 1) := by decide +kernel
theorem dX1_comes_44 : decode cX1_comes 44 = .ok (.dup, 1) := by decide +kernel
theorem dX1_comes_45 : decode cX1_comes 45 = .ok (.getfield 19, 3) := by decide +kernel
theorem dX1_comes_48 : decode cX1_comes 48 = .ok (.iconst 1, 1) := by decide +kernel
theorem dX1_comes_49 : decode cX1_comes 49 = .ok (.iadd, 1) := by decide +kernel
theorem dX1_comes_50 : decode cX1_comes 50 = .ok (.putfield 19, 3) := by decide +kernel
theorem dX1_comes_53 : decode cX1_comes 53 = .ok (.aload_n 0, 1) := by decide +kernel
theorem dX1_comes_54 : decode cX1_comes 54 = .ok (.aload_n 0, 1) := by decide +kernel
theorem dX1_comes_55 : decode cX1_comes 55 = .ok (.getfield 19, 3) := by decide +kernel
theorem dX1_comes_58 : decode cX1_comes 58 = .ok (.putfield 26, 3) := by decide +kernel
theorem dX1_comes_61 : decode cX1_comes 61 = .ok (.return_, 1) := by decide +kernel
theorem dX2_turns_0 : decode cX2_turns 0 = .ok (.iload_n 2, 1) := by decide +kernel
theorem dX2_turns_1 : decode cX2_turns 1 = .ok (.aload_n 0, 1) := by decide +kernel
theorem dX2_turns_2 : decode cX2_turns 2 = .ok (.getfield 21, 3) := by decide +kernel
theorem dX2_turns_5 : decode cX2_turns 5 = .ok (.getfield 41, 3) := by decide +kernel
theorem dX2_turns_8 : decode cX2_turns 8 = .ok (.iload_n 1, 1) := by decide +kernel
theorem dX2_turns_9 : decode cX2_turns 9 = .ok (.iaload, 1) := by decide +kernel
theorem dX2_turns_10 : decode cX2_turns 10 = .ok (.isub, 1) := by decide +kernel
theorem dX2_turns_11 : decode cX2_turns 11 = .ok (.invokestatic 63, 3) := by decide +kernel
theorem dX2_turns_14 : decode cX2_turns 14 = .ok (.istore_n 3, 1) := by decide +kernel
theorem dX2_turns_15 : decode cX2_turns 15 = .ok (.aload_n 0, 1) := by decide +kernel
theorem dX2_turns_16 : decode cX2_turns 16 = .ok (.getfield 21, 3) := by decide +kernel
theorem dX2_turns_19 : decode cX2_turns 19 = .ok (.getfield 41, 3) := by decide +kernel
theorem dX2_turns_22 : decode cX2_turns 22 = .ok (.iload_n 1, 1) := by decide +kernel
theorem dX2_turns_23 : decode cX2_turns 23 = .ok (.iload_n 2, 1) := by decide +kernel
theorem dX2_turns_24 : decode cX2_turns 24 = .ok (.iastore, 1) := by decide +kernel
theorem dX2_turns_25 : decode cX2_turns 25 = .ok (.aload_n 0, 1) := by decide +kernel
theorem dX2_turns_26 : decode cX2_turns 26 = .ok (.getfield 11, 3) := by decide +kernel
theorem dX2_turns_29 : decode cX2_turns 29 = .ok (.iconst 1, 1) := by decide +kernel
theorem dX2_turns_30 : decode cX2_turns 30 = .ok (.dup2, 1) := by decide +kernel
theorem dX2_turns_31 : decode cX2_turns 31 = .ok (.iaload, 1) := by decide +kernel
theorem dX2_turns_32 : decode cX2_turns 32 = .ok (.iload_n 3, 1) := by decide +kernel
theorem dX2_turns_33 : decode cX2_turns 33 = .ok (.iadd, 1) := by decide +kernel
theorem dX2_turns_34 : decode cX2_turns 34 = .ok (.iastore, 1) := by decide +kernel
theorem dX2_turns_35 : decode cX2_turns 35 = .ok (.iload_n 3, 1) := by decide +kernel
theorem dX2_turns_36 : decode cX2_turns 36 = .ok (.ireturn, 1) := by decide +kernel
set_option maxRecDepth 20000 in
theorem ggX2_allSlip_X0_slipped : GoodIn wsX2_allSlip wsX0_slipped := goodIn_r _ [7, 8, 9, 10, 11, 12, 19, 20, 21, 22, 23] (by decide +kernel) (by decide +kernel)
set_option maxRecDepth 20000 in
theorem gX2_allSlip_X0_slipped : GoodIn wsX2_allSlip (wsV RX2 69 RX0 yX0_slipped wsX0_slipped) := goodIn_app (goodIn_of _ (by decide +kernel)) ggX2_allSlip_X0_slipped
theorem dX2_allSlip_0 : decode cX2_allSlip 0 = .ok (.iconst 0, 1) := by decide +kernel
theorem dX2_allSlip_1 : decode cX2_allSlip 1 = .ok (.istore_n 1, 1) := by decide +kernel
theorem dX2_allSlip_2 : decode cX2_allSlip 2 = .ok (.iconst 0, 1) := by decide +kernel
theorem dX2_allSlip_3 : decode cX2_allSlip 3 = .ok (.istore_n 2, 1) := by decide +kernel
theorem dX2_allSlip_4 : decode cX2_allSlip 4 = .ok (.iload_n 2, 1) := by decide +kernel
theorem dX2_allSlip_5 : decode cX2_allSlip 5 = .ok (.iconst 3, 1) := by decide +kernel
theorem dX2_allSlip_6 : decode cX2_allSlip 6 = .ok (.if_icmp .ge 53, 3) := by decide +kernel
theorem dX2_allSlip_9 : decode cX2_allSlip 9 = .ok (.aload_n 0, 1) := by decide +kernel
theorem dX2_allSlip_10 : decode cX2_allSlip 10 = .ok (.getfield 21, 3) := by decide +kernel
theorem dX2_allSlip_13 : decode cX2_allSlip 13 = .ok (.iload_n 2, 1) := by decide +kernel
theorem dX2_allSlip_14 : decode cX2_allSlip 14 = .ok (.aload_n 0, 1) := by decide +kernel
theorem dX2_allSlip_15 : decode cX2_allSlip 15 = .ok (.getfield 21, 3) := by decide +kernel
theorem dX2_allSlip_18 : decode cX2_allSlip 18 = .ok (.getfield 41, 3) := by decide +kernel
theorem dX2_allSlip_21 : decode cX2_allSlip 21 = .ok (.iload_n 2, 1) := by decide +kernel
theorem dX2_allSlip_22 : decode cX2_allSlip 22 = .ok (.iaload, 1) := by decide +kernel
theorem dX2_allSlip_23 : decode cX2_allSlip 23 = .ok (.invokevirtual 69, 3) := by decide +kernel
theorem dX2_allSlip_26 : decode cX2_allSlip 26 = .ok (.istore_n 3, 1) := by decide +kernel
theorem dX2_allSlip_27 : decode cX2_allSlip 27 = .ok (.iload_n 3, 1) := by decide +kernel
theorem dX2_allSlip_28 : decode cX2_allSlip 28 = .ok (.aload_n 0, 1) := by decide +kernel
theorem dX2_allSlip_29 : decode cX2_allSlip 29 = .ok (.getfield 21, 3) := by decide +kernel
theorem dX2_allSlip_32 : decode cX2_allSlip 32 = .ok (.getfield 41, 3) := by decide +kernel
theorem dX2_allSlip_35 : decode cX2_allSlip 35 = .ok (.iload_n 2, 1) := by decide +kernel
theorem dX2_allSlip_36 : decode cX2_allSlip 36 = .ok (.iaload, 1) := by decide +kernel
theorem dX2_allSlip_37 : decode cX2_allSlip 37 = .ok (.if_icmp .eq 6, 3) := by decide +kernel
theorem dX2_allSlip_43 : decode cX2_allSlip 43 = .ok (.aload_n 0, 1) := by decide +kernel
theorem dX2_allSlip_44 : decode cX2_allSlip 44 = .ok (.getfield 21, 3) := by decide +kernel
theorem dX2_allSlip_47 : decode cX2_allSlip 47 = .ok (.getfield 41, 3) := by decide +kernel
theorem dX2_allSlip_50 : decode cX2_allSlip 50 = .ok (.iload_n 2, 1) := by decide +kernel
theorem dX2_allSlip_51 : decode cX2_allSlip 51 = .ok (.iload_n 3, 1) := by decide +kernel
theorem dX2_allSlip_52 : decode cX2_allSlip 52 = .ok (.iastore, 1) := by decide +kernel
theorem dX2_allSlip_53 : decode cX2_allSlip 53 = .ok (.iinc 2 1, 3) := by decide +kernel
theorem dX2_allSlip_56 : decode cX2_allSlip 56 = .ok (.goto (-52), 3) := by decide +kernel
theorem dX2_allSlip_59 : decode cX2_allSlip 59 = .ok (.iload_n 1, 1) := by decide +kernel
theorem dX2_allSlip_60 : decode cX2_allSlip 60 = .ok (.ireturn, 1) := by decide +kernel
theorem dX2_keepImage_0 : decode cX2_keepImage 0 = .ok (.aload_n 0, 1) := by decide +kernel
theorem dX2_keepImage_1 : decode cX2_keepImage 1 = .ok (.getfield 11, 3) := by decide +kernel
theorem dX2_keepImage_4 : decode cX2_keepImage 4 = .ok (.iconst 0, 1) := by decide +kernel
theorem dX2_keepImage_5 : decode cX2_keepImage 5 = .ok (.aload_n 0, 1) := by decide +kernel
theorem dX2_keepImage_6 : decode cX2_keepImage 6 = .ok (.getfield 15, 3) := by decide +kernel
theorem dX2_keepImage_9 : decode cX2_keepImage 9 = .ok (.iconst 0, 1) := by decide +kernel
theorem dX2_keepImage_10 : decode cX2_keepImage 10 = .ok (.iconst 5, 1) := by decide +kernel
theorem dX2_keepImage_11 : decode cX2_keepImage 11 = .ok (.invokestatic 46, 3) := by decide +kernel
theorem dX2_keepImage_14 : decode cX2_keepImage 14 = .ok (.aload_n 0, 1) := by decide +kernel
theorem dX2_keepImage_15 : decode cX2_keepImage 15 = .ok (.getfield 21, 3) := by decide +kernel
theorem dX2_keepImage_18 : decode cX2_keepImage 18 = .ok (.getfield 41, 3) := by decide +kernel
theorem dX2_keepImage_21 : decode cX2_keepImage 21 = .ok (.iconst 0, 1) := by decide +kernel
theorem dX2_keepImage_22 : decode cX2_keepImage 22 = .ok (.aload_n 0, 1) := by decide +kernel
theorem dX2_keepImage_23 : decode cX2_keepImage 23 = .ok (.getfield 18, 3) := by decide +kernel
theorem dX2_keepImage_26 : decode cX2_keepImage 26 = .ok (.iconst 0, 1) := by decide +kernel
theorem dX2_keepImage_27 : decode cX2_keepImage 27 = .ok (.iconst 3, 1) := by decide +kernel
theorem dX2_keepImage_28 : decode cX2_keepImage 28 = .ok (.invokestatic 46, 3) := by decide +kernel
theorem dX2_keepImage_31 : decode cX2_keepImage 31 = .ok (.aload_n 0, 1) := by decide +kernel
theorem dX2_keepImage_32 : decode cX2_keepImage 32 = .ok (.iconst 1, 1) := by decide +kernel
theorem dX2_keepImage_33 : decode cX2_keepImage 33 = .ok (.putfield 73, 3) := by decide +kernel
theorem dX2_keepImage_36 : decode cX2_keepImage 36 = .ok (.aload_n 0, 1) := by decide +kernel
theorem dX2_keepImage_37 : decode cX2_keepImage 37 = .ok (.getfield 11, 3) := by decide +kernel
theorem dX2_keepImage_40 : decode cX2_keepImage 40 = .ok (.iconst 0, 1) := by decide +kernel
theorem dX2_keepImage_41 : decode cX2_keepImage 41 = .ok (.iaload, 1) := by decide +kernel
theorem dX2_keepImage_42 : decode cX2_keepImage 42 = .ok (.ireturn, 1) := by decide +kernel
theorem dX2_layBack_0 : decode cX2_layBack 0 = .ok (.aload_n 0, 1) := by decide +kernel
theorem dX2_layBack_1 : decode cX2_layBack 1 = .ok (.getfield 73, 3) := by decide +kernel
theorem dX2_layBack_4 : decode cX2_layBack 4 = .ok (.ifCond .ne 6, 3) := by decide +kernel
theorem dX2_layBack_7 : decode cX2_layBack 7 = .ok (.bipush (-5), 2) := by decide +kernel
theorem dX2_layBack_9 : decode cX2_layBack 9 = .ok (.ireturn, 1) := by decide +kernel
theorem dX3_comes_0 : decode cX3_comes 0 = .ok (.aload_n 0, 1) := by decide +kernel
theorem dX3_comes_1 : decode cX3_comes 1 = .ok (.getfield 18, 3) := by decide +kernel
theorem dX3_comes_4 : decode cX3_comes 4 = .ok (.bipush 50, 2) := by decide +kernel
theorem dX3_comes_6 : decode cX3_comes 6 = .ok (.if_icmp .lt 6, 3) := by decide +kernel
theorem dX3_comes_12 : decode cX3_comes 12 = .ok (.aload_n 0, 1) := by decide +kernel
theorem dX3_comes_13 : decode cX3_comes 13 = .ok (.getfield 9, 3) := by decide +kernel
theorem dX3_comes_16 : decode cX3_comes 16 = .ok (.aload_n 0, 1) := by decide +kernel
theorem dX3_comes_17 : decode cX3_comes 17 = .ok (.getfield 18, 3) := by decide +kernel
theorem dX3_comes_20 : decode cX3_comes 20 = .ok (.iload_n 1, 1) := by decide +kernel
theorem dX3_comes_21 : decode cX3_comes 21 = .ok (.iastore, 1) := by decide +kernel
theorem dX3_comes_22 : decode cX3_comes 22 = .ok (.aload_n 0, 1) := by decide +kernel
theorem dX3_comes_23 : decode cX3_comes 23 = .ok (.dup, 1) := by decide +kernel
theorem dX3_comes_24 : decode cX3_comes 24 = .ok (.getfield 18, 3) := by decide +kernel
theorem dX3_comes_27 : decode cX3_comes 27 = .ok (.iconst 1, 1) := by decide +kernel
theorem dX3_comes_28 : decode cX3_comes 28 = .ok (.iadd, 1) := by decide +kernel
theorem dX3_comes_29 : decode cX3_comes 29 = .ok (.putfield 18, 3) := by decide +kernel
theorem dX3_comes_32 : decode cX3_comes 32 = .ok (.aload_n 0, 1) := by decide +kernel
theorem dX3_comes_33 : decode cX3_comes 33 = .ok (.getfield 18, 3) := by decide +kernel
theorem dX3_comes_36 : decode cX3_comes 36 = .ok (.iconst 1, 1) := by decide +kernel
theorem dX3_comes_37 : decode cX3_comes 37 = .ok (.isub, 1) := by decide +kernel
theorem dX3_comes_38 : decode cX3_comes 38 = .ok (.ireturn, 1) := by decide +kernel
theorem dX3_acts_0 : decode cX3_acts 0 = .ok (.aload_n 0, 1) := by decide +kernel
theorem dX3_acts_1 : decode cX3_acts 1 = .ok (.iconst 0, 1) := by decide +kernel
theorem dX3_acts_2 : decode cX3_acts 2 = .ok (.putfield 25, 3) := by decide +kernel
theorem dX3_acts_5 : decode cX3_acts 5 = .ok (.iload_n 1, 1) := by decide +kernel
theorem dX3_acts_6 : decode cX3_acts 6 = .ok (.ifCond .lt 20, 3) := by decide +kernel
theorem dX3_acts_9 : decode cX3_acts 9 = .ok (.iload_n 1, 1) := by decide +kernel
theorem dX3_acts_10 : decode cX3_acts 10 = .ok (.aload_n 0, 1) := by decide +kernel
theorem dX3_acts_11 : decode cX3_acts 11 = .ok (.getfield 18, 3) := by decide +kernel
theorem dX3_acts_14 : decode cX3_acts 14 = .ok (.if_icmp .ge 12, 3) := by decide +kernel
theorem dX3_acts_26 : decode cX3_acts 26 = .ok (.iconst 0, 1) := by decide +kernel
theorem dX3_acts_27 : decode cX3_acts 27 = .ok (.ireturn, 1) := by decide +kernel
theorem dX5_takes_0 : decode cX5_takes 0 = .ok (.aload_n 0, 1) := by decide +kernel
theorem dX5_takes_1 : decode cX5_takes 1 = .ok (.getfield 24, 3) := by decide +kernel
theorem dX5_takes_4 : decode cX5_takes 4 = .ok (.bipush 120, 2) := by decide +kernel
theorem dX5_takes_6 : decode cX5_takes 6 = .ok (.if_icmp .lt 6, 3) := by decide +kernel
theorem dX5_takes_12 : decode cX5_takes 12 = .ok (.aload_n 0, 1) := by decide +kernel
theorem dX5_takes_13 : decode cX5_takes 13 = .ok (.getfield 11, 3) := by decide +kernel
theorem dX5_takes_16 : decode cX5_takes 16 = .ok (.aload_n 0, 1) := by decide +kernel
theorem dX5_takes_17 : decode cX5_takes 17 = .ok (.getfield 24, 3) := by decide +kernel
theorem dX5_takes_20 : decode cX5_takes 20 = .ok (.iload_n 1, 1) := by decide +kernel
theorem dX5_takes_21 : decode cX5_takes 21 = .ok (.iastore, 1) := by decide +kernel
theorem dX5_takes_22 : decode cX5_takes 22 = .ok (.aload_n 0, 1) := by decide +kernel
theorem dX5_takes_23 : decode cX5_takes 23 = .ok (.dup, 1) := by decide +kernel
theorem dX5_takes_24 : decode cX5_takes 24 = .ok (.getfield 24, 3) := by decide +kernel
theorem dX5_takes_27 : decode cX5_takes 27 = .ok (.iconst 1, 1) := by decide +kernel
theorem dX5_takes_28 : decode cX5_takes 28 = .ok (.iadd, 1) := by decide +kernel
theorem dX5_takes_29 : decode cX5_takes 29 = .ok (.putfield 24, 3) := by decide +kernel
theorem dX5_takes_32 : decode cX5_takes 32 = .ok (.aload_n 0, 1) := by decide +kernel
theorem dX5_takes_33 : decode cX5_takes 33 = .ok (.getfield 24, 3) := by decide +kernel
theorem dX5_takes_36 : decode cX5_takes 36 = .ok (.ireturn, 1) := by decide +kernel
set_option maxRecDepth 20000 in
theorem ggX5_isRead_X5_lines : GoodIn wsX5_isRead wsX5_lines := goodIn_r _ [17, 1, 4, 18, 19, 20, 16, 21, 22, 23, 24, 25, 26, 27, 28, 29, 30, 31, 32, 2, 33, 34, 35, 36, 37, 3, 5, 38, 39, 40, 41, 42, 43, 44, 45, 46, 47, 48, 49, 50, 51, 52, 53, 54, 55, 56, 57, 58, 59, 60, 61, 62, 63, 64, 65, 66, 67, 68, 69, 70, 71, 72, 73, 74, 75, 76, 77, 78, 79, 80, 81, 82] (by decide +kernel) (by decide +kernel)
set_option maxRecDepth 20000 in
theorem gX5_isRead_X5_lines : GoodIn wsX5_isRead (wsV RX5 37 RX5 yX5_lines wsX5_lines) := goodIn_app (goodIn_of _ (by decide +kernel)) ggX5_isRead_X5_lines
theorem dX5_isRead_0 : decode cX5_isRead 0 = .ok (.aload_n 0, 1) := by decide +kernel
theorem dX5_isRead_1 : decode cX5_isRead 1 = .ok (.iconst 0, 1) := by decide +kernel
theorem dX5_isRead_2 : decode cX5_isRead 2 = .ok (.putfield 28, 3) := by decide +kernel
theorem dX5_isRead_5 : decode cX5_isRead 5 = .ok (.aload_n 0, 1) := by decide +kernel
theorem dX5_isRead_6 : decode cX5_isRead 6 = .ok (.iconst (-1), 1) := by decide +kernel
theorem dX5_isRead_7 : decode cX5_isRead 7 = .ok (.putfield 31, 3) := by decide +kernel
theorem dX5_isRead_10 : decode cX5_isRead 10 = .ok (.aload_n 0, 1) := by decide +kernel
theorem dX5_isRead_11 : decode cX5_isRead 11 = .ok (.iconst 0, 1) := by decide +kernel
theorem dX5_isRead_12 : decode cX5_isRead 12 = .ok (.putfield 34, 3) := by decide +kernel
theorem dX5_isRead_15 : decode cX5_isRead 15 = .ok (.aload_n 0, 1) := by decide +kernel
theorem dX5_isRead_16 : decode cX5_isRead 16 = .ok (.invokevirtual 37, 3) := by decide +kernel
theorem dX5_isRead_19 : decode cX5_isRead 19 = .ok (.aload_n 0, 1) := by decide +kernel
theorem dX5_isRead_20 : decode cX5_isRead 20 = .ok (.iconst 0, 1) := by decide +kernel
theorem dX5_isRead_21 : decode cX5_isRead 21 = .ok (.putfield 24, 3) := by decide +kernel
theorem dX5_isRead_24 : decode cX5_isRead 24 = .ok (.aload_n 0, 1) := by decide +kernel
theorem dX5_isRead_25 : decode cX5_isRead 25 = .ok (.getfield 31, 3) := by decide +kernel
theorem dX5_isRead_28 : decode cX5_isRead 28 = .ok (.ifCond .lt 11, 3) := by decide +kernel
theorem dX5_isRead_31 : decode cX5_isRead 31 = .ok (.bipush (-100), 2) := by decide +kernel
theorem dX5_isRead_33 : decode cX5_isRead 33 = .ok (.aload_n 0, 1) := by decide +kernel
theorem dX5_isRead_34 : decode cX5_isRead 34 = .ok (.getfield 31, 3) := by decide +kernel
theorem dX5_isRead_37 : decode cX5_isRead 37 = .ok (.isub, 1) := by decide +kernel
theorem dX5_isRead_38 : decode cX5_isRead 38 = .ok (.ireturn, 1) := by decide +kernel
set_option maxRecDepth 20000 in
theorem ggX5_lines_X5_line : GoodIn wsX5_lines wsX5_line := goodIn_r _ [7, 1, 8, 9, 10, 6, 11, 12, 13, 14, 15, 16, 17, 18, 19, 2, 20, 21, 22, 23, 24, 25, 26, 27, 28, 29, 30, 31, 32, 33, 34, 35, 36, 37, 38, 39, 40, 41, 42, 43, 44, 45, 46, 47, 48, 49, 50, 51, 52, 53, 54, 55, 56, 57, 58, 59, 60, 61, 62, 63, 64, 65, 66, 67, 68, 69, 70, 71] (by decide +kernel) (by decide +kernel)
set_option maxRecDepth 20000 in
theorem gX5_lines_X5_line : GoodIn wsX5_lines (wsV RX5 53 RX5 yX5_line wsX5_line) := goodIn_app (goodIn_of _ (by decide +kernel)) ggX5_lines_X5_line
set_option maxRecDepth 20000 in
theorem ggX5_lines_X5_next : GoodIn wsX5_lines wsX5_next := goodIn_r _ [18, 19, 1, 2, 20, 62, 63, 64, 65, 66, 67, 68, 69, 70, 71] (by decide +kernel) (by decide +kernel)
set_option maxRecDepth 20000 in
theorem gX5_lines_X5_next : GoodIn wsX5_lines (wsV RX5 56 RX5 yX5_next wsX5_next) := goodIn_app (goodIn_of _ (by decide +kernel)) ggX5_lines_X5_next
theorem dX5_lines_0 : decode cX5_lines 0 = .ok (.aload_n 0, 1) := by decide +kernel
theorem dX5_lines_1 : decode cX5_lines 1 = .ok (.invokevirtual 53, 3) := by decide +kernel
theorem dX5_lines_4 : decode cX5_lines 4 = .ok (.iconst 0, 1) := by decide +kernel
theorem dX5_lines_5 : decode cX5_lines 5 = .ok (.istore_n 1, 1) := by decide +kernel
theorem dX5_lines_6 : decode cX5_lines 6 = .ok (.iload_n 1, 1) := by decide +kernel
theorem dX5_lines_7 : decode cX5_lines 7 = .ok (.bipush 120, 2) := by decide +kernel
theorem dX5_lines_9 : decode cX5_lines 9 = .ok (.if_icmp .ge 32, 3) := by decide +kernel
theorem dX5_lines_12 : decode cX5_lines 12 = .ok (.aload_n 0, 1) := by decide +kernel
theorem dX5_lines_13 : decode cX5_lines 13 = .ok (.invokevirtual 56, 3) := by decide +kernel
theorem dX5_lines_16 : decode cX5_lines 16 = .ok (.bipush 59, 2) := by decide +kernel
theorem dX5_lines_18 : decode cX5_lines 18 = .ok (.if_icmp .ne 23, 3) := by decide +kernel
theorem dX5_lines_41 : decode cX5_lines 41 = .ok (.aload_n 0, 1) := by decide +kernel
theorem dX5_lines_42 : decode cX5_lines 42 = .ok (.getfield 28, 3) := by decide +kernel
theorem dX5_lines_45 : decode cX5_lines 45 = .ok (.aload_n 0, 1) := by decide +kernel
theorem dX5_lines_46 : decode cX5_lines 46 = .ok (.getfield 24, 3) := by decide +kernel
theorem dX5_lines_49 : decode cX5_lines 49 = .ok (.if_icmp .ge 7, 3) := by decide +kernel
theorem dX5_lines_56 : decode cX5_lines 56 = .ok (.return_, 1) := by decide +kernel
set_option maxRecDepth 20000 in
theorem ggX5_line_X5_either : GoodIn wsX5_line wsX5_either := goodIn_r _ [6, 1, 7, 8, 9, 5, 10, 11, 12, 13, 14, 15, 16, 17, 18, 19, 20, 21, 22, 23, 24, 25, 26, 27, 28, 29, 30, 31, 32, 33, 34, 2, 3, 4, 35, 36, 37, 38, 39, 40, 41, 42, 43, 44, 45, 46, 47, 48, 49, 50, 51, 52, 53, 54, 55, 56, 57, 58, 59, 60, 61, 62, 63, 64, 65, 66, 67] (by decide +kernel) (by decide +kernel)
set_option maxRecDepth 20000 in
theorem gX5_line_X5_either : GoodIn wsX5_line (wsV RX5 63 RX5 yX5_either wsX5_either) := goodIn_app (goodIn_of _ (by decide +kernel)) ggX5_line_X5_either
set_option maxRecDepth 20000 in
theorem ggX5_line_X5_next : GoodIn wsX5_line wsX5_next := goodIn_r _ [13, 14, 1, 15, 16, 58, 59, 60, 61, 62, 63, 64, 65, 66, 67] (by decide +kernel) (by decide +kernel)
set_option maxRecDepth 20000 in
theorem gX5_line_X5_next : GoodIn wsX5_line (wsV RX5 56 RX5 yX5_next wsX5_next) := goodIn_app (goodIn_of _ (by decide +kernel)) ggX5_line_X5_next
set_option maxRecDepth 20000 in
theorem ggX5_line_X5_write : GoodIn wsX5_line wsX5_write := goodIn_r _ [20, 21, 22, 58, 59, 60, 61, 62, 63, 64, 65, 66, 67] (by decide +kernel) (by decide +kernel)
set_option maxRecDepth 20000 in
theorem gX5_line_X5_write : GoodIn wsX5_line (wsV RX5 67 RX5 yX5_write wsX5_write) := goodIn_app (goodIn_of _ (by decide +kernel)) ggX5_line_X5_write
theorem dX5_line_0 : decode cX5_line 0 = .ok (.aload_n 0, 1) := by decide +kernel
theorem dX5_line_1 : decode cX5_line 1 = .ok (.iconst 0, 1) := by decide +kernel
theorem dX5_line_2 : decode cX5_line 2 = .ok (.invokevirtual 63, 3) := by decide +kernel
theorem dX5_line_5 : decode cX5_line 5 = .ok (.aload_n 0, 1) := by decide +kernel
theorem dX5_line_6 : decode cX5_line 6 = .ok (.invokevirtual 56, 3) := by decide +kernel
theorem dX5_line_9 : decode cX5_line 9 = .ok (.bipush 63, 2) := by decide +kernel
theorem dX5_line_11 : decode cX5_line 11 = .ok (.if_icmp .ne 24, 3) := by decide +kernel
theorem dX5_line_35 : decode cX5_line 35 = .ok (.aload_n 0, 1) := by decide +kernel
theorem dX5_line_36 : decode cX5_line 36 = .ok (.bipush 59, 2) := by decide +kernel
theorem dX5_line_38 : decode cX5_line 38 = .ok (.invokevirtual 67, 3) := by decide +kernel
theorem dX5_line_41 : decode cX5_line 41 = .ok (.return_, 1) := by decide +kernel
set_option maxRecDepth 20000 in
theorem ggX5_either_X5_both : GoodIn wsX5_either wsX5_both := goodIn_r _ [19, 1, 20, 21, 22, 5, 6, 7, 8, 9, 10, 11, 12, 13, 14, 15, 16, 17, 18, 23, 24, 25, 26, 0, 2, 3, 4, 27, 28, 29, 30, 31, 32, 33, 34, 35, 36, 37, 38, 39, 40, 41, 42, 43, 44, 45, 46, 47, 48, 49, 50, 51, 52, 53, 54, 55, 56, 57, 58, 59, 60, 61, 62, 63, 64, 65, 66] (by decide +kernel) (by decide +kernel)
set_option maxRecDepth 20000 in
theorem gX5_either_X5_both : GoodIn wsX5_either (wsV RX5 70 RX5 yX5_both wsX5_both) := goodIn_app (goodIn_of _ (by decide +kernel)) ggX5_either_X5_both
set_option maxRecDepth 20000 in
theorem ggX5_either_X5_next : GoodIn wsX5_either wsX5_next := goodIn_r _ [9, 10, 1, 11, 12, 57, 58, 59, 60, 61, 62, 63, 64, 65, 66] (by decide +kernel) (by decide +kernel)
set_option maxRecDepth 20000 in
theorem gX5_either_X5_next : GoodIn wsX5_either (wsV RX5 56 RX5 yX5_next wsX5_next) := goodIn_app (goodIn_of _ (by decide +kernel)) ggX5_either_X5_next
theorem dX5_either_0 : decode cX5_either 0 = .ok (.aload_n 0, 1) := by decide +kernel
theorem dX5_either_1 : decode cX5_either 1 = .ok (.iload_n 1, 1) := by decide +kernel
theorem dX5_either_2 : decode cX5_either 2 = .ok (.invokevirtual 70, 3) := by decide +kernel
theorem dX5_either_5 : decode cX5_either 5 = .ok (.iconst 0, 1) := by decide +kernel
theorem dX5_either_6 : decode cX5_either 6 = .ok (.istore_n 2, 1) := by decide +kernel
theorem dX5_either_7 : decode cX5_either 7 = .ok (.iload_n 2, 1) := by decide +kernel
theorem dX5_either_8 : decode cX5_either 8 = .ok (.bipush 120, 2) := by decide +kernel
theorem dX5_either_10 : decode cX5_either 10 = .ok (.if_icmp .ge 39, 3) := by decide +kernel
theorem dX5_either_13 : decode cX5_either 13 = .ok (.aload_n 0, 1) := by decide +kernel
theorem dX5_either_14 : decode cX5_either 14 = .ok (.invokevirtual 56, 3) := by decide +kernel
theorem dX5_either_17 : decode cX5_either 17 = .ok (.bipush 124, 2) := by decide +kernel
theorem dX5_either_19 : decode cX5_either 19 = .ok (.if_icmp .ne 30, 3) := by decide +kernel
theorem dX5_either_49 : decode cX5_either 49 = .ok (.return_, 1) := by decide +kernel
set_option maxRecDepth 20000 in
theorem ggX5_both_X5_compared : GoodIn wsX5_both wsX5_compared := goodIn_r _ [19, 1, 20, 21, 22, 5, 6, 7, 8, 9, 10, 11, 12, 13, 14, 15, 16, 17, 18, 0, 2, 3, 4, 23, 24, 25, 26, 27, 28, 29, 30, 31, 32, 33, 34, 35, 36, 37, 38, 39, 40, 41, 42, 43, 44, 45, 46, 47, 48, 49, 50, 51, 52, 53, 54, 55, 56, 57, 58, 59, 60, 61, 62, 63, 64, 65, 66] (by decide +kernel) (by decide +kernel)
set_option maxRecDepth 20000 in
theorem gX5_both_X5_compared : GoodIn wsX5_both (wsV RX5 73 RX5 yX5_compared wsX5_compared) := goodIn_app (goodIn_of _ (by decide +kernel)) ggX5_both_X5_compared
set_option maxRecDepth 20000 in
theorem ggX5_both_X5_next : GoodIn wsX5_both wsX5_next := goodIn_r _ [9, 10, 1, 11, 12, 57, 58, 59, 60, 61, 62, 63, 64, 65, 66] (by decide +kernel) (by decide +kernel)
set_option maxRecDepth 20000 in
theorem gX5_both_X5_next : GoodIn wsX5_both (wsV RX5 56 RX5 yX5_next wsX5_next) := goodIn_app (goodIn_of _ (by decide +kernel)) ggX5_both_X5_next
theorem dX5_both_0 : decode cX5_both 0 = .ok (.aload_n 0, 1) := by decide +kernel
theorem dX5_both_1 : decode cX5_both 1 = .ok (.iload_n 1, 1) := by decide +kernel
theorem dX5_both_2 : decode cX5_both 2 = .ok (.invokevirtual 73, 3) := by decide +kernel
theorem dX5_both_5 : decode cX5_both 5 = .ok (.iconst 0, 1) := by decide +kernel
theorem dX5_both_6 : decode cX5_both 6 = .ok (.istore_n 2, 1) := by decide +kernel
theorem dX5_both_7 : decode cX5_both 7 = .ok (.iload_n 2, 1) := by decide +kernel
theorem dX5_both_8 : decode cX5_both 8 = .ok (.bipush 120, 2) := by decide +kernel
theorem dX5_both_10 : decode cX5_both 10 = .ok (.if_icmp .ge 39, 3) := by decide +kernel
theorem dX5_both_13 : decode cX5_both 13 = .ok (.aload_n 0, 1) := by decide +kernel
theorem dX5_both_14 : decode cX5_both 14 = .ok (.invokevirtual 56, 3) := by decide +kernel
theorem dX5_both_17 : decode cX5_both 17 = .ok (.bipush 38, 2) := by decide +kernel
theorem dX5_both_19 : decode cX5_both 19 = .ok (.if_icmp .ne 30, 3) := by decide +kernel
theorem dX5_both_49 : decode cX5_both 49 = .ok (.return_, 1) := by decide +kernel
set_option maxRecDepth 20000 in
theorem ggX5_compared_X5_sum : GoodIn wsX5_compared wsX5_sum := goodIn_r _ [53, 1, 54, 55, 56, 5, 6, 7, 8, 9, 10, 11, 12, 13, 14, 15, 16, 17, 18, 19, 20, 21, 22, 0, 2, 3, 4, 23, 24, 25, 26, 27, 28, 29, 30, 31, 32, 33, 34, 35, 36, 37, 38, 39, 40, 41, 42, 43, 44, 45, 46, 47, 48, 49, 50, 51, 52, 57, 58, 59, 60, 61, 62, 63, 64, 65, 66] (by decide +kernel) (by decide +kernel)
set_option maxRecDepth 20000 in
theorem gX5_compared_X5_sum : GoodIn wsX5_compared (wsV RX5 76 RX5 yX5_sum wsX5_sum) := goodIn_app (goodIn_of _ (by decide +kernel)) ggX5_compared_X5_sum
set_option maxRecDepth 20000 in
theorem ggX5_compared_X5_next : GoodIn wsX5_compared wsX5_next := goodIn_r _ [9, 10, 1, 11, 12, 57, 58, 59, 60, 61, 62, 63, 64, 65, 66] (by decide +kernel) (by decide +kernel)
set_option maxRecDepth 20000 in
theorem gX5_compared_X5_next : GoodIn wsX5_compared (wsV RX5 56 RX5 yX5_next wsX5_next) := goodIn_app (goodIn_of _ (by decide +kernel)) ggX5_compared_X5_next
theorem dX5_compared_0 : decode cX5_compared 0 = .ok (.aload_n 0, 1) := by decide +kernel
theorem dX5_compared_1 : decode cX5_compared 1 = .ok (.iload_n 1, 1) := by decide +kernel
theorem dX5_compared_2 : decode cX5_compared 2 = .ok (.invokevirtual 76, 3) := by decide +kernel
theorem dX5_compared_5 : decode cX5_compared 5 = .ok (.aload_n 0, 1) := by decide +kernel
theorem dX5_compared_6 : decode cX5_compared 6 = .ok (.invokevirtual 56, 3) := by decide +kernel
theorem dX5_compared_9 : decode cX5_compared 9 = .ok (.istore_n 2, 1) := by decide +kernel
theorem dX5_compared_10 : decode cX5_compared 10 = .ok (.iload_n 2, 1) := by decide +kernel
theorem dX5_compared_11 : decode cX5_compared 11 = .ok (.bipush 60, 2) := by decide +kernel
theorem dX5_compared_13 : decode cX5_compared 13 = .ok (.if_icmp .eq 15, 3) := by decide +kernel
theorem dX5_compared_16 : decode cX5_compared 16 = .ok (.iload_n 2, 1) := by decide +kernel
theorem dX5_compared_17 : decode cX5_compared 17 = .ok (.bipush 61, 2) := by decide +kernel
theorem dX5_compared_19 : decode cX5_compared 19 = .ok (.if_icmp .eq 9, 3) := by decide +kernel
theorem dX5_compared_22 : decode cX5_compared 22 = .ok (.iload_n 2, 1) := by decide +kernel
theorem dX5_compared_23 : decode cX5_compared 23 = .ok (.bipush 62, 2) := by decide +kernel
theorem dX5_compared_25 : decode cX5_compared 25 = .ok (.if_icmp .ne 23, 3) := by decide +kernel
theorem dX5_compared_48 : decode cX5_compared 48 = .ok (.return_, 1) := by decide +kernel
set_option maxRecDepth 20000 in
theorem ggX5_sum_X5_product : GoodIn wsX5_sum wsX5_product := goodIn_r _ [56, 1, 32, 33, 34, 5, 6, 7, 8, 9, 10, 11, 12, 13, 14, 15, 16, 17, 18, 19, 20, 21, 22, 23, 24, 25, 26, 27, 28, 29, 30, 31, 35, 36, 37, 38, 39, 40, 41, 42, 43, 44, 45, 46, 47, 48, 49, 50, 51, 52, 53, 54, 55, 0, 2, 3, 4, 57, 58, 59, 60, 61, 62, 63, 64, 65, 66] (by decide +kernel) (by decide +kernel)
set_option maxRecDepth 20000 in
theorem gX5_sum_X5_product : GoodIn wsX5_sum (wsV RX5 79 RX5 yX5_product wsX5_product) := goodIn_app (goodIn_of _ (by decide +kernel)) ggX5_sum_X5_product
set_option maxRecDepth 20000 in
theorem ggX5_sum_X5_next : GoodIn wsX5_sum wsX5_next := goodIn_r _ [9, 10, 1, 11, 12, 57, 58, 59, 60, 61, 62, 63, 64, 65, 66] (by decide +kernel) (by decide +kernel)
set_option maxRecDepth 20000 in
theorem gX5_sum_X5_next : GoodIn wsX5_sum (wsV RX5 56 RX5 yX5_next wsX5_next) := goodIn_app (goodIn_of _ (by decide +kernel)) ggX5_sum_X5_next
theorem dX5_sum_0 : decode cX5_sum 0 = .ok (.aload_n 0, 1) := by decide +kernel
theorem dX5_sum_1 : decode cX5_sum 1 = .ok (.iload_n 1, 1) := by decide +kernel
theorem dX5_sum_2 : decode cX5_sum 2 = .ok (.invokevirtual 79, 3) := by decide +kernel
theorem dX5_sum_5 : decode cX5_sum 5 = .ok (.aload_n 0, 1) := by decide +kernel
theorem dX5_sum_6 : decode cX5_sum 6 = .ok (.invokevirtual 56, 3) := by decide +kernel
theorem dX5_sum_9 : decode cX5_sum 9 = .ok (.istore_n 2, 1) := by decide +kernel
theorem dX5_sum_10 : decode cX5_sum 10 = .ok (.iconst 0, 1) := by decide +kernel
theorem dX5_sum_11 : decode cX5_sum 11 = .ok (.istore_n 3, 1) := by decide +kernel
theorem dX5_sum_12 : decode cX5_sum 12 = .ok (.iload_n 3, 1) := by decide +kernel
theorem dX5_sum_13 : decode cX5_sum 13 = .ok (.bipush 120, 2) := by decide +kernel
theorem dX5_sum_15 : decode cX5_sum 15 = .ok (.if_icmp .ge 46, 3) := by decide +kernel
theorem dX5_sum_18 : decode cX5_sum 18 = .ok (.iload_n 2, 1) := by decide +kernel
theorem dX5_sum_19 : decode cX5_sum 19 = .ok (.bipush 43, 2) := by decide +kernel
theorem dX5_sum_21 : decode cX5_sum 21 = .ok (.if_icmp .eq 9, 3) := by decide +kernel
theorem dX5_sum_24 : decode cX5_sum 24 = .ok (.iload_n 2, 1) := by decide +kernel
theorem dX5_sum_25 : decode cX5_sum 25 = .ok (.bipush 45, 2) := by decide +kernel
theorem dX5_sum_27 : decode cX5_sum 27 = .ok (.if_icmp .ne 34, 3) := by decide +kernel
theorem dX5_sum_61 : decode cX5_sum 61 = .ok (.return_, 1) := by decide +kernel
set_option maxRecDepth 20000 in
theorem ggX5_product_X5_operand : GoodIn wsX5_product wsX5_operand := goodIn_r _ [39, 1, 6, 7, 8, 5, 9, 10, 11, 12, 40, 41, 42, 43, 44, 45, 46, 13, 14, 15, 16, 17, 18, 47, 48, 49, 35, 36, 37, 38, 50, 51, 52, 19, 20, 21, 22, 23, 24, 25, 26, 27, 28, 29, 30, 31, 2, 3, 4, 32, 33, 34, 0, 53, 54, 55, 56, 57, 58, 59, 60, 61, 62, 63, 64, 65, 66] (by decide +kernel) (by decide +kernel)
set_option maxRecDepth 20000 in
theorem gX5_product_X5_operand : GoodIn wsX5_product (wsV RX5 82 RX5 yX5_operand wsX5_operand) := goodIn_app (goodIn_of _ (by decide +kernel)) ggX5_product_X5_operand
set_option maxRecDepth 20000 in
theorem ggX5_product_X5_next : GoodIn wsX5_product wsX5_next := goodIn_r _ [9, 10, 1, 11, 12, 57, 58, 59, 60, 61, 62, 63, 64, 65, 66] (by decide +kernel) (by decide +kernel)
set_option maxRecDepth 20000 in
theorem gX5_product_X5_next : GoodIn wsX5_product (wsV RX5 56 RX5 yX5_next wsX5_next) := goodIn_app (goodIn_of _ (by decide +kernel)) ggX5_product_X5_next
theorem dX5_product_0 : decode cX5_product 0 = .ok (.aload_n 0, 1) := by decide +kernel
theorem dX5_product_1 : decode cX5_product 1 = .ok (.iload_n 1, 1) := by decide +kernel
theorem dX5_product_2 : decode cX5_product 2 = .ok (.invokevirtual 82, 3) := by decide +kernel
theorem dX5_product_5 : decode cX5_product 5 = .ok (.aload_n 0, 1) := by decide +kernel
theorem dX5_product_6 : decode cX5_product 6 = .ok (.invokevirtual 56, 3) := by decide +kernel
theorem dX5_product_9 : decode cX5_product 9 = .ok (.istore_n 2, 1) := by decide +kernel
theorem dX5_product_10 : decode cX5_product 10 = .ok (.iconst 0, 1) := by decide +kernel
theorem dX5_product_11 : decode cX5_product 11 = .ok (.istore_n 3, 1) := by decide +kernel
theorem dX5_product_12 : decode cX5_product 12 = .ok (.iload_n 3, 1) := by decide +kernel
theorem dX5_product_13 : decode cX5_product 13 = .ok (.bipush 120, 2) := by decide +kernel
theorem dX5_product_15 : decode cX5_product 15 = .ok (.if_icmp .ge 52, 3) := by decide +kernel
theorem dX5_product_18 : decode cX5_product 18 = .ok (.iload_n 2, 1) := by decide +kernel
theorem dX5_product_19 : decode cX5_product 19 = .ok (.bipush 42, 2) := by decide +kernel
theorem dX5_product_21 : decode cX5_product 21 = .ok (.if_icmp .eq 15, 3) := by decide +kernel
theorem dX5_product_24 : decode cX5_product 24 = .ok (.iload_n 2, 1) := by decide +kernel
theorem dX5_product_25 : decode cX5_product 25 = .ok (.bipush 47, 2) := by decide +kernel
theorem dX5_product_27 : decode cX5_product 27 = .ok (.if_icmp .eq 9, 3) := by decide +kernel
theorem dX5_product_30 : decode cX5_product 30 = .ok (.iload_n 2, 1) := by decide +kernel
theorem dX5_product_31 : decode cX5_product 31 = .ok (.bipush 37, 2) := by decide +kernel
theorem dX5_product_33 : decode cX5_product 33 = .ok (.if_icmp .ne 34, 3) := by decide +kernel
theorem dX5_product_67 : decode cX5_product 67 = .ok (.return_, 1) := by decide +kernel
set_option maxRecDepth 20000 in
theorem ggX5_operand_X5_next : GoodIn wsX5_operand wsX5_next := goodIn_r _ [6, 7, 1, 8, 9, 57, 58, 59, 60, 61, 62, 63, 64, 65, 66] (by decide +kernel) (by decide +kernel)
set_option maxRecDepth 20000 in
theorem gX5_operand_X5_next : GoodIn wsX5_operand (wsV RX5 56 RX5 yX5_next wsX5_next) := goodIn_app (goodIn_of _ (by decide +kernel)) ggX5_operand_X5_next
set_option maxRecDepth 20000 in
theorem ggX5_operand_X5_isDigit : GoodIn wsX5_operand wsX5_isDigit := goodIn_r _ [12] (by decide +kernel) (by decide +kernel)
set_option maxRecDepth 20000 in
theorem gX5_operand_X5_isDigit : GoodIn wsX5_operand (va_wsS RX5 85 yX5_isDigit wsX5_isDigit) := goodIn_app (goodIn_of _ (by decide +kernel)) ggX5_operand_X5_isDigit
set_option maxRecDepth 20000 in
theorem ggX5_operand_X5_isName : GoodIn wsX5_operand wsX5_isName := goodIn_r _ [25] (by decide +kernel) (by decide +kernel)
set_option maxRecDepth 20000 in
theorem gX5_operand_X5_isName : GoodIn wsX5_operand (va_wsS RX5 92 yX5_isName wsX5_isName) := goodIn_app (goodIn_of _ (by decide +kernel)) ggX5_operand_X5_isName
set_option maxRecDepth 20000 in
theorem ggX5_operand_X5_fail : GoodIn wsX5_operand wsX5_fail := goodIn_r _ [29, 7, 1, 57, 58, 59, 60, 61, 62, 63, 64, 65, 66] (by decide +kernel) (by decide +kernel)
set_option maxRecDepth 20000 in
theorem gX5_operand_X5_fail : GoodIn wsX5_operand (wsV RX5 60 RX5 yX5_fail wsX5_fail) := goodIn_app (goodIn_of _ (by decide +kernel)) ggX5_operand_X5_fail
theorem dX5_operand_0 : decode cX5_operand 0 = .ok (.aload_n 0, 1) := by decide +kernel
theorem dX5_operand_1 : decode cX5_operand 1 = .ok (.invokevirtual 56, 3) := by decide +kernel
theorem dX5_operand_4 : decode cX5_operand 4 = .ok (.istore_n 2, 1) := by decide +kernel
theorem dX5_operand_5 : decode cX5_operand 5 = .ok (.iload_n 2, 1) := by decide +kernel
theorem dX5_operand_6 : decode cX5_operand 6 = .ok (.invokestatic 85, 3) := by decide +kernel
theorem dX5_operand_9 : decode cX5_operand 9 = .ok (.ifCond .eq 10, 3) := by decide +kernel
theorem dX5_operand_19 : decode cX5_operand 19 = .ok (.iload_n 2, 1) := by decide +kernel
theorem dX5_operand_20 : decode cX5_operand 20 = .ok (.invokestatic 92, 3) := by decide +kernel
theorem dX5_operand_23 : decode cX5_operand 23 = .ok (.ifCond .eq 21, 3) := by decide +kernel
theorem dX5_operand_44 : decode cX5_operand 44 = .ok (.iload_n 2, 1) := by decide +kernel
theorem dX5_operand_45 : decode cX5_operand 45 = .ok (.bipush 40, 2) := by decide +kernel
theorem dX5_operand_47 : decode cX5_operand 47 = .ok (.if_icmp .eq 15, 3) := by decide +kernel
theorem dX5_operand_50 : decode cX5_operand 50 = .ok (.iload_n 2, 1) := by decide +kernel
theorem dX5_operand_51 : decode cX5_operand 51 = .ok (.bipush 33, 2) := by decide +kernel
theorem dX5_operand_53 : decode cX5_operand 53 = .ok (.if_icmp .eq 9, 3) := by decide +kernel
theorem dX5_operand_56 : decode cX5_operand 56 = .ok (.iload_n 2, 1) := by decide +kernel
theorem dX5_operand_57 : decode cX5_operand 57 = .ok (.bipush 45, 2) := by decide +kernel
theorem dX5_operand_59 : decode cX5_operand 59 = .ok (.if_icmp .ne 9, 3) := by decide +kernel
theorem dX5_operand_68 : decode cX5_operand 68 = .ok (.aload_n 0, 1) := by decide +kernel
theorem dX5_operand_69 : decode cX5_operand 69 = .ok (.invokevirtual 60, 3) := by decide +kernel
theorem dX5_operand_72 : decode cX5_operand 72 = .ok (.goto 21, 3) := by decide +kernel
theorem dX5_operand_93 : decode cX5_operand 93 = .ok (.return_, 1) := by decide +kernel
theorem dX5_isDigit_0 : decode cX5_isDigit 0 = .ok (.iload_n 0, 1) := by decide +kernel
theorem dX5_isDigit_1 : decode cX5_isDigit 1 = .ok (.bipush 48, 2) := by decide +kernel
theorem dX5_isDigit_3 : decode cX5_isDigit 3 = .ok (.if_icmp .lt 13, 3) := by decide +kernel
theorem dX5_isDigit_16 : decode cX5_isDigit 16 = .ok (.iconst 0, 1) := by decide +kernel
theorem dX5_isDigit_17 : decode cX5_isDigit 17 = .ok (.ireturn, 1) := by decide +kernel
theorem dX5_isName_0 : decode cX5_isName 0 = .ok (.iload_n 0, 1) := by decide +kernel
theorem dX5_isName_1 : decode cX5_isName 1 = .ok (.bipush 100, 2) := by decide +kernel
theorem dX5_isName_3 : decode cX5_isName 3 = .ok (.if_icmp .eq 33, 3) := by decide +kernel
theorem dX5_isName_6 : decode cX5_isName 6 = .ok (.iload_n 0, 1) := by decide +kernel
theorem dX5_isName_7 : decode cX5_isName 7 = .ok (.bipush 117, 2) := by decide +kernel
theorem dX5_isName_9 : decode cX5_isName 9 = .ok (.if_icmp .eq 27, 3) := by decide +kernel
theorem dX5_isName_12 : decode cX5_isName 12 = .ok (.iload_n 0, 1) := by decide +kernel
theorem dX5_isName_13 : decode cX5_isName 13 = .ok (.bipush 115, 2) := by decide +kernel
theorem dX5_isName_15 : decode cX5_isName 15 = .ok (.if_icmp .eq 21, 3) := by decide +kernel
theorem dX5_isName_18 : decode cX5_isName 18 = .ok (.iload_n 0, 1) := by decide +kernel
theorem dX5_isName_19 : decode cX5_isName 19 = .ok (.bipush 119, 2) := by decide +kernel
theorem dX5_isName_21 : decode cX5_isName 21 = .ok (.if_icmp .eq 15, 3) := by decide +kernel
theorem dX5_isName_24 : decode cX5_isName 24 = .ok (.iload_n 0, 1) := by decide +kernel
theorem dX5_isName_25 : decode cX5_isName 25 = .ok (.bipush 104, 2) := by decide +kernel
theorem dX5_isName_27 : decode cX5_isName 27 = .ok (.if_icmp .eq 9, 3) := by decide +kernel
theorem dX5_isName_30 : decode cX5_isName 30 = .ok (.iload_n 0, 1) := by decide +kernel
theorem dX5_isName_31 : decode cX5_isName 31 = .ok (.bipush 107, 2) := by decide +kernel
theorem dX5_isName_33 : decode cX5_isName 33 = .ok (.if_icmp .ne 7, 3) := by decide +kernel
theorem dX5_isName_40 : decode cX5_isName 40 = .ok (.iconst 0, 1) := by decide +kernel
theorem dX5_isName_41 : decode cX5_isName 41 = .ok (.ireturn, 1) := by decide +kernel
theorem dX5_next_0 : decode cX5_next 0 = .ok (.aload_n 0, 1) := by decide +kernel
theorem dX5_next_1 : decode cX5_next 1 = .ok (.getfield 31, 3) := by decide +kernel
theorem dX5_next_4 : decode cX5_next 4 = .ok (.ifCond .ge 26, 3) := by decide +kernel
theorem dX5_next_7 : decode cX5_next 7 = .ok (.aload_n 0, 1) := by decide +kernel
theorem dX5_next_8 : decode cX5_next 8 = .ok (.getfield 28, 3) := by decide +kernel
theorem dX5_next_11 : decode cX5_next 11 = .ok (.aload_n 0, 1) := by decide +kernel
theorem dX5_next_12 : decode cX5_next 12 = .ok (.getfield 24, 3) := by decide +kernel
theorem dX5_next_15 : decode cX5_next 15 = .ok (.if_icmp .ge 15, 3) := by decide +kernel
theorem dX5_next_30 : decode cX5_next 30 = .ok (.iconst (-1), 1) := by decide +kernel
theorem dX5_next_31 : decode cX5_next 31 = .ok (.ireturn, 1) := by decide +kernel
theorem dX5_fail_0 : decode cX5_fail 0 = .ok (.aload_n 0, 1) := by decide +kernel
theorem dX5_fail_1 : decode cX5_fail 1 = .ok (.getfield 31, 3) := by decide +kernel
theorem dX5_fail_4 : decode cX5_fail 4 = .ok (.ifCond .ge 11, 3) := by decide +kernel
theorem dX5_fail_7 : decode cX5_fail 7 = .ok (.aload_n 0, 1) := by decide +kernel
theorem dX5_fail_8 : decode cX5_fail 8 = .ok (.aload_n 0, 1) := by decide +kernel
theorem dX5_fail_9 : decode cX5_fail 9 = .ok (.getfield 28, 3) := by decide +kernel
theorem dX5_fail_12 : decode cX5_fail 12 = .ok (.putfield 31, 3) := by decide +kernel
theorem dX5_fail_15 : decode cX5_fail 15 = .ok (.return_, 1) := by decide +kernel
theorem dX5_write_0 : decode cX5_write 0 = .ok (.aload_n 0, 1) := by decide +kernel
theorem dX5_write_1 : decode cX5_write 1 = .ok (.getfield 34, 3) := by decide +kernel
theorem dX5_write_4 : decode cX5_write 4 = .ok (.aload_n 0, 1) := by decide +kernel
theorem dX5_write_5 : decode cX5_write 5 = .ok (.getfield 15, 3) := by decide +kernel
theorem dX5_write_8 : decode cX5_write 8 = .ok (.arraylength, 1) := by decide +kernel
theorem dX5_write_9 : decode cX5_write 9 = .ok (.if_icmp .ge 23, 3) := by decide +kernel
theorem dX5_write_12 : decode cX5_write 12 = .ok (.aload_n 0, 1) := by decide +kernel
theorem dX5_write_13 : decode cX5_write 13 = .ok (.getfield 15, 3) := by decide +kernel
theorem dX5_write_16 : decode cX5_write 16 = .ok (.aload_n 0, 1) := by decide +kernel
theorem dX5_write_17 : decode cX5_write 17 = .ok (.getfield 34, 3) := by decide +kernel
theorem dX5_write_20 : decode cX5_write 20 = .ok (.iload_n 1, 1) := by decide +kernel
theorem dX5_write_21 : decode cX5_write 21 = .ok (.iastore, 1) := by decide +kernel
theorem dX5_write_22 : decode cX5_write 22 = .ok (.aload_n 0, 1) := by decide +kernel
theorem dX5_write_23 : decode cX5_write 23 = .ok (.dup, 1) := by decide +kernel
theorem dX5_write_24 : decode cX5_write 24 = .ok (.getfield 34, 3) := by decide +kernel
theorem dX5_write_27 : decode cX5_write 27 = .ok (.iconst 1, 1) := by decide +kernel
theorem dX5_write_28 : decode cX5_write 28 = .ok (.iadd, 1) := by decide +kernel
theorem dX5_write_29 : decode cX5_write 29 = .ok (.putfield 34, 3) := by decide +kernel
theorem dX5_write_32 : decode cX5_write 32 = .ok (.return_, 1) := by decide +kernel
theorem dX7_takesDesk_0 : decode cX7_takesDesk 0 = .ok (.aload_n 0, 1) := by decide +kernel
theorem dX7_takesDesk_1 : decode cX7_takesDesk 1 = .ok (.iload_n 1, 1) := by decide +kernel
theorem dX7_takesDesk_2 : decode cX7_takesDesk 2 = .ok (.ifCond .ge 7, 3) := by decide +kernel
theorem dX7_takesDesk_5 : decode cX7_takesDesk 5 = .ok (.iconst (-1), 1) := by decide +kernel
theorem dX7_takesDesk_6 : decode cX7_takesDesk 6 = .ok (.goto 5, 3) := by decide +kernel
theorem dX7_takesDesk_9 : decode cX7_takesDesk 9 = .ok (.bipush (-2), 2) := by decide +kernel
theorem dX7_takesDesk_11 : decode cX7_takesDesk 11 = .ok (.putfield 15, 3) := by decide +kernel
theorem dX7_takesDesk_14 : decode cX7_takesDesk 14 = .ok (.aload_n 0, 1) := by decide +kernel
theorem dX7_takesDesk_15 : decode cX7_takesDesk 15 = .ok (.iload_n 1, 1) := by decide +kernel
theorem dX7_takesDesk_16 : decode cX7_takesDesk 16 = .ok (.putfield 19, 3) := by decide +kernel
theorem dX7_takesDesk_19 : decode cX7_takesDesk 19 = .ok (.return_, 1) := by decide +kernel
theorem dX7_takesRow_0 : decode cX7_takesRow 0 = .ok (.aload_n 0, 1) := by decide +kernel
theorem dX7_takesRow_1 : decode cX7_takesRow 1 = .ok (.iload_n 1, 1) := by decide +kernel
theorem dX7_takesRow_2 : decode cX7_takesRow 2 = .ok (.putfield 15, 3) := by decide +kernel
theorem dX7_takesRow_5 : decode cX7_takesRow 5 = .ok (.aload_n 0, 1) := by decide +kernel
theorem dX7_takesRow_6 : decode cX7_takesRow 6 = .ok (.iload_n 2, 1) := by decide +kernel
theorem dX7_takesRow_7 : decode cX7_takesRow 7 = .ok (.putfield 22, 3) := by decide +kernel
theorem dX7_takesRow_10 : decode cX7_takesRow 10 = .ok (.iconst 0, 1) := by decide +kernel
theorem dX7_takesRow_11 : decode cX7_takesRow 11 = .ok (.istore_n 3, 1) := by decide +kernel
theorem dX7_takesRow_12 : decode cX7_takesRow 12 = .ok (.iload_n 3, 1) := by decide +kernel
theorem dX7_takesRow_13 : decode cX7_takesRow 13 = .ok (.iload_n 2, 1) := by decide +kernel
theorem dX7_takesRow_14 : decode cX7_takesRow 14 = .ok (.if_icmp .ge 16, 3) := by decide +kernel
theorem dX7_takesRow_17 : decode cX7_takesRow 17 = .ok (.aload_n 0, 1) := by decide +kernel
theorem dX7_takesRow_18 : decode cX7_takesRow 18 = .ok (.getfield 9, 3) := by decide +kernel
theorem dX7_takesRow_21 : decode cX7_takesRow 21 = .ok (.iload_n 3, 1) := by decide +kernel
theorem dX7_takesRow_22 : decode cX7_takesRow 22 = .ok (.lconst 0, 1) := by decide +kernel
theorem dX7_takesRow_23 : decode cX7_takesRow 23 = .ok (.lastore, 1) := by decide +kernel
theorem dX7_takesRow_24 : decode cX7_takesRow 24 = .ok (.iinc 3 1, 3) := by decide +kernel
theorem dX7_takesRow_27 : decode cX7_takesRow 27 = .ok (.goto (-15), 3) := by decide +kernel
theorem dX7_takesRow_30 : decode cX7_takesRow 30 = .ok (.return_, 1) := by decide +kernel
set_option maxRecDepth 20000 in
theorem ggX11_sitter_X11_isSetting : GoodIn wsX11_sitter wsX11_isSetting := goodIn_r _ [5] (by decide +kernel) (by decide +kernel)
set_option maxRecDepth 20000 in
theorem gX11_sitter_X11_isSetting : GoodIn wsX11_sitter (va_wsS RX11 85 yX11_isSetting wsX11_isSetting) := goodIn_app (goodIn_of _ (by decide +kernel)) ggX11_sitter_X11_isSetting
set_option maxRecDepth 20000 in
theorem ggX11_sitter_X11_fits : GoodIn wsX11_sitter wsX11_fits := goodIn_r _ [8, 9, 10] (by decide +kernel) (by decide +kernel)
set_option maxRecDepth 20000 in
theorem gX11_sitter_X11_fits : GoodIn wsX11_sitter (va_wsS RX11 89 yX11_fits wsX11_fits) := goodIn_app (goodIn_of _ (by decide +kernel)) ggX11_sitter_X11_fits
set_option maxRecDepth 20000 in
theorem ggX11_sitter_X0_comes : GoodIn wsX11_sitter wsX0_comes := goodIn_r _ [15, 16, 17, 18, 19, 20, 14, 21, 22, 33, 34, 35, 36, 37] (by decide +kernel) (by decide +kernel)
set_option maxRecDepth 20000 in
theorem gX11_sitter_X0_comes : GoodIn wsX11_sitter (wsV RX11 93 RX0 yX0_comes wsX0_comes) := goodIn_app (goodIn_of _ (by decide +kernel)) ggX11_sitter_X0_comes
theorem dX11_sitter_0 : decode cX11_sitter 0 = .ok (.iload_n 1, 1) := by decide +kernel
theorem dX11_sitter_1 : decode cX11_sitter 1 = .ok (.invokestatic 85, 3) := by decide +kernel
theorem dX11_sitter_4 : decode cX11_sitter 4 = .ok (.ifCond .eq 11, 3) := by decide +kernel
theorem dX11_sitter_7 : decode cX11_sitter 7 = .ok (.iconst 5, 1) := by decide +kernel
theorem dX11_sitter_8 : decode cX11_sitter 8 = .ok (.iload_n 2, 1) := by decide +kernel
theorem dX11_sitter_9 : decode cX11_sitter 9 = .ok (.invokestatic 89, 3) := by decide +kernel
theorem dX11_sitter_12 : decode cX11_sitter 12 = .ok (.ifCond .ne 5, 3) := by decide +kernel
theorem dX11_sitter_15 : decode cX11_sitter 15 = .ok (.iconst (-1), 1) := by decide +kernel
theorem dX11_sitter_16 : decode cX11_sitter 16 = .ok (.ireturn, 1) := by decide +kernel
theorem dX11_sitter_17 : decode cX11_sitter 17 = .ok (.aload_n 0, 1) := by decide +kernel
theorem dX11_sitter_18 : decode cX11_sitter 18 = .ok (.getfield 12, 3) := by decide +kernel
theorem dX11_sitter_21 : decode cX11_sitter 21 = .ok (.iload_n 1, 1) := by decide +kernel
theorem dX11_sitter_22 : decode cX11_sitter 22 = .ok (.iload_n 1, 1) := by decide +kernel
theorem dX11_sitter_23 : decode cX11_sitter 23 = .ok (.iload_n 1, 1) := by decide +kernel
theorem dX11_sitter_24 : decode cX11_sitter 24 = .ok (.iload_n 2, 1) := by decide +kernel
theorem dX11_sitter_25 : decode cX11_sitter 25 = .ok (.invokevirtual 93, 3) := by decide +kernel
theorem dX11_sitter_28 : decode cX11_sitter 28 = .ok (.ireturn, 1) := by decide +kernel
set_option maxRecDepth 20000 in
theorem ggX11_sitters_X11_isShelf : GoodIn wsX11_sitters wsX11_isShelf := goodIn_r _ [6] (by decide +kernel) (by decide +kernel)
set_option maxRecDepth 20000 in
theorem gX11_sitters_X11_isShelf : GoodIn wsX11_sitters (va_wsS RX11 97 yX11_isShelf wsX11_isShelf) := goodIn_app (goodIn_of _ (by decide +kernel)) ggX11_sitters_X11_isShelf
theorem dX11_sitters_0 : decode cX11_sitters 0 = .ok (.iload_n 1, 1) := by decide +kernel
theorem dX11_sitters_1 : decode cX11_sitters 1 = .ok (.invokestatic 97, 3) := by decide +kernel
theorem dX11_sitters_4 : decode cX11_sitters 4 = .ok (.ifCond .eq 14, 3) := by decide +kernel
theorem dX11_sitters_7 : decode cX11_sitters 7 = .ok (.iload_n 3, 1) := by decide +kernel
theorem dX11_sitters_8 : decode cX11_sitters 8 = .ok (.iconst 1, 1) := by decide +kernel
theorem dX11_sitters_9 : decode cX11_sitters 9 = .ok (.if_icmp .lt 9, 3) := by decide +kernel
theorem dX11_sitters_12 : decode cX11_sitters 12 = .ok (.iload_n 3, 1) := by decide +kernel
theorem dX11_sitters_13 : decode cX11_sitters 13 = .ok (.bipush 8, 2) := by decide +kernel
theorem dX11_sitters_15 : decode cX11_sitters 15 = .ok (.if_icmp .le 5, 3) := by decide +kernel
theorem dX11_sitters_18 : decode cX11_sitters 18 = .ok (.iconst (-1), 1) := by decide +kernel
theorem dX11_sitters_19 : decode cX11_sitters 19 = .ok (.ireturn, 1) := by decide +kernel
theorem dX11_sitters_20 : decode cX11_sitters 20 = .ok (.aload_n 0, 1) := by decide +kernel
theorem dX11_sitters_21 : decode cX11_sitters 21 = .ok (.getfield 80, 3) := by decide +kernel
theorem dX11_sitters_24 : decode cX11_sitters 24 = .ok (.iload_n 1, 1) := by decide +kernel
theorem dX11_sitters_25 : decode cX11_sitters 25 = .ok (.aaload, 1) := by decide +kernel
theorem dX11_sitters_26 : decode cX11_sitters 26 = .ok (.astore 4, 2) := by decide +kernel
theorem dX11_sitters_28 : decode cX11_sitters 28 = .ok (.aload 4, 2) := by decide +kernel
theorem dX11_sitters_30 : decode cX11_sitters 30 = .ok (.getfield 100, 3) := by decide +kernel
theorem dX11_sitters_33 : decode cX11_sitters 33 = .ok (.iconst (-1), 1) := by decide +kernel
theorem dX11_sitters_34 : decode cX11_sitters 34 = .ok (.if_icmp .ne 5, 3) := by decide +kernel
theorem dX11_sitters_37 : decode cX11_sitters 37 = .ok (.iconst 0, 1) := by decide +kernel
theorem dX11_sitters_38 : decode cX11_sitters 38 = .ok (.ireturn, 1) := by decide +kernel
set_option maxRecDepth 20000 in
theorem ggX11_mend_X0_placeOf : GoodIn wsX11_mend wsX0_placeOf := goodIn_r _ [8, 9, 54, 55, 56, 57, 58] (by decide +kernel) (by decide +kernel)
set_option maxRecDepth 20000 in
theorem gX11_mend_X0_placeOf : GoodIn wsX11_mend (wsV RX11 108 RX0 yX0_placeOf wsX0_placeOf) := goodIn_app (goodIn_of _ (by decide +kernel)) ggX11_mend_X0_placeOf
set_option maxRecDepth 20000 in
theorem ggX11_mend_X11_fits : GoodIn wsX11_mend wsX11_fits := goodIn_r _ [13, 14, 15] (by decide +kernel) (by decide +kernel)
set_option maxRecDepth 20000 in
theorem gX11_mend_X11_fits : GoodIn wsX11_mend (va_wsS RX11 89 yX11_fits wsX11_fits) := goodIn_app (goodIn_of _ (by decide +kernel)) ggX11_mend_X11_fits
set_option maxRecDepth 20000 in
theorem ggX11_mend_X1_comes : GoodIn wsX11_mend wsX1_comes := goodIn_r _ [20, 21, 22, 23, 24, 25, 26, 27, 28, 19, 29, 30, 31, 32, 33, 59, 60, 61, 62, 63] (by decide +kernel) (by decide +kernel)
set_option maxRecDepth 20000 in
theorem gX11_mend_X1_comes : GoodIn wsX11_mend (wsV RX11 116 RX1 yX1_comes wsX1_comes) := goodIn_app (goodIn_of _ (by decide +kernel)) ggX11_mend_X1_comes
set_option maxRecDepth 20000 in
theorem ggX11_mend_X0_becomes : GoodIn wsX11_mend wsX0_becomes := goodIn_r _ [37, 38, 39, 40, 41, 7, 42, 43, 54, 55, 56, 57, 58] (by decide +kernel) (by decide +kernel)
set_option maxRecDepth 20000 in
theorem gX11_mend_X0_becomes : GoodIn wsX11_mend (wsV RX11 119 RX0 yX0_becomes wsX0_becomes) := goodIn_app (goodIn_of _ (by decide +kernel)) ggX11_mend_X0_becomes
theorem dX11_mend_0 : decode cX11_mend 0 = .ok (.aload_n 0, 1) := by decide +kernel
theorem dX11_mend_1 : decode cX11_mend 1 = .ok (.getfield 12, 3) := by decide +kernel
theorem dX11_mend_4 : decode cX11_mend 4 = .ok (.iload_n 1, 1) := by decide +kernel
theorem dX11_mend_5 : decode cX11_mend 5 = .ok (.iload_n 2, 1) := by decide +kernel
theorem dX11_mend_6 : decode cX11_mend 6 = .ok (.invokevirtual 108, 3) := by decide +kernel
theorem dX11_mend_9 : decode cX11_mend 9 = .ok (.istore 4, 2) := by decide +kernel
theorem dX11_mend_11 : decode cX11_mend 11 = .ok (.iload 4, 2) := by decide +kernel
theorem dX11_mend_13 : decode cX11_mend 13 = .ok (.ifCond .lt 11, 3) := by decide +kernel
theorem dX11_mend_16 : decode cX11_mend 16 = .ok (.iload_n 2, 1) := by decide +kernel
theorem dX11_mend_17 : decode cX11_mend 17 = .ok (.iload_n 3, 1) := by decide +kernel
theorem dX11_mend_18 : decode cX11_mend 18 = .ok (.invokestatic 89, 3) := by decide +kernel
theorem dX11_mend_21 : decode cX11_mend 21 = .ok (.ifCond .ne 5, 3) := by decide +kernel
theorem dX11_mend_24 : decode cX11_mend 24 = .ok (.iconst (-1), 1) := by decide +kernel
theorem dX11_mend_25 : decode cX11_mend 25 = .ok (.ireturn, 1) := by decide +kernel
theorem dX11_mend_26 : decode cX11_mend 26 = .ok (.aload_n 0, 1) := by decide +kernel
theorem dX11_mend_27 : decode cX11_mend 27 = .ok (.getfield 12, 3) := by decide +kernel
theorem dX11_mend_30 : decode cX11_mend 30 = .ok (.getfield 112, 3) := by decide +kernel
theorem dX11_mend_33 : decode cX11_mend 33 = .ok (.iload 4, 2) := by decide +kernel
theorem dX11_mend_35 : decode cX11_mend 35 = .ok (.iaload, 1) := by decide +kernel
theorem dX11_mend_36 : decode cX11_mend 36 = .ok (.istore 5, 2) := by decide +kernel
theorem dX11_mend_38 : decode cX11_mend 38 = .ok (.iload 5, 2) := by decide +kernel
theorem dX11_mend_40 : decode cX11_mend 40 = .ok (.iload_n 3, 1) := by decide +kernel
theorem dX11_mend_41 : decode cX11_mend 41 = .ok (.if_icmp .eq 25, 3) := by decide +kernel
theorem dX11_mend_44 : decode cX11_mend 44 = .ok (.aload_n 0, 1) := by decide +kernel
theorem dX11_mend_45 : decode cX11_mend 45 = .ok (.getfield 67, 3) := by decide +kernel
theorem dX11_mend_48 : decode cX11_mend 48 = .ok (.iload 4, 2) := by decide +kernel
theorem dX11_mend_50 : decode cX11_mend 50 = .ok (.iload 5, 2) := by decide +kernel
theorem dX11_mend_52 : decode cX11_mend 52 = .ok (.iload_n 3, 1) := by decide +kernel
theorem dX11_mend_53 : decode cX11_mend 53 = .ok (.invokevirtual 116, 3) := by decide +kernel
theorem dX11_mend_56 : decode cX11_mend 56 = .ok (.aload_n 0, 1) := by decide +kernel
theorem dX11_mend_57 : decode cX11_mend 57 = .ok (.getfield 12, 3) := by decide +kernel
theorem dX11_mend_60 : decode cX11_mend 60 = .ok (.iload 4, 2) := by decide +kernel
theorem dX11_mend_62 : decode cX11_mend 62 = .ok (.iload_n 3, 1) := by decide +kernel
theorem dX11_mend_63 : decode cX11_mend 63 = .ok (.invokevirtual 119, 3) := by decide +kernel
theorem dX11_mend_66 : decode cX11_mend 66 = .ok (.iload 5, 2) := by decide +kernel
theorem dX11_mend_68 : decode cX11_mend 68 = .ok (.ireturn, 1) := by decide +kernel
set_option maxRecDepth 20000 in
theorem ggX11_of_X11_isPart : GoodIn wsX11_of wsX11_isPart := goodIn_r _ [7] (by decide +kernel) (by decide +kernel)
set_option maxRecDepth 20000 in
theorem gX11_of_X11_isPart : GoodIn wsX11_of (va_wsS RX11 123 yX11_isPart wsX11_isPart) := goodIn_app (goodIn_of _ (by decide +kernel)) ggX11_of_X11_isPart
set_option maxRecDepth 20000 in
theorem ggX11_of_X0_placeOf : GoodIn wsX11_of wsX0_placeOf := goodIn_r _ [12, 13, 24, 25, 26, 27, 28] (by decide +kernel) (by decide +kernel)
set_option maxRecDepth 20000 in
theorem gX11_of_X0_placeOf : GoodIn wsX11_of (wsV RX11 108 RX0 yX0_placeOf wsX0_placeOf) := goodIn_app (goodIn_of _ (by decide +kernel)) ggX11_of_X0_placeOf
theorem dX11_of_0 : decode cX11_of 0 = .ok (.iload_n 2, 1) := by decide +kernel
theorem dX11_of_1 : decode cX11_of 1 = .ok (.bipush 11, 2) := by decide +kernel
theorem dX11_of_3 : decode cX11_of 3 = .ok (.if_icmp .ne 24, 3) := by decide +kernel
theorem dX11_of_6 : decode cX11_of 6 = .ok (.iload_n 1, 1) := by decide +kernel
theorem dX11_of_7 : decode cX11_of 7 = .ok (.invokestatic 123, 3) := by decide +kernel
theorem dX11_of_10 : decode cX11_of 10 = .ok (.ifCond .eq 15, 3) := by decide +kernel
theorem dX11_of_13 : decode cX11_of 13 = .ok (.aload_n 0, 1) := by decide +kernel
theorem dX11_of_14 : decode cX11_of 14 = .ok (.getfield 12, 3) := by decide +kernel
theorem dX11_of_17 : decode cX11_of 17 = .ok (.getfield 126, 3) := by decide +kernel
theorem dX11_of_20 : decode cX11_of 20 = .ok (.iload_n 1, 1) := by decide +kernel
theorem dX11_of_21 : decode cX11_of 21 = .ok (.iaload, 1) := by decide +kernel
theorem dX11_of_22 : decode cX11_of 22 = .ok (.goto 4, 3) := by decide +kernel
theorem dX11_of_25 : decode cX11_of 25 = .ok (.iconst (-1), 1) := by decide +kernel
theorem dX11_of_26 : decode cX11_of 26 = .ok (.ireturn, 1) := by decide +kernel
theorem dX11_of_27 : decode cX11_of 27 = .ok (.aload_n 0, 1) := by decide +kernel
theorem dX11_of_28 : decode cX11_of 28 = .ok (.getfield 12, 3) := by decide +kernel
theorem dX11_of_31 : decode cX11_of 31 = .ok (.iload_n 1, 1) := by decide +kernel
theorem dX11_of_32 : decode cX11_of 32 = .ok (.iload_n 2, 1) := by decide +kernel
theorem dX11_of_33 : decode cX11_of 33 = .ok (.invokevirtual 108, 3) := by decide +kernel
theorem dX11_of_36 : decode cX11_of 36 = .ok (.istore_n 3, 1) := by decide +kernel
theorem dX11_of_37 : decode cX11_of 37 = .ok (.iload_n 3, 1) := by decide +kernel
theorem dX11_of_38 : decode cX11_of 38 = .ok (.ifCond .ge 7, 3) := by decide +kernel
theorem dX11_of_41 : decode cX11_of 41 = .ok (.iconst (-1), 1) := by decide +kernel
theorem dX11_of_42 : decode cX11_of 42 = .ok (.goto 12, 3) := by decide +kernel
theorem dX11_of_45 : decode cX11_of 45 = .ok (.aload_n 0, 1) := by decide +kernel
theorem dX11_of_46 : decode cX11_of 46 = .ok (.getfield 12, 3) := by decide +kernel
theorem dX11_of_49 : decode cX11_of 49 = .ok (.getfield 112, 3) := by decide +kernel
theorem dX11_of_52 : decode cX11_of 52 = .ok (.iload_n 3, 1) := by decide +kernel
theorem dX11_of_53 : decode cX11_of 53 = .ok (.iaload, 1) := by decide +kernel
theorem dX11_of_54 : decode cX11_of 54 = .ok (.ireturn, 1) := by decide +kernel
set_option maxRecDepth 20000 in
theorem ggX11_feed_X5_takes : GoodIn wsX11_feed wsX5_takes := goodIn_r _ [7, 8, 9, 25, 26, 27, 28, 29, 30, 31, 32, 33, 34] (by decide +kernel) (by decide +kernel)
set_option maxRecDepth 20000 in
theorem gX11_feed_X5_takes : GoodIn wsX11_feed (wsV RX11 133 RX5 yX5_takes wsX5_takes) := goodIn_app (goodIn_of _ (by decide +kernel)) ggX11_feed_X5_takes
theorem dX11_feed_0 : decode cX11_feed 0 = .ok (.iload_n 1, 1) := by decide +kernel
theorem dX11_feed_1 : decode cX11_feed 1 = .ok (.ifCond .lt 10, 3) := by decide +kernel
theorem dX11_feed_4 : decode cX11_feed 4 = .ok (.iload_n 1, 1) := by decide +kernel
theorem dX11_feed_5 : decode cX11_feed 5 = .ok (.sipush 255, 3) := by decide +kernel
theorem dX11_feed_8 : decode cX11_feed 8 = .ok (.if_icmp .le 7, 3) := by decide +kernel
theorem dX11_feed_11 : decode cX11_feed 11 = .ok (.iconst (-1), 1) := by decide +kernel
theorem dX11_feed_12 : decode cX11_feed 12 = .ok (.goto 14, 3) := by decide +kernel
theorem dX11_feed_15 : decode cX11_feed 15 = .ok (.aload_n 0, 1) := by decide +kernel
theorem dX11_feed_16 : decode cX11_feed 16 = .ok (.getfield 12, 3) := by decide +kernel
theorem dX11_feed_19 : decode cX11_feed 19 = .ok (.getfield 129, 3) := by decide +kernel
theorem dX11_feed_22 : decode cX11_feed 22 = .ok (.iload_n 1, 1) := by decide +kernel
theorem dX11_feed_23 : decode cX11_feed 23 = .ok (.invokevirtual 133, 3) := by decide +kernel
theorem dX11_feed_26 : decode cX11_feed 26 = .ok (.ireturn, 1) := by decide +kernel
set_option maxRecDepth 20000 in
theorem ggX11_law_X5_isRead : GoodIn wsX11_law wsX5_isRead := goodIn_r _ [7, 8, 9, 10, 11, 12, 13, 14, 15, 16, 17, 18, 19, 20, 21, 22, 6, 23, 24, 25, 26, 27, 28, 29, 30, 31, 32, 33, 34, 35, 36, 37, 38, 39, 40, 41, 42, 43, 44, 45, 46, 47, 48, 49, 50, 51, 52, 53, 54, 55, 56, 57, 58, 59, 60, 61, 62, 63, 64, 65, 66, 67, 68, 69, 70, 71, 72, 73, 74, 75, 76, 77, 78, 104, 105, 106, 107, 108, 109, 110, 111, 112, 113] (by decide +kernel) (by decide +kernel)
set_option maxRecDepth 20000 in
theorem gX11_law_X5_isRead : GoodIn wsX11_law (wsV RX11 139 RX5 yX5_isRead wsX5_isRead) := goodIn_app (goodIn_of _ (by decide +kernel)) ggX11_law_X5_isRead
theorem dX11_law_0 : decode cX11_law 0 = .ok (.aload_n 0, 1) := by decide +kernel
theorem dX11_law_1 : decode cX11_law 1 = .ok (.getfield 12, 3) := by decide +kernel
theorem dX11_law_4 : decode cX11_law 4 = .ok (.getfield 129, 3) := by decide +kernel
theorem dX11_law_7 : decode cX11_law 7 = .ok (.invokevirtual 139, 3) := by decide +kernel
theorem dX11_law_10 : decode cX11_law 10 = .ok (.istore_n 1, 1) := by decide +kernel
theorem dX11_law_11 : decode cX11_law 11 = .ok (.iload_n 1, 1) := by decide +kernel
theorem dX11_law_12 : decode cX11_law 12 = .ok (.iconst 1, 1) := by decide +kernel
theorem dX11_law_13 : decode cX11_law 13 = .ok (.if_icmp .ne 10, 3) := by decide +kernel
theorem dX11_law_23 : decode cX11_law 23 = .ok (.iload_n 1, 1) := by decide +kernel
theorem dX11_law_24 : decode cX11_law 24 = .ok (.ireturn, 1) := by decide +kernel
set_option maxRecDepth 20000 in
theorem ggX11_loss_X0_has : GoodIn wsX11_loss wsX0_has := goodIn_r _ [6, 7, 65, 66, 67, 68, 69] (by decide +kernel) (by decide +kernel)
set_option maxRecDepth 20000 in
theorem gX11_loss_X0_has : GoodIn wsX11_loss (wsV RX11 146 RX0 yX0_has wsX0_has) := goodIn_app (goodIn_of _ (by decide +kernel)) ggX11_loss_X0_has
theorem dX11_loss_0 : decode cX11_loss 0 = .ok (.aload_n 0, 1) := by decide +kernel
theorem dX11_loss_1 : decode cX11_loss 1 = .ok (.getfield 12, 3) := by decide +kernel
theorem dX11_loss_4 : decode cX11_loss 4 = .ok (.iload_n 1, 1) := by decide +kernel
theorem dX11_loss_5 : decode cX11_loss 5 = .ok (.invokevirtual 146, 3) := by decide +kernel
theorem dX11_loss_8 : decode cX11_loss 8 = .ok (.ifCond .eq 17, 3) := by decide +kernel
theorem dX11_loss_25 : decode cX11_loss 25 = .ok (.iconst (-1), 1) := by decide +kernel
theorem dX11_loss_26 : decode cX11_loss 26 = .ok (.ireturn, 1) := by decide +kernel
set_option maxRecDepth 20000 in
theorem ggX11_never_X11_isShelf : GoodIn wsX11_never wsX11_isShelf := goodIn_r _ [5] (by decide +kernel) (by decide +kernel)
set_option maxRecDepth 20000 in
theorem gX11_never_X11_isShelf : GoodIn wsX11_never (va_wsS RX11 97 yX11_isShelf wsX11_isShelf) := goodIn_app (goodIn_of _ (by decide +kernel)) ggX11_never_X11_isShelf
set_option maxRecDepth 20000 in
theorem ggX11_never_X11_isPart : GoodIn wsX11_never wsX11_isPart := goodIn_r _ [8] (by decide +kernel) (by decide +kernel)
set_option maxRecDepth 20000 in
theorem gX11_never_X11_isPart : GoodIn wsX11_never (va_wsS RX11 123 yX11_isPart wsX11_isPart) := goodIn_app (goodIn_of _ (by decide +kernel)) ggX11_never_X11_isPart
set_option maxRecDepth 20000 in
theorem ggX11_never_X11_isSetting : GoodIn wsX11_never wsX11_isSetting := goodIn_r _ [11] (by decide +kernel) (by decide +kernel)
set_option maxRecDepth 20000 in
theorem gX11_never_X11_isSetting : GoodIn wsX11_never (va_wsS RX11 85 yX11_isSetting wsX11_isSetting) := goodIn_app (goodIn_of _ (by decide +kernel)) ggX11_never_X11_isSetting
set_option maxRecDepth 20000 in
theorem ggX11_never_X11_readWeek : GoodIn wsX11_never wsX11_readWeek := goodIn_r _ [15, 16, 17, 18, 19, 20, 21, 22, 4, 23, 24, 25, 26, 27, 28, 29, 30, 31, 32, 33, 34, 35, 36, 37, 38, 39, 86, 87, 88, 89, 90, 91, 92, 93, 94, 95, 96, 97, 98, 99, 100, 101, 102, 103, 104, 105, 106, 107, 108] (by decide +kernel) (by decide +kernel)
set_option maxRecDepth 20000 in
theorem gX11_never_X11_readWeek : GoodIn wsX11_never (wsV RX11 153 RX11 yX11_readWeek wsX11_readWeek) := goodIn_app (goodIn_of _ (by decide +kernel)) ggX11_never_X11_readWeek
theorem dX11_never_0 : decode cX11_never 0 = .ok (.iload_n 1, 1) := by decide +kernel
theorem dX11_never_1 : decode cX11_never 1 = .ok (.invokestatic 97, 3) := by decide +kernel
theorem dX11_never_4 : decode cX11_never 4 = .ok (.ifCond .eq 17, 3) := by decide +kernel
theorem dX11_never_7 : decode cX11_never 7 = .ok (.iload_n 2, 1) := by decide +kernel
theorem dX11_never_8 : decode cX11_never 8 = .ok (.invokestatic 123, 3) := by decide +kernel
theorem dX11_never_11 : decode cX11_never 11 = .ok (.ifCond .eq 10, 3) := by decide +kernel
theorem dX11_never_14 : decode cX11_never 14 = .ok (.iload_n 3, 1) := by decide +kernel
theorem dX11_never_15 : decode cX11_never 15 = .ok (.invokestatic 85, 3) := by decide +kernel
theorem dX11_never_18 : decode cX11_never 18 = .ok (.ifCond .ne 5, 3) := by decide +kernel
theorem dX11_never_21 : decode cX11_never 21 = .ok (.iconst (-1), 1) := by decide +kernel
theorem dX11_never_22 : decode cX11_never 22 = .ok (.ireturn, 1) := by decide +kernel
theorem dX11_never_23 : decode cX11_never 23 = .ok (.aload_n 0, 1) := by decide +kernel
theorem dX11_never_24 : decode cX11_never 24 = .ok (.iload_n 1, 1) := by decide +kernel
theorem dX11_never_25 : decode cX11_never 25 = .ok (.invokevirtual 153, 3) := by decide +kernel
theorem dX11_never_28 : decode cX11_never 28 = .ok (.istore 4, 2) := by decide +kernel
theorem dX11_never_30 : decode cX11_never 30 = .ok (.iload 4, 2) := by decide +kernel
theorem dX11_never_32 : decode cX11_never 32 = .ok (.ifCond .eq 8, 3) := by decide +kernel
theorem dX11_never_35 : decode cX11_never 35 = .ok (.iload 4, 2) := by decide +kernel
theorem dX11_never_37 : decode cX11_never 37 = .ok (.goto 12, 3) := by decide +kernel
theorem dX11_never_49 : decode cX11_never 49 = .ok (.ireturn, 1) := by decide +kernel
set_option maxRecDepth 20000 in
theorem ggX11_best_X11_isShelf : GoodIn wsX11_best wsX11_isShelf := goodIn_r _ [7] (by decide +kernel) (by decide +kernel)
set_option maxRecDepth 20000 in
theorem gX11_best_X11_isShelf : GoodIn wsX11_best (va_wsS RX11 97 yX11_isShelf wsX11_isShelf) := goodIn_app (goodIn_of _ (by decide +kernel)) ggX11_best_X11_isShelf
set_option maxRecDepth 20000 in
theorem ggX11_best_X11_isPart : GoodIn wsX11_best wsX11_isPart := goodIn_r _ [10] (by decide +kernel) (by decide +kernel)
set_option maxRecDepth 20000 in
theorem gX11_best_X11_isPart : GoodIn wsX11_best (va_wsS RX11 123 yX11_isPart wsX11_isPart) := goodIn_app (goodIn_of _ (by decide +kernel)) ggX11_best_X11_isPart
set_option maxRecDepth 20000 in
theorem ggX11_best_X11_readWeek : GoodIn wsX11_best wsX11_readWeek := goodIn_r _ [14, 1, 15, 16, 17, 18, 19, 20, 6, 21, 22, 23, 24, 25, 26, 27, 28, 29, 30, 31, 32, 33, 34, 35, 36, 37, 93, 94, 95, 96, 97, 98, 99, 100, 101, 102, 107, 108, 109, 110, 111, 112, 113, 114, 115, 103, 104, 105, 106] (by decide +kernel) (by decide +kernel)
set_option maxRecDepth 20000 in
theorem gX11_best_X11_readWeek : GoodIn wsX11_best (wsV RX11 153 RX11 yX11_readWeek wsX11_readWeek) := goodIn_app (goodIn_of _ (by decide +kernel)) ggX11_best_X11_readWeek
theorem dX11_best_0 : decode cX11_best 0 = .ok (.iload_n 1, 1) := by decide +kernel
theorem dX11_best_1 : decode cX11_best 1 = .ok (.invokestatic 97, 3) := by decide +kernel
theorem dX11_best_4 : decode cX11_best 4 = .ok (.ifCond .eq 19, 3) := by decide +kernel
theorem dX11_best_7 : decode cX11_best 7 = .ok (.iload_n 2, 1) := by decide +kernel
theorem dX11_best_8 : decode cX11_best 8 = .ok (.invokestatic 123, 3) := by decide +kernel
theorem dX11_best_11 : decode cX11_best 11 = .ok (.ifCond .eq 12, 3) := by decide +kernel
theorem dX11_best_14 : decode cX11_best 14 = .ok (.iload_n 3, 1) := by decide +kernel
theorem dX11_best_15 : decode cX11_best 15 = .ok (.ifCond .lt 8, 3) := by decide +kernel
theorem dX11_best_18 : decode cX11_best 18 = .ok (.iload_n 3, 1) := by decide +kernel
theorem dX11_best_19 : decode cX11_best 19 = .ok (.iconst 3, 1) := by decide +kernel
theorem dX11_best_20 : decode cX11_best 20 = .ok (.if_icmp .le 5, 3) := by decide +kernel
theorem dX11_best_23 : decode cX11_best 23 = .ok (.iconst (-1), 1) := by decide +kernel
theorem dX11_best_24 : decode cX11_best 24 = .ok (.ireturn, 1) := by decide +kernel
theorem dX11_best_25 : decode cX11_best 25 = .ok (.aload_n 0, 1) := by decide +kernel
theorem dX11_best_26 : decode cX11_best 26 = .ok (.iload_n 1, 1) := by decide +kernel
theorem dX11_best_27 : decode cX11_best 27 = .ok (.invokevirtual 153, 3) := by decide +kernel
theorem dX11_best_30 : decode cX11_best 30 = .ok (.istore 4, 2) := by decide +kernel
theorem dX11_best_32 : decode cX11_best 32 = .ok (.iload 4, 2) := by decide +kernel
theorem dX11_best_34 : decode cX11_best 34 = .ok (.ifCond .eq 6, 3) := by decide +kernel
theorem dX11_best_37 : decode cX11_best 37 = .ok (.iload 4, 2) := by decide +kernel
theorem dX11_best_39 : decode cX11_best 39 = .ok (.ireturn, 1) := by decide +kernel
set_option maxRecDepth 20000 in
theorem ggX11_middle_X11_isShelf : GoodIn wsX11_middle wsX11_isShelf := goodIn_r _ [7] (by decide +kernel) (by decide +kernel)
set_option maxRecDepth 20000 in
theorem gX11_middle_X11_isShelf : GoodIn wsX11_middle (va_wsS RX11 97 yX11_isShelf wsX11_isShelf) := goodIn_app (goodIn_of _ (by decide +kernel)) ggX11_middle_X11_isShelf
set_option maxRecDepth 20000 in
theorem ggX11_middle_X11_isPart : GoodIn wsX11_middle wsX11_isPart := goodIn_r _ [10] (by decide +kernel) (by decide +kernel)
set_option maxRecDepth 20000 in
theorem gX11_middle_X11_isPart : GoodIn wsX11_middle (va_wsS RX11 123 yX11_isPart wsX11_isPart) := goodIn_app (goodIn_of _ (by decide +kernel)) ggX11_middle_X11_isPart
set_option maxRecDepth 20000 in
theorem ggX11_middle_X11_readWeek : GoodIn wsX11_middle wsX11_readWeek := goodIn_r _ [14, 1, 15, 16, 17, 18, 19, 20, 6, 21, 22, 23, 24, 25, 26, 27, 28, 29, 30, 31, 32, 33, 34, 35, 36, 37, 58, 59, 60, 61, 62, 63, 64, 65, 66, 67, 72, 73, 74, 75, 76, 77, 78, 79, 80, 68, 69, 70, 71] (by decide +kernel) (by decide +kernel)
set_option maxRecDepth 20000 in
theorem gX11_middle_X11_readWeek : GoodIn wsX11_middle (wsV RX11 153 RX11 yX11_readWeek wsX11_readWeek) := goodIn_app (goodIn_of _ (by decide +kernel)) ggX11_middle_X11_readWeek
theorem dX11_middle_0 : decode cX11_middle 0 = .ok (.iload_n 1, 1) := by decide +kernel
theorem dX11_middle_1 : decode cX11_middle 1 = .ok (.invokestatic 97, 3) := by decide +kernel
theorem dX11_middle_4 : decode cX11_middle 4 = .ok (.ifCond .eq 10, 3) := by decide +kernel
theorem dX11_middle_7 : decode cX11_middle 7 = .ok (.iload_n 2, 1) := by decide +kernel
theorem dX11_middle_8 : decode cX11_middle 8 = .ok (.invokestatic 123, 3) := by decide +kernel
theorem dX11_middle_11 : decode cX11_middle 11 = .ok (.ifCond .ne 5, 3) := by decide +kernel
theorem dX11_middle_14 : decode cX11_middle 14 = .ok (.iconst (-1), 1) := by decide +kernel
theorem dX11_middle_15 : decode cX11_middle 15 = .ok (.ireturn, 1) := by decide +kernel
theorem dX11_middle_16 : decode cX11_middle 16 = .ok (.aload_n 0, 1) := by decide +kernel
theorem dX11_middle_17 : decode cX11_middle 17 = .ok (.iload_n 1, 1) := by decide +kernel
theorem dX11_middle_18 : decode cX11_middle 18 = .ok (.invokevirtual 153, 3) := by decide +kernel
theorem dX11_middle_21 : decode cX11_middle 21 = .ok (.istore_n 3, 1) := by decide +kernel
theorem dX11_middle_22 : decode cX11_middle 22 = .ok (.iload_n 3, 1) := by decide +kernel
theorem dX11_middle_23 : decode cX11_middle 23 = .ok (.ifCond .eq 5, 3) := by decide +kernel
theorem dX11_middle_26 : decode cX11_middle 26 = .ok (.iload_n 3, 1) := by decide +kernel
theorem dX11_middle_27 : decode cX11_middle 27 = .ok (.ireturn, 1) := by decide +kernel
set_option maxRecDepth 20000 in
theorem ggX11_shifts_X11_isShelf : GoodIn wsX11_shifts wsX11_isShelf := goodIn_r _ [7] (by decide +kernel) (by decide +kernel)
set_option maxRecDepth 20000 in
theorem gX11_shifts_X11_isShelf : GoodIn wsX11_shifts (va_wsS RX11 97 yX11_isShelf wsX11_isShelf) := goodIn_app (goodIn_of _ (by decide +kernel)) ggX11_shifts_X11_isShelf
set_option maxRecDepth 20000 in
theorem ggX11_shifts_X11_isPart : GoodIn wsX11_shifts wsX11_isPart := goodIn_r _ [10] (by decide +kernel) (by decide +kernel)
set_option maxRecDepth 20000 in
theorem gX11_shifts_X11_isPart : GoodIn wsX11_shifts (va_wsS RX11 123 yX11_isPart wsX11_isPart) := goodIn_app (goodIn_of _ (by decide +kernel)) ggX11_shifts_X11_isPart
set_option maxRecDepth 20000 in
theorem ggX11_shifts_X11_readWeek : GoodIn wsX11_shifts wsX11_readWeek := goodIn_r _ [14, 1, 15, 16, 17, 18, 19, 20, 6, 21, 22, 23, 24, 25, 26, 27, 28, 29, 30, 31, 32, 33, 34, 35, 36, 37, 113, 114, 115, 116, 117, 118, 119, 120, 121, 122, 127, 128, 129, 130, 131, 132, 133, 134, 135, 123, 124, 125, 126] (by decide +kernel) (by decide +kernel)
set_option maxRecDepth 20000 in
theorem gX11_shifts_X11_readWeek : GoodIn wsX11_shifts (wsV RX11 153 RX11 yX11_readWeek wsX11_readWeek) := goodIn_app (goodIn_of _ (by decide +kernel)) ggX11_shifts_X11_readWeek
theorem dX11_shifts_0 : decode cX11_shifts 0 = .ok (.iload_n 1, 1) := by decide +kernel
theorem dX11_shifts_1 : decode cX11_shifts 1 = .ok (.invokestatic 97, 3) := by decide +kernel
theorem dX11_shifts_4 : decode cX11_shifts 4 = .ok (.ifCond .eq 15, 3) := by decide +kernel
theorem dX11_shifts_7 : decode cX11_shifts 7 = .ok (.iload_n 2, 1) := by decide +kernel
theorem dX11_shifts_8 : decode cX11_shifts 8 = .ok (.invokestatic 123, 3) := by decide +kernel
theorem dX11_shifts_11 : decode cX11_shifts 11 = .ok (.ifCond .eq 8, 3) := by decide +kernel
theorem dX11_shifts_14 : decode cX11_shifts 14 = .ok (.iload_n 3, 1) := by decide +kernel
theorem dX11_shifts_15 : decode cX11_shifts 15 = .ok (.iconst (-1), 1) := by decide +kernel
theorem dX11_shifts_16 : decode cX11_shifts 16 = .ok (.if_icmp .ge 5, 3) := by decide +kernel
theorem dX11_shifts_19 : decode cX11_shifts 19 = .ok (.iconst (-1), 1) := by decide +kernel
theorem dX11_shifts_20 : decode cX11_shifts 20 = .ok (.ireturn, 1) := by decide +kernel
theorem dX11_shifts_21 : decode cX11_shifts 21 = .ok (.aload_n 0, 1) := by decide +kernel
theorem dX11_shifts_22 : decode cX11_shifts 22 = .ok (.iload_n 1, 1) := by decide +kernel
theorem dX11_shifts_23 : decode cX11_shifts 23 = .ok (.invokevirtual 153, 3) := by decide +kernel
theorem dX11_shifts_26 : decode cX11_shifts 26 = .ok (.istore 4, 2) := by decide +kernel
theorem dX11_shifts_28 : decode cX11_shifts 28 = .ok (.iload 4, 2) := by decide +kernel
theorem dX11_shifts_30 : decode cX11_shifts 30 = .ok (.ifCond .eq 6, 3) := by decide +kernel
theorem dX11_shifts_33 : decode cX11_shifts 33 = .ok (.iload 4, 2) := by decide +kernel
theorem dX11_shifts_35 : decode cX11_shifts 35 = .ok (.ireturn, 1) := by decide +kernel
set_option maxRecDepth 20000 in
theorem ggX11_once_X11_isShelf : GoodIn wsX11_once wsX11_isShelf := goodIn_r _ [5] (by decide +kernel) (by decide +kernel)
set_option maxRecDepth 20000 in
theorem gX11_once_X11_isShelf : GoodIn wsX11_once (va_wsS RX11 97 yX11_isShelf wsX11_isShelf) := goodIn_app (goodIn_of _ (by decide +kernel)) ggX11_once_X11_isShelf
set_option maxRecDepth 20000 in
theorem ggX11_once_X11_isPart : GoodIn wsX11_once wsX11_isPart := goodIn_r _ [8] (by decide +kernel) (by decide +kernel)
set_option maxRecDepth 20000 in
theorem gX11_once_X11_isPart : GoodIn wsX11_once (va_wsS RX11 123 yX11_isPart wsX11_isPart) := goodIn_app (goodIn_of _ (by decide +kernel)) ggX11_once_X11_isPart
set_option maxRecDepth 20000 in
theorem ggX11_once_X11_readWeek : GoodIn wsX11_once wsX11_readWeek := goodIn_r _ [12, 13, 14, 15, 16, 17, 18, 19, 4, 20, 21, 22, 23, 24, 25, 26, 27, 28, 29, 30, 31, 32, 33, 34, 35, 36, 108, 109, 110, 111, 112, 113, 114, 115, 116, 117, 118, 119, 120, 121, 122, 123, 124, 125, 126, 127, 128, 129, 130] (by decide +kernel) (by decide +kernel)
set_option maxRecDepth 20000 in
theorem gX11_once_X11_readWeek : GoodIn wsX11_once (wsV RX11 153 RX11 yX11_readWeek wsX11_readWeek) := goodIn_app (goodIn_of _ (by decide +kernel)) ggX11_once_X11_readWeek
theorem dX11_once_0 : decode cX11_once 0 = .ok (.iload_n 1, 1) := by decide +kernel
theorem dX11_once_1 : decode cX11_once 1 = .ok (.invokestatic 97, 3) := by decide +kernel
theorem dX11_once_4 : decode cX11_once 4 = .ok (.ifCond .eq 19, 3) := by decide +kernel
theorem dX11_once_7 : decode cX11_once 7 = .ok (.iload_n 2, 1) := by decide +kernel
theorem dX11_once_8 : decode cX11_once 8 = .ok (.invokestatic 123, 3) := by decide +kernel
theorem dX11_once_11 : decode cX11_once 11 = .ok (.ifCond .eq 12, 3) := by decide +kernel
theorem dX11_once_14 : decode cX11_once 14 = .ok (.iload_n 3, 1) := by decide +kernel
theorem dX11_once_15 : decode cX11_once 15 = .ok (.ifCond .lt 8, 3) := by decide +kernel
theorem dX11_once_18 : decode cX11_once 18 = .ok (.iload_n 3, 1) := by decide +kernel
theorem dX11_once_19 : decode cX11_once 19 = .ok (.iconst 2, 1) := by decide +kernel
theorem dX11_once_20 : decode cX11_once 20 = .ok (.if_icmp .le 5, 3) := by decide +kernel
theorem dX11_once_23 : decode cX11_once 23 = .ok (.iconst (-1), 1) := by decide +kernel
theorem dX11_once_24 : decode cX11_once 24 = .ok (.ireturn, 1) := by decide +kernel
theorem dX11_once_25 : decode cX11_once 25 = .ok (.aload_n 0, 1) := by decide +kernel
theorem dX11_once_26 : decode cX11_once 26 = .ok (.iload_n 1, 1) := by decide +kernel
theorem dX11_once_27 : decode cX11_once 27 = .ok (.invokevirtual 153, 3) := by decide +kernel
theorem dX11_once_30 : decode cX11_once 30 = .ok (.istore 4, 2) := by decide +kernel
theorem dX11_once_32 : decode cX11_once 32 = .ok (.iload 4, 2) := by decide +kernel
theorem dX11_once_34 : decode cX11_once 34 = .ok (.ifCond .eq 8, 3) := by decide +kernel
theorem dX11_once_37 : decode cX11_once 37 = .ok (.iload 4, 2) := by decide +kernel
theorem dX11_once_39 : decode cX11_once 39 = .ok (.goto 12, 3) := by decide +kernel
theorem dX11_once_51 : decode cX11_once 51 = .ok (.ireturn, 1) := by decide +kernel
set_option maxRecDepth 20000 in
theorem ggX11_week_X11_isShelf : GoodIn wsX11_week wsX11_isShelf := goodIn_r _ [9] (by decide +kernel) (by decide +kernel)
set_option maxRecDepth 20000 in
theorem gX11_week_X11_isShelf : GoodIn wsX11_week (va_wsS RX11 97 yX11_isShelf wsX11_isShelf) := goodIn_app (goodIn_of _ (by decide +kernel)) ggX11_week_X11_isShelf
set_option maxRecDepth 20000 in
theorem ggX11_week_X11_readWeek : GoodIn wsX11_week wsX11_readWeek := goodIn_r _ [13, 2, 14, 15, 16, 17, 18, 19, 8, 20, 21, 22, 23, 24, 25, 26, 27, 28, 29, 30, 31, 32, 33, 34, 35, 36, 144, 145, 146, 147, 148, 149, 150, 151, 152, 153, 169, 170, 171, 172, 173, 174, 175, 176, 177, 154, 155, 156, 157] (by decide +kernel) (by decide +kernel)
set_option maxRecDepth 20000 in
theorem gX11_week_X11_readWeek : GoodIn wsX11_week (wsV RX11 153 RX11 yX11_readWeek wsX11_readWeek) := goodIn_app (goodIn_of _ (by decide +kernel)) ggX11_week_X11_readWeek
theorem dX11_week_0 : decode cX11_week 0 = .ok (.iload_n 1, 1) := by decide +kernel
theorem dX11_week_1 : decode cX11_week 1 = .ok (.invokestatic 97, 3) := by decide +kernel
theorem dX11_week_4 : decode cX11_week 4 = .ok (.ifCond .eq 12, 3) := by decide +kernel
theorem dX11_week_7 : decode cX11_week 7 = .ok (.iload_n 2, 1) := by decide +kernel
theorem dX11_week_8 : decode cX11_week 8 = .ok (.ifCond .lt 8, 3) := by decide +kernel
theorem dX11_week_11 : decode cX11_week 11 = .ok (.iload_n 2, 1) := by decide +kernel
theorem dX11_week_12 : decode cX11_week 12 = .ok (.iconst 2, 1) := by decide +kernel
theorem dX11_week_13 : decode cX11_week 13 = .ok (.if_icmp .le 5, 3) := by decide +kernel
theorem dX11_week_16 : decode cX11_week 16 = .ok (.iconst (-1), 1) := by decide +kernel
theorem dX11_week_17 : decode cX11_week 17 = .ok (.ireturn, 1) := by decide +kernel
theorem dX11_week_18 : decode cX11_week 18 = .ok (.aload_n 0, 1) := by decide +kernel
theorem dX11_week_19 : decode cX11_week 19 = .ok (.iload_n 1, 1) := by decide +kernel
theorem dX11_week_20 : decode cX11_week 20 = .ok (.invokevirtual 153, 3) := by decide +kernel
theorem dX11_week_23 : decode cX11_week 23 = .ok (.istore_n 3, 1) := by decide +kernel
theorem dX11_week_24 : decode cX11_week 24 = .ok (.iload_n 3, 1) := by decide +kernel
theorem dX11_week_25 : decode cX11_week 25 = .ok (.ifCond .eq 5, 3) := by decide +kernel
theorem dX11_week_28 : decode cX11_week 28 = .ok (.iload_n 3, 1) := by decide +kernel
theorem dX11_week_29 : decode cX11_week 29 = .ok (.ireturn, 1) := by decide +kernel
set_option maxRecDepth 20000 in
theorem ggX11_stands_X11_isShelf : GoodIn wsX11_stands wsX11_isShelf := goodIn_r _ [8] (by decide +kernel) (by decide +kernel)
set_option maxRecDepth 20000 in
theorem gX11_stands_X11_isShelf : GoodIn wsX11_stands (va_wsS RX11 97 yX11_isShelf wsX11_isShelf) := goodIn_app (goodIn_of _ (by decide +kernel)) ggX11_stands_X11_isShelf
set_option maxRecDepth 20000 in
theorem ggX11_stands_X11_isPart : GoodIn wsX11_stands wsX11_isPart := goodIn_r _ [11] (by decide +kernel) (by decide +kernel)
set_option maxRecDepth 20000 in
theorem gX11_stands_X11_isPart : GoodIn wsX11_stands (va_wsS RX11 123 yX11_isPart wsX11_isPart) := goodIn_app (goodIn_of _ (by decide +kernel)) ggX11_stands_X11_isPart
set_option maxRecDepth 20000 in
theorem ggX11_stands_X11_readWeek : GoodIn wsX11_stands wsX11_readWeek := goodIn_r _ [15, 1, 16, 17, 18, 19, 20, 21, 7, 22, 23, 24, 25, 26, 27, 28, 29, 30, 31, 32, 33, 34, 35, 36, 37, 38, 142, 143, 144, 145, 146, 147, 148, 149, 150, 151, 167, 168, 169, 170, 171, 172, 173, 174, 175, 152, 153, 154, 155] (by decide +kernel) (by decide +kernel)
set_option maxRecDepth 20000 in
theorem gX11_stands_X11_readWeek : GoodIn wsX11_stands (wsV RX11 153 RX11 yX11_readWeek wsX11_readWeek) := goodIn_app (goodIn_of _ (by decide +kernel)) ggX11_stands_X11_readWeek
theorem dX11_stands_0 : decode cX11_stands 0 = .ok (.iload_n 1, 1) := by decide +kernel
theorem dX11_stands_1 : decode cX11_stands 1 = .ok (.invokestatic 97, 3) := by decide +kernel
theorem dX11_stands_4 : decode cX11_stands 4 = .ok (.ifCond .eq 14, 3) := by decide +kernel
theorem dX11_stands_7 : decode cX11_stands 7 = .ok (.iload_n 2, 1) := by decide +kernel
theorem dX11_stands_8 : decode cX11_stands 8 = .ok (.invokestatic 123, 3) := by decide +kernel
theorem dX11_stands_11 : decode cX11_stands 11 = .ok (.ifCond .eq 7, 3) := by decide +kernel
theorem dX11_stands_14 : decode cX11_stands 14 = .ok (.iload_n 3, 1) := by decide +kernel
theorem dX11_stands_15 : decode cX11_stands 15 = .ok (.ifCond .ge 5, 3) := by decide +kernel
theorem dX11_stands_18 : decode cX11_stands 18 = .ok (.iconst (-1), 1) := by decide +kernel
theorem dX11_stands_19 : decode cX11_stands 19 = .ok (.ireturn, 1) := by decide +kernel
theorem dX11_stands_20 : decode cX11_stands 20 = .ok (.aload_n 0, 1) := by decide +kernel
theorem dX11_stands_21 : decode cX11_stands 21 = .ok (.iload_n 1, 1) := by decide +kernel
theorem dX11_stands_22 : decode cX11_stands 22 = .ok (.invokevirtual 153, 3) := by decide +kernel
theorem dX11_stands_25 : decode cX11_stands 25 = .ok (.istore 4, 2) := by decide +kernel
theorem dX11_stands_27 : decode cX11_stands 27 = .ok (.iload 4, 2) := by decide +kernel
theorem dX11_stands_29 : decode cX11_stands 29 = .ok (.ifCond .eq 6, 3) := by decide +kernel
theorem dX11_stands_32 : decode cX11_stands 32 = .ok (.iload 4, 2) := by decide +kernel
theorem dX11_stands_34 : decode cX11_stands 34 = .ok (.ireturn, 1) := by decide +kernel
set_option maxRecDepth 20000 in
theorem ggX11_pays_X11_isShelf : GoodIn wsX11_pays wsX11_isShelf := goodIn_r _ [6] (by decide +kernel) (by decide +kernel)
set_option maxRecDepth 20000 in
theorem gX11_pays_X11_isShelf : GoodIn wsX11_pays (va_wsS RX11 97 yX11_isShelf wsX11_isShelf) := goodIn_app (goodIn_of _ (by decide +kernel)) ggX11_pays_X11_isShelf
set_option maxRecDepth 20000 in
theorem ggX11_pays_X0_has : GoodIn wsX11_pays wsX0_has := goodIn_r _ [11, 12, 157, 158, 159, 160, 161] (by decide +kernel) (by decide +kernel)
set_option maxRecDepth 20000 in
theorem gX11_pays_X0_has : GoodIn wsX11_pays (wsV RX11 146 RX0 yX0_has wsX0_has) := goodIn_app (goodIn_of _ (by decide +kernel)) ggX11_pays_X0_has
theorem dX11_pays_0 : decode cX11_pays 0 = .ok (.iload_n 1, 1) := by decide +kernel
theorem dX11_pays_1 : decode cX11_pays 1 = .ok (.invokestatic 97, 3) := by decide +kernel
theorem dX11_pays_4 : decode cX11_pays 4 = .ok (.ifCond .eq 23, 3) := by decide +kernel
theorem dX11_pays_7 : decode cX11_pays 7 = .ok (.aload_n 0, 1) := by decide +kernel
theorem dX11_pays_8 : decode cX11_pays 8 = .ok (.getfield 12, 3) := by decide +kernel
theorem dX11_pays_11 : decode cX11_pays 11 = .ok (.iload_n 2, 1) := by decide +kernel
theorem dX11_pays_12 : decode cX11_pays 12 = .ok (.invokevirtual 146, 3) := by decide +kernel
theorem dX11_pays_15 : decode cX11_pays 15 = .ok (.ifCond .eq 12, 3) := by decide +kernel
theorem dX11_pays_27 : decode cX11_pays 27 = .ok (.iconst (-1), 1) := by decide +kernel
theorem dX11_pays_28 : decode cX11_pays 28 = .ok (.ireturn, 1) := by decide +kernel
set_option maxRecDepth 20000 in
theorem ggX11_memories_X11_isShelf : GoodIn wsX11_memories wsX11_isShelf := goodIn_r _ [5] (by decide +kernel) (by decide +kernel)
set_option maxRecDepth 20000 in
theorem gX11_memories_X11_isShelf : GoodIn wsX11_memories (va_wsS RX11 97 yX11_isShelf wsX11_isShelf) := goodIn_app (goodIn_of _ (by decide +kernel)) ggX11_memories_X11_isShelf
set_option maxRecDepth 20000 in
theorem ggX11_memories_X11_readWeek : GoodIn wsX11_memories wsX11_readWeek := goodIn_r _ [9, 10, 11, 12, 13, 14, 15, 16, 4, 17, 18, 19, 20, 21, 22, 23, 24, 25, 26, 27, 28, 29, 30, 31, 32, 33, 154, 155, 156, 157, 158, 159, 160, 161, 162, 163, 164, 165, 166, 167, 168, 169, 170, 171, 172, 173, 174, 175, 176] (by decide +kernel) (by decide +kernel)
set_option maxRecDepth 20000 in
theorem gX11_memories_X11_readWeek : GoodIn wsX11_memories (wsV RX11 153 RX11 yX11_readWeek wsX11_readWeek) := goodIn_app (goodIn_of _ (by decide +kernel)) ggX11_memories_X11_readWeek
theorem dX11_memories_0 : decode cX11_memories 0 = .ok (.iload_n 1, 1) := by decide +kernel
theorem dX11_memories_1 : decode cX11_memories 1 = .ok (.invokestatic 97, 3) := by decide +kernel
theorem dX11_memories_4 : decode cX11_memories 4 = .ok (.ifCond .eq 21, 3) := by decide +kernel
theorem dX11_memories_7 : decode cX11_memories 7 = .ok (.iload_n 2, 1) := by decide +kernel
theorem dX11_memories_8 : decode cX11_memories 8 = .ok (.ifCond .lt 17, 3) := by decide +kernel
theorem dX11_memories_11 : decode cX11_memories 11 = .ok (.iload_n 2, 1) := by decide +kernel
theorem dX11_memories_12 : decode cX11_memories 12 = .ok (.iconst 3, 1) := by decide +kernel
theorem dX11_memories_13 : decode cX11_memories 13 = .ok (.if_icmp .gt 12, 3) := by decide +kernel
theorem dX11_memories_16 : decode cX11_memories 16 = .ok (.iload_n 3, 1) := by decide +kernel
theorem dX11_memories_17 : decode cX11_memories 17 = .ok (.ifCond .lt 8, 3) := by decide +kernel
theorem dX11_memories_20 : decode cX11_memories 20 = .ok (.iload_n 3, 1) := by decide +kernel
theorem dX11_memories_21 : decode cX11_memories 21 = .ok (.iconst 1, 1) := by decide +kernel
theorem dX11_memories_22 : decode cX11_memories 22 = .ok (.if_icmp .le 5, 3) := by decide +kernel
theorem dX11_memories_25 : decode cX11_memories 25 = .ok (.iconst (-1), 1) := by decide +kernel
theorem dX11_memories_26 : decode cX11_memories 26 = .ok (.ireturn, 1) := by decide +kernel
theorem dX11_memories_27 : decode cX11_memories 27 = .ok (.aload_n 0, 1) := by decide +kernel
theorem dX11_memories_28 : decode cX11_memories 28 = .ok (.iload_n 1, 1) := by decide +kernel
theorem dX11_memories_29 : decode cX11_memories 29 = .ok (.invokevirtual 153, 3) := by decide +kernel
theorem dX11_memories_32 : decode cX11_memories 32 = .ok (.istore 4, 2) := by decide +kernel
theorem dX11_memories_34 : decode cX11_memories 34 = .ok (.iload 4, 2) := by decide +kernel
theorem dX11_memories_36 : decode cX11_memories 36 = .ok (.ifCond .eq 8, 3) := by decide +kernel
theorem dX11_memories_39 : decode cX11_memories 39 = .ok (.iload 4, 2) := by decide +kernel
theorem dX11_memories_41 : decode cX11_memories 41 = .ok (.goto 12, 3) := by decide +kernel
theorem dX11_memories_53 : decode cX11_memories 53 = .ok (.ireturn, 1) := by decide +kernel
set_option maxRecDepth 20000 in
theorem ggX11_marked_X11_isShelf : GoodIn wsX11_marked wsX11_isShelf := goodIn_r _ [5] (by decide +kernel) (by decide +kernel)
set_option maxRecDepth 20000 in
theorem gX11_marked_X11_isShelf : GoodIn wsX11_marked (va_wsS RX11 97 yX11_isShelf wsX11_isShelf) := goodIn_app (goodIn_of _ (by decide +kernel)) ggX11_marked_X11_isShelf
set_option maxRecDepth 20000 in
theorem ggX11_marked_X11_readWeek : GoodIn wsX11_marked wsX11_readWeek := goodIn_r _ [9, 10, 11, 12, 13, 14, 15, 16, 4, 17, 18, 19, 20, 21, 22, 23, 24, 25, 26, 27, 28, 29, 30, 31, 32, 33, 142, 143, 144, 145, 146, 147, 148, 149, 150, 151, 152, 153, 154, 155, 156, 157, 158, 159, 160, 161, 162, 163, 164] (by decide +kernel) (by decide +kernel)
set_option maxRecDepth 20000 in
theorem gX11_marked_X11_readWeek : GoodIn wsX11_marked (wsV RX11 153 RX11 yX11_readWeek wsX11_readWeek) := goodIn_app (goodIn_of _ (by decide +kernel)) ggX11_marked_X11_readWeek
theorem dX11_marked_0 : decode cX11_marked 0 = .ok (.iload_n 1, 1) := by decide +kernel
theorem dX11_marked_1 : decode cX11_marked 1 = .ok (.invokestatic 97, 3) := by decide +kernel
theorem dX11_marked_4 : decode cX11_marked 4 = .ok (.ifCond .ne 5, 3) := by decide +kernel
theorem dX11_marked_7 : decode cX11_marked 7 = .ok (.iconst (-1), 1) := by decide +kernel
theorem dX11_marked_8 : decode cX11_marked 8 = .ok (.ireturn, 1) := by decide +kernel
theorem dX11_marked_9 : decode cX11_marked 9 = .ok (.aload_n 0, 1) := by decide +kernel
theorem dX11_marked_10 : decode cX11_marked 10 = .ok (.iload_n 1, 1) := by decide +kernel
theorem dX11_marked_11 : decode cX11_marked 11 = .ok (.invokevirtual 153, 3) := by decide +kernel
theorem dX11_marked_14 : decode cX11_marked 14 = .ok (.istore_n 2, 1) := by decide +kernel
theorem dX11_marked_15 : decode cX11_marked 15 = .ok (.iload_n 2, 1) := by decide +kernel
theorem dX11_marked_16 : decode cX11_marked 16 = .ok (.ifCond .eq 7, 3) := by decide +kernel
theorem dX11_marked_19 : decode cX11_marked 19 = .ok (.iload_n 2, 1) := by decide +kernel
theorem dX11_marked_20 : decode cX11_marked 20 = .ok (.goto 10, 3) := by decide +kernel
theorem dX11_marked_30 : decode cX11_marked 30 = .ok (.ireturn, 1) := by decide +kernel
set_option maxRecDepth 20000 in
theorem ggX11_chairs_X11_isShelf : GoodIn wsX11_chairs wsX11_isShelf := goodIn_r _ [6] (by decide +kernel) (by decide +kernel)
set_option maxRecDepth 20000 in
theorem gX11_chairs_X11_isShelf : GoodIn wsX11_chairs (va_wsS RX11 97 yX11_isShelf wsX11_isShelf) := goodIn_app (goodIn_of _ (by decide +kernel)) ggX11_chairs_X11_isShelf
set_option maxRecDepth 20000 in
theorem ggX11_chairs_X11_isPart : GoodIn wsX11_chairs wsX11_isPart := goodIn_r _ [9] (by decide +kernel) (by decide +kernel)
set_option maxRecDepth 20000 in
theorem gX11_chairs_X11_isPart : GoodIn wsX11_chairs (va_wsS RX11 123 yX11_isPart wsX11_isPart) := goodIn_app (goodIn_of _ (by decide +kernel)) ggX11_chairs_X11_isPart
set_option maxRecDepth 20000 in
theorem ggX11_chairs_X0_has : GoodIn wsX11_chairs wsX0_has := goodIn_r _ [14, 15, 132, 133, 134, 135, 136] (by decide +kernel) (by decide +kernel)
set_option maxRecDepth 20000 in
theorem gX11_chairs_X0_has : GoodIn wsX11_chairs (wsV RX11 146 RX0 yX0_has wsX0_has) := goodIn_app (goodIn_of _ (by decide +kernel)) ggX11_chairs_X0_has
set_option maxRecDepth 20000 in
theorem ggX11_chairs_X11_readWeek : GoodIn wsX11_chairs wsX11_readWeek := goodIn_r _ [19, 20, 21, 1, 22, 23, 24, 25, 5, 26, 27, 28, 29, 30, 31, 32, 33, 34, 35, 36, 37, 38, 39, 40, 41, 42, 122, 123, 124, 125, 126, 127, 128, 129, 130, 131, 132, 133, 134, 135, 136, 137, 138, 139, 140, 141, 142, 143, 144] (by decide +kernel) (by decide +kernel)
set_option maxRecDepth 20000 in
theorem gX11_chairs_X11_readWeek : GoodIn wsX11_chairs (wsV RX11 153 RX11 yX11_readWeek wsX11_readWeek) := goodIn_app (goodIn_of _ (by decide +kernel)) ggX11_chairs_X11_readWeek
theorem dX11_chairs_0 : decode cX11_chairs 0 = .ok (.iload_n 2, 1) := by decide +kernel
theorem dX11_chairs_1 : decode cX11_chairs 1 = .ok (.bipush 10, 2) := by decide +kernel
theorem dX11_chairs_3 : decode cX11_chairs 3 = .ok (.irem, 1) := by decide +kernel
theorem dX11_chairs_4 : decode cX11_chairs 4 = .ok (.istore 4, 2) := by decide +kernel
theorem dX11_chairs_6 : decode cX11_chairs 6 = .ok (.iload_n 1, 1) := by decide +kernel
theorem dX11_chairs_7 : decode cX11_chairs 7 = .ok (.invokestatic 97, 3) := by decide +kernel
theorem dX11_chairs_10 : decode cX11_chairs 10 = .ok (.ifCond .eq 29, 3) := by decide +kernel
theorem dX11_chairs_13 : decode cX11_chairs 13 = .ok (.iload_n 2, 1) := by decide +kernel
theorem dX11_chairs_14 : decode cX11_chairs 14 = .ok (.ifCond .lt 25, 3) := by decide +kernel
theorem dX11_chairs_17 : decode cX11_chairs 17 = .ok (.iload_n 2, 1) := by decide +kernel
theorem dX11_chairs_18 : decode cX11_chairs 18 = .ok (.bipush 10, 2) := by decide +kernel
theorem dX11_chairs_20 : decode cX11_chairs 20 = .ok (.idiv, 1) := by decide +kernel
theorem dX11_chairs_21 : decode cX11_chairs 21 = .ok (.invokestatic 123, 3) := by decide +kernel
theorem dX11_chairs_24 : decode cX11_chairs 24 = .ok (.ifCond .eq 15, 3) := by decide +kernel
theorem dX11_chairs_27 : decode cX11_chairs 27 = .ok (.iload 4, 2) := by decide +kernel
theorem dX11_chairs_29 : decode cX11_chairs 29 = .ok (.iconst 1, 1) := by decide +kernel
theorem dX11_chairs_30 : decode cX11_chairs 30 = .ok (.if_icmp .lt 9, 3) := by decide +kernel
theorem dX11_chairs_33 : decode cX11_chairs 33 = .ok (.iload 4, 2) := by decide +kernel
theorem dX11_chairs_35 : decode cX11_chairs 35 = .ok (.iconst 3, 1) := by decide +kernel
theorem dX11_chairs_36 : decode cX11_chairs 36 = .ok (.if_icmp .le 5, 3) := by decide +kernel
theorem dX11_chairs_39 : decode cX11_chairs 39 = .ok (.iconst (-1), 1) := by decide +kernel
theorem dX11_chairs_40 : decode cX11_chairs 40 = .ok (.ireturn, 1) := by decide +kernel
theorem dX11_chairs_41 : decode cX11_chairs 41 = .ok (.iload_n 3, 1) := by decide +kernel
theorem dX11_chairs_42 : decode cX11_chairs 42 = .ok (.iconst (-1), 1) := by decide +kernel
theorem dX11_chairs_43 : decode cX11_chairs 43 = .ok (.if_icmp .eq 16, 3) := by decide +kernel
theorem dX11_chairs_46 : decode cX11_chairs 46 = .ok (.aload_n 0, 1) := by decide +kernel
theorem dX11_chairs_47 : decode cX11_chairs 47 = .ok (.getfield 12, 3) := by decide +kernel
theorem dX11_chairs_50 : decode cX11_chairs 50 = .ok (.iload_n 3, 1) := by decide +kernel
theorem dX11_chairs_51 : decode cX11_chairs 51 = .ok (.invokevirtual 146, 3) := by decide +kernel
theorem dX11_chairs_54 : decode cX11_chairs 54 = .ok (.ifCond .ne 5, 3) := by decide +kernel
theorem dX11_chairs_57 : decode cX11_chairs 57 = .ok (.iconst (-1), 1) := by decide +kernel
theorem dX11_chairs_58 : decode cX11_chairs 58 = .ok (.ireturn, 1) := by decide +kernel
theorem dX11_chairs_59 : decode cX11_chairs 59 = .ok (.aload_n 0, 1) := by decide +kernel
theorem dX11_chairs_60 : decode cX11_chairs 60 = .ok (.iload_n 1, 1) := by decide +kernel
theorem dX11_chairs_61 : decode cX11_chairs 61 = .ok (.invokevirtual 153, 3) := by decide +kernel
theorem dX11_chairs_64 : decode cX11_chairs 64 = .ok (.istore 5, 2) := by decide +kernel
theorem dX11_chairs_66 : decode cX11_chairs 66 = .ok (.iload 5, 2) := by decide +kernel
theorem dX11_chairs_68 : decode cX11_chairs 68 = .ok (.ifCond .eq 8, 3) := by decide +kernel
theorem dX11_chairs_71 : decode cX11_chairs 71 = .ok (.iload 5, 2) := by decide +kernel
theorem dX11_chairs_73 : decode cX11_chairs 73 = .ok (.goto 17, 3) := by decide +kernel
theorem dX11_chairs_90 : decode cX11_chairs 90 = .ok (.ireturn, 1) := by decide +kernel
set_option maxRecDepth 20000 in
theorem ggX11_wilful_X11_isShelf : GoodIn wsX11_wilful wsX11_isShelf := goodIn_r _ [7] (by decide +kernel) (by decide +kernel)
set_option maxRecDepth 20000 in
theorem gX11_wilful_X11_isShelf : GoodIn wsX11_wilful (va_wsS RX11 97 yX11_isShelf wsX11_isShelf) := goodIn_app (goodIn_of _ (by decide +kernel)) ggX11_wilful_X11_isShelf
set_option maxRecDepth 20000 in
theorem ggX11_wilful_X0_has : GoodIn wsX11_wilful wsX0_has := goodIn_r _ [12, 13, 161, 162, 163, 164, 165] (by decide +kernel) (by decide +kernel)
set_option maxRecDepth 20000 in
theorem gX11_wilful_X0_has : GoodIn wsX11_wilful (wsV RX11 146 RX0 yX0_has wsX0_has) := goodIn_app (goodIn_of _ (by decide +kernel)) ggX11_wilful_X0_has
theorem dX11_wilful_0 : decode cX11_wilful 0 = .ok (.iload_n 1, 1) := by decide +kernel
theorem dX11_wilful_1 : decode cX11_wilful 1 = .ok (.invokestatic 97, 3) := by decide +kernel
theorem dX11_wilful_4 : decode cX11_wilful 4 = .ok (.ifCond .eq 21, 3) := by decide +kernel
theorem dX11_wilful_7 : decode cX11_wilful 7 = .ok (.aload_n 0, 1) := by decide +kernel
theorem dX11_wilful_8 : decode cX11_wilful 8 = .ok (.getfield 12, 3) := by decide +kernel
theorem dX11_wilful_11 : decode cX11_wilful 11 = .ok (.iload_n 2, 1) := by decide +kernel
theorem dX11_wilful_12 : decode cX11_wilful 12 = .ok (.invokevirtual 146, 3) := by decide +kernel
theorem dX11_wilful_15 : decode cX11_wilful 15 = .ok (.ifCond .eq 10, 3) := by decide +kernel
theorem dX11_wilful_25 : decode cX11_wilful 25 = .ok (.ldc 205, 2) := by decide +kernel
theorem dX11_wilful_27 : decode cX11_wilful 27 = .ok (.ireturn, 1) := by decide +kernel
set_option maxRecDepth 20000 in
theorem ggX11_who_X11_isShelf : GoodIn wsX11_who wsX11_isShelf := goodIn_r _ [7] (by decide +kernel) (by decide +kernel)
set_option maxRecDepth 20000 in
theorem gX11_who_X11_isShelf : GoodIn wsX11_who (va_wsS RX11 97 yX11_isShelf wsX11_isShelf) := goodIn_app (goodIn_of _ (by decide +kernel)) ggX11_who_X11_isShelf
set_option maxRecDepth 20000 in
theorem ggX11_who_X11_isPart : GoodIn wsX11_who wsX11_isPart := goodIn_r _ [10] (by decide +kernel) (by decide +kernel)
set_option maxRecDepth 20000 in
theorem gX11_who_X11_isPart : GoodIn wsX11_who (va_wsS RX11 123 yX11_isPart wsX11_isPart) := goodIn_app (goodIn_of _ (by decide +kernel)) ggX11_who_X11_isPart
set_option maxRecDepth 20000 in
theorem ggX11_who_X11_refusalOf : GoodIn wsX11_who wsX11_refusalOf := goodIn_r _ [14, 1, 15, 80, 81, 82, 83, 84, 85, 86, 87, 88, 89, 90, 91, 92, 93] (by decide +kernel) (by decide +kernel)
set_option maxRecDepth 20000 in
theorem gX11_who_X11_refusalOf : GoodIn wsX11_who (wsV RX11 209 RX11 yX11_refusalOf wsX11_refusalOf) := goodIn_app (goodIn_of _ (by decide +kernel)) ggX11_who_X11_refusalOf
theorem dX11_who_0 : decode cX11_who 0 = .ok (.iload_n 1, 1) := by decide +kernel
theorem dX11_who_1 : decode cX11_who 1 = .ok (.invokestatic 97, 3) := by decide +kernel
theorem dX11_who_4 : decode cX11_who 4 = .ok (.ifCond .eq 20, 3) := by decide +kernel
theorem dX11_who_7 : decode cX11_who 7 = .ok (.iload_n 2, 1) := by decide +kernel
theorem dX11_who_8 : decode cX11_who 8 = .ok (.invokestatic 123, 3) := by decide +kernel
theorem dX11_who_11 : decode cX11_who 11 = .ok (.ifCond .eq 13, 3) := by decide +kernel
theorem dX11_who_14 : decode cX11_who 14 = .ok (.iload_n 3, 1) := by decide +kernel
theorem dX11_who_15 : decode cX11_who 15 = .ok (.ifCond .lt 9, 3) := by decide +kernel
theorem dX11_who_18 : decode cX11_who 18 = .ok (.iload_n 3, 1) := by decide +kernel
theorem dX11_who_19 : decode cX11_who 19 = .ok (.bipush 12, 2) := by decide +kernel
theorem dX11_who_21 : decode cX11_who 21 = .ok (.if_icmp .lt 5, 3) := by decide +kernel
theorem dX11_who_24 : decode cX11_who 24 = .ok (.iconst (-1), 1) := by decide +kernel
theorem dX11_who_25 : decode cX11_who 25 = .ok (.ireturn, 1) := by decide +kernel
theorem dX11_who_26 : decode cX11_who 26 = .ok (.aload_n 0, 1) := by decide +kernel
theorem dX11_who_27 : decode cX11_who 27 = .ok (.iload_n 1, 1) := by decide +kernel
theorem dX11_who_28 : decode cX11_who 28 = .ok (.invokevirtual 209, 3) := by decide +kernel
theorem dX11_who_31 : decode cX11_who 31 = .ok (.istore 4, 2) := by decide +kernel
theorem dX11_who_33 : decode cX11_who 33 = .ok (.iload 4, 2) := by decide +kernel
theorem dX11_who_35 : decode cX11_who 35 = .ok (.ifCond .eq 6, 3) := by decide +kernel
theorem dX11_who_38 : decode cX11_who 38 = .ok (.iload 4, 2) := by decide +kernel
theorem dX11_who_40 : decode cX11_who 40 = .ok (.ireturn, 1) := by decide +kernel
set_option maxRecDepth 20000 in
theorem ggX11_judge_X11_isShelf : GoodIn wsX11_judge wsX11_isShelf := goodIn_r _ [5] (by decide +kernel) (by decide +kernel)
set_option maxRecDepth 20000 in
theorem gX11_judge_X11_isShelf : GoodIn wsX11_judge (va_wsS RX11 97 yX11_isShelf wsX11_isShelf) := goodIn_app (goodIn_of _ (by decide +kernel)) ggX11_judge_X11_isShelf
set_option maxRecDepth 20000 in
theorem ggX11_judge_X11_isPart : GoodIn wsX11_judge wsX11_isPart := goodIn_r _ [8] (by decide +kernel) (by decide +kernel)
set_option maxRecDepth 20000 in
theorem gX11_judge_X11_isPart : GoodIn wsX11_judge (va_wsS RX11 123 yX11_isPart wsX11_isPart) := goodIn_app (goodIn_of _ (by decide +kernel)) ggX11_judge_X11_isPart
set_option maxRecDepth 20000 in
theorem ggX11_judge_X11_refusalOf : GoodIn wsX11_judge wsX11_refusalOf := goodIn_r _ [12, 1, 13, 145, 146, 147, 148, 149, 150, 151, 152, 153, 154, 155, 156, 157, 158] (by decide +kernel) (by decide +kernel)
set_option maxRecDepth 20000 in
theorem gX11_judge_X11_refusalOf : GoodIn wsX11_judge (wsV RX11 209 RX11 yX11_refusalOf wsX11_refusalOf) := goodIn_app (goodIn_of _ (by decide +kernel)) ggX11_judge_X11_refusalOf
theorem dX11_judge_0 : decode cX11_judge 0 = .ok (.iload_n 1, 1) := by decide +kernel
theorem dX11_judge_1 : decode cX11_judge 1 = .ok (.bipush 10, 2) := by decide +kernel
theorem dX11_judge_3 : decode cX11_judge 3 = .ok (.idiv, 1) := by decide +kernel
theorem dX11_judge_4 : decode cX11_judge 4 = .ok (.istore_n 3, 1) := by decide +kernel
theorem dX11_judge_5 : decode cX11_judge 5 = .ok (.iload_n 1, 1) := by decide +kernel
theorem dX11_judge_6 : decode cX11_judge 6 = .ok (.bipush 10, 2) := by decide +kernel
theorem dX11_judge_8 : decode cX11_judge 8 = .ok (.irem, 1) := by decide +kernel
theorem dX11_judge_9 : decode cX11_judge 9 = .ok (.istore 4, 2) := by decide +kernel
theorem dX11_judge_11 : decode cX11_judge 11 = .ok (.iload_n 1, 1) := by decide +kernel
theorem dX11_judge_12 : decode cX11_judge 12 = .ok (.ifCond .lt 25, 3) := by decide +kernel
theorem dX11_judge_15 : decode cX11_judge 15 = .ok (.iload_n 3, 1) := by decide +kernel
theorem dX11_judge_16 : decode cX11_judge 16 = .ok (.invokestatic 97, 3) := by decide +kernel
theorem dX11_judge_19 : decode cX11_judge 19 = .ok (.ifCond .eq 18, 3) := by decide +kernel
theorem dX11_judge_22 : decode cX11_judge 22 = .ok (.iload 4, 2) := by decide +kernel
theorem dX11_judge_24 : decode cX11_judge 24 = .ok (.invokestatic 97, 3) := by decide +kernel
theorem dX11_judge_27 : decode cX11_judge 27 = .ok (.ifCond .eq 10, 3) := by decide +kernel
theorem dX11_judge_30 : decode cX11_judge 30 = .ok (.iload_n 2, 1) := by decide +kernel
theorem dX11_judge_31 : decode cX11_judge 31 = .ok (.invokestatic 123, 3) := by decide +kernel
theorem dX11_judge_34 : decode cX11_judge 34 = .ok (.ifCond .ne 5, 3) := by decide +kernel
theorem dX11_judge_37 : decode cX11_judge 37 = .ok (.iconst (-1), 1) := by decide +kernel
theorem dX11_judge_38 : decode cX11_judge 38 = .ok (.ireturn, 1) := by decide +kernel
theorem dX11_judge_39 : decode cX11_judge 39 = .ok (.aload_n 0, 1) := by decide +kernel
theorem dX11_judge_40 : decode cX11_judge 40 = .ok (.iload_n 3, 1) := by decide +kernel
theorem dX11_judge_41 : decode cX11_judge 41 = .ok (.invokevirtual 209, 3) := by decide +kernel
theorem dX11_judge_44 : decode cX11_judge 44 = .ok (.istore 5, 2) := by decide +kernel
theorem dX11_judge_46 : decode cX11_judge 46 = .ok (.aload_n 0, 1) := by decide +kernel
theorem dX11_judge_47 : decode cX11_judge 47 = .ok (.iload 4, 2) := by decide +kernel
theorem dX11_judge_49 : decode cX11_judge 49 = .ok (.invokevirtual 209, 3) := by decide +kernel
theorem dX11_judge_52 : decode cX11_judge 52 = .ok (.istore 6, 2) := by decide +kernel
theorem dX11_judge_54 : decode cX11_judge 54 = .ok (.iload 5, 2) := by decide +kernel
theorem dX11_judge_56 : decode cX11_judge 56 = .ok (.bipush (-11), 2) := by decide +kernel
theorem dX11_judge_58 : decode cX11_judge 58 = .ok (.if_icmp .eq 10, 3) := by decide +kernel
theorem dX11_judge_68 : decode cX11_judge 68 = .ok (.bipush (-11), 2) := by decide +kernel
theorem dX11_judge_70 : decode cX11_judge 70 = .ok (.ireturn, 1) := by decide +kernel
set_option maxRecDepth 20000 in
theorem ggX11_drawn_X11_isShelf : GoodIn wsX11_drawn wsX11_isShelf := goodIn_r _ [6] (by decide +kernel) (by decide +kernel)
set_option maxRecDepth 20000 in
theorem gX11_drawn_X11_isShelf : GoodIn wsX11_drawn (va_wsS RX11 97 yX11_isShelf wsX11_isShelf) := goodIn_app (goodIn_of _ (by decide +kernel)) ggX11_drawn_X11_isShelf
set_option maxRecDepth 20000 in
theorem ggX11_drawn_X11_readWeek : GoodIn wsX11_drawn wsX11_readWeek := goodIn_r _ [10, 11, 12, 13, 14, 15, 16, 17, 5, 18, 19, 20, 21, 22, 23, 24, 25, 26, 27, 28, 29, 30, 31, 32, 33, 34, 140, 141, 142, 143, 144, 145, 146, 147, 148, 149, 161, 162, 163, 164, 165, 166, 167, 168, 169, 170, 171, 172, 173] (by decide +kernel) (by decide +kernel)
set_option maxRecDepth 20000 in
theorem gX11_drawn_X11_readWeek : GoodIn wsX11_drawn (wsV RX11 153 RX11 yX11_readWeek wsX11_readWeek) := goodIn_app (goodIn_of _ (by decide +kernel)) ggX11_drawn_X11_readWeek
theorem dX11_drawn_0 : decode cX11_drawn 0 = .ok (.iload_n 1, 1) := by decide +kernel
theorem dX11_drawn_1 : decode cX11_drawn 1 = .ok (.invokestatic 97, 3) := by decide +kernel
theorem dX11_drawn_4 : decode cX11_drawn 4 = .ok (.ifCond .eq 25, 3) := by decide +kernel
theorem dX11_drawn_7 : decode cX11_drawn 7 = .ok (.iload_n 3, 1) := by decide +kernel
theorem dX11_drawn_8 : decode cX11_drawn 8 = .ok (.iconst 1, 1) := by decide +kernel
theorem dX11_drawn_9 : decode cX11_drawn 9 = .ok (.if_icmp .lt 20, 3) := by decide +kernel
theorem dX11_drawn_12 : decode cX11_drawn 12 = .ok (.iload_n 3, 1) := by decide +kernel
theorem dX11_drawn_13 : decode cX11_drawn 13 = .ok (.bipush 20, 2) := by decide +kernel
theorem dX11_drawn_15 : decode cX11_drawn 15 = .ok (.if_icmp .gt 14, 3) := by decide +kernel
theorem dX11_drawn_18 : decode cX11_drawn 18 = .ok (.iload 4, 2) := by decide +kernel
theorem dX11_drawn_20 : decode cX11_drawn 20 = .ok (.ifCond .lt 9, 3) := by decide +kernel
theorem dX11_drawn_23 : decode cX11_drawn 23 = .ok (.iload 4, 2) := by decide +kernel
theorem dX11_drawn_25 : decode cX11_drawn 25 = .ok (.iconst 1, 1) := by decide +kernel
theorem dX11_drawn_26 : decode cX11_drawn 26 = .ok (.if_icmp .le 5, 3) := by decide +kernel
theorem dX11_drawn_29 : decode cX11_drawn 29 = .ok (.iconst (-1), 1) := by decide +kernel
theorem dX11_drawn_30 : decode cX11_drawn 30 = .ok (.ireturn, 1) := by decide +kernel
theorem dX11_drawn_31 : decode cX11_drawn 31 = .ok (.aload_n 0, 1) := by decide +kernel
theorem dX11_drawn_32 : decode cX11_drawn 32 = .ok (.iload_n 1, 1) := by decide +kernel
theorem dX11_drawn_33 : decode cX11_drawn 33 = .ok (.invokevirtual 153, 3) := by decide +kernel
theorem dX11_drawn_36 : decode cX11_drawn 36 = .ok (.istore 5, 2) := by decide +kernel
theorem dX11_drawn_38 : decode cX11_drawn 38 = .ok (.iload 5, 2) := by decide +kernel
theorem dX11_drawn_40 : decode cX11_drawn 40 = .ok (.ifCond .eq 6, 3) := by decide +kernel
theorem dX11_drawn_43 : decode cX11_drawn 43 = .ok (.iload 5, 2) := by decide +kernel
theorem dX11_drawn_45 : decode cX11_drawn 45 = .ok (.ireturn, 1) := by decide +kernel
set_option maxRecDepth 20000 in
theorem ggX11_sit_X0_has : GoodIn wsX11_sit wsX0_has := goodIn_r _ [7, 8, 120, 121, 122, 123, 124] (by decide +kernel) (by decide +kernel)
set_option maxRecDepth 20000 in
theorem gX11_sit_X0_has : GoodIn wsX11_sit (wsV RX11 146 RX0 yX0_has wsX0_has) := goodIn_app (goodIn_of _ (by decide +kernel)) ggX11_sit_X0_has
theorem dX11_sit_0 : decode cX11_sit 0 = .ok (.aload_n 0, 1) := by decide +kernel
theorem dX11_sit_1 : decode cX11_sit 1 = .ok (.getfield 12, 3) := by decide +kernel
theorem dX11_sit_4 : decode cX11_sit 4 = .ok (.iload_n 1, 1) := by decide +kernel
theorem dX11_sit_5 : decode cX11_sit 5 = .ok (.invokevirtual 146, 3) := by decide +kernel
theorem dX11_sit_8 : decode cX11_sit 8 = .ok (.ifCond .eq 14, 3) := by decide +kernel
theorem dX11_sit_22 : decode cX11_sit 22 = .ok (.iconst (-1), 1) := by decide +kernel
theorem dX11_sit_23 : decode cX11_sit 23 = .ok (.ireturn, 1) := by decide +kernel
set_option maxRecDepth 20000 in
theorem ggX11_set_X11_isPart : GoodIn wsX11_set wsX11_isPart := goodIn_r _ [5] (by decide +kernel) (by decide +kernel)
set_option maxRecDepth 20000 in
theorem gX11_set_X11_isPart : GoodIn wsX11_set (va_wsS RX11 123 yX11_isPart wsX11_isPart) := goodIn_app (goodIn_of _ (by decide +kernel)) ggX11_set_X11_isPart
set_option maxRecDepth 20000 in
theorem ggX11_set_X11_isSetting : GoodIn wsX11_set wsX11_isSetting := goodIn_r _ [8] (by decide +kernel) (by decide +kernel)
set_option maxRecDepth 20000 in
theorem gX11_set_X11_isSetting : GoodIn wsX11_set (va_wsS RX11 85 yX11_isSetting wsX11_isSetting) := goodIn_app (goodIn_of _ (by decide +kernel)) ggX11_set_X11_isSetting
set_option maxRecDepth 20000 in
theorem ggX11_set_X2_turns : GoodIn wsX11_set wsX2_turns := goodIn_r _ [13, 14, 15, 16, 17, 18, 19, 20, 31, 32, 33, 34, 35, 36, 37, 38, 39, 40, 41] (by decide +kernel) (by decide +kernel)
set_option maxRecDepth 20000 in
theorem gX11_set_X2_turns : GoodIn wsX11_set (wsV RX11 225 RX2 yX2_turns wsX2_turns) := goodIn_app (goodIn_of _ (by decide +kernel)) ggX11_set_X2_turns
theorem dX11_set_0 : decode cX11_set 0 = .ok (.iload_n 1, 1) := by decide +kernel
theorem dX11_set_1 : decode cX11_set 1 = .ok (.invokestatic 123, 3) := by decide +kernel
theorem dX11_set_4 : decode cX11_set 4 = .ok (.ifCond .eq 22, 3) := by decide +kernel
theorem dX11_set_7 : decode cX11_set 7 = .ok (.iload_n 2, 1) := by decide +kernel
theorem dX11_set_8 : decode cX11_set 8 = .ok (.invokestatic 85, 3) := by decide +kernel
theorem dX11_set_11 : decode cX11_set 11 = .ok (.ifCond .eq 15, 3) := by decide +kernel
theorem dX11_set_14 : decode cX11_set 14 = .ok (.aload_n 0, 1) := by decide +kernel
theorem dX11_set_15 : decode cX11_set 15 = .ok (.getfield 60, 3) := by decide +kernel
theorem dX11_set_18 : decode cX11_set 18 = .ok (.iload_n 1, 1) := by decide +kernel
theorem dX11_set_19 : decode cX11_set 19 = .ok (.iload_n 2, 1) := by decide +kernel
theorem dX11_set_20 : decode cX11_set 20 = .ok (.invokevirtual 225, 3) := by decide +kernel
theorem dX11_set_23 : decode cX11_set 23 = .ok (.goto 4, 3) := by decide +kernel
theorem dX11_set_26 : decode cX11_set 26 = .ok (.iconst (-1), 1) := by decide +kernel
theorem dX11_set_27 : decode cX11_set 27 = .ok (.ireturn, 1) := by decide +kernel
set_option maxRecDepth 20000 in
theorem ggX11_night_X2_allSlip : GoodIn wsX11_night wsX2_allSlip := goodIn_r _ [6, 7, 8, 9, 10, 11, 12, 13, 14, 15, 16, 17, 18, 29, 30, 31, 32, 33, 34, 35, 36, 37, 38, 39] (by decide +kernel) (by decide +kernel)
set_option maxRecDepth 20000 in
theorem gX11_night_X2_allSlip : GoodIn wsX11_night (wsV RX11 228 RX2 yX2_allSlip wsX2_allSlip) := goodIn_app (goodIn_of _ (by decide +kernel)) ggX11_night_X2_allSlip
theorem dX11_night_0 : decode cX11_night 0 = .ok (.aload_n 0, 1) := by decide +kernel
theorem dX11_night_1 : decode cX11_night 1 = .ok (.getfield 60, 3) := by decide +kernel
theorem dX11_night_4 : decode cX11_night 4 = .ok (.invokevirtual 228, 3) := by decide +kernel
theorem dX11_night_7 : decode cX11_night 7 = .ok (.ireturn, 1) := by decide +kernel
theorem dX11_led_0 : decode cX11_led 0 = .ok (.iload_n 1, 1) := by decide +kernel
theorem dX11_led_1 : decode cX11_led 1 = .ok (.ifCond .lt 8, 3) := by decide +kernel
theorem dX11_led_4 : decode cX11_led 4 = .ok (.iload_n 1, 1) := by decide +kernel
theorem dX11_led_5 : decode cX11_led 5 = .ok (.iconst 5, 1) := by decide +kernel
theorem dX11_led_6 : decode cX11_led 6 = .ok (.if_icmp .lt 7, 3) := by decide +kernel
theorem dX11_led_9 : decode cX11_led 9 = .ok (.iconst (-1), 1) := by decide +kernel
theorem dX11_led_10 : decode cX11_led 10 = .ok (.goto 12, 3) := by decide +kernel
theorem dX11_led_13 : decode cX11_led 13 = .ok (.aload_n 0, 1) := by decide +kernel
theorem dX11_led_14 : decode cX11_led 14 = .ok (.getfield 60, 3) := by decide +kernel
theorem dX11_led_17 : decode cX11_led 17 = .ok (.getfield 231, 3) := by decide +kernel
theorem dX11_led_20 : decode cX11_led 20 = .ok (.iload_n 1, 1) := by decide +kernel
theorem dX11_led_21 : decode cX11_led 21 = .ok (.iaload, 1) := by decide +kernel
theorem dX11_led_22 : decode cX11_led 22 = .ok (.ireturn, 1) := by decide +kernel
set_option maxRecDepth 20000 in
theorem ggX11_image_X2_keepImage : GoodIn wsX11_image wsX2_keepImage := goodIn_r _ [6, 7, 8, 9, 10, 11, 12, 13, 14, 15, 16, 27, 28, 29, 30, 31, 32, 33, 34, 35, 36, 37] (by decide +kernel) (by decide +kernel)
set_option maxRecDepth 20000 in
theorem gX11_image_X2_keepImage : GoodIn wsX11_image (wsV RX11 232 RX2 yX2_keepImage wsX2_keepImage) := goodIn_app (goodIn_of _ (by decide +kernel)) ggX11_image_X2_keepImage
theorem dX11_image_0 : decode cX11_image 0 = .ok (.aload_n 0, 1) := by decide +kernel
theorem dX11_image_1 : decode cX11_image 1 = .ok (.getfield 60, 3) := by decide +kernel
theorem dX11_image_4 : decode cX11_image 4 = .ok (.invokevirtual 232, 3) := by decide +kernel
theorem dX11_image_7 : decode cX11_image 7 = .ok (.ireturn, 1) := by decide +kernel
set_option maxRecDepth 20000 in
theorem ggX11_back_X2_layBack : GoodIn wsX11_back wsX2_layBack := goodIn_r _ [6, 7, 8, 9, 10, 11, 12, 13, 14, 15, 16, 27, 28, 29, 30, 31, 32, 33, 34, 35, 36, 37] (by decide +kernel) (by decide +kernel)
set_option maxRecDepth 20000 in
theorem gX11_back_X2_layBack : GoodIn wsX11_back (wsV RX11 235 RX2 yX2_layBack wsX2_layBack) := goodIn_app (goodIn_of _ (by decide +kernel)) ggX11_back_X2_layBack
theorem dX11_back_0 : decode cX11_back 0 = .ok (.aload_n 0, 1) := by decide +kernel
theorem dX11_back_1 : decode cX11_back 1 = .ok (.getfield 60, 3) := by decide +kernel
theorem dX11_back_4 : decode cX11_back 4 = .ok (.invokevirtual 235, 3) := by decide +kernel
theorem dX11_back_7 : decode cX11_back 7 = .ok (.ireturn, 1) := by decide +kernel
theorem dX11_undo_0 : decode cX11_undo 0 = .ok (.aload_n 0, 1) := by decide +kernel
theorem dX11_undo_1 : decode cX11_undo 1 = .ok (.getfield 67, 3) := by decide +kernel
theorem dX11_undo_4 : decode cX11_undo 4 = .ok (.getfield 238, 3) := by decide +kernel
theorem dX11_undo_7 : decode cX11_undo 7 = .ok (.ifCond .ne 6, 3) := by decide +kernel
theorem dX11_undo_10 : decode cX11_undo 10 = .ok (.bipush (-5), 2) := by decide +kernel
theorem dX11_undo_12 : decode cX11_undo 12 = .ok (.ireturn, 1) := by decide +kernel
theorem dX11_redo_0 : decode cX11_redo 0 = .ok (.aload_n 0, 1) := by decide +kernel
theorem dX11_redo_1 : decode cX11_redo 1 = .ok (.getfield 67, 3) := by decide +kernel
theorem dX11_redo_4 : decode cX11_redo 4 = .ok (.getfield 238, 3) := by decide +kernel
theorem dX11_redo_7 : decode cX11_redo 7 = .ok (.aload_n 0, 1) := by decide +kernel
theorem dX11_redo_8 : decode cX11_redo 8 = .ok (.getfield 67, 3) := by decide +kernel
theorem dX11_redo_11 : decode cX11_redo 11 = .ok (.getfield 247, 3) := by decide +kernel
theorem dX11_redo_14 : decode cX11_redo 14 = .ok (.if_icmp .lt 6, 3) := by decide +kernel
theorem dX11_redo_17 : decode cX11_redo 17 = .ok (.bipush (-5), 2) := by decide +kernel
theorem dX11_redo_19 : decode cX11_redo 19 = .ok (.ireturn, 1) := by decide +kernel
set_option maxRecDepth 20000 in
theorem ggX11_body_X11_isKind : GoodIn wsX11_body wsX11_isKind := goodIn_r _ [5] (by decide +kernel) (by decide +kernel)
set_option maxRecDepth 20000 in
theorem gX11_body_X11_isKind : GoodIn wsX11_body (va_wsS RX11 253 yX11_isKind wsX11_isKind) := goodIn_app (goodIn_of _ (by decide +kernel)) ggX11_body_X11_isKind
set_option maxRecDepth 20000 in
theorem ggX11_body_X3_comes : GoodIn wsX11_body wsX3_comes := goodIn_r _ [10, 11, 12, 23, 24, 25, 26, 27, 28] (by decide +kernel) (by decide +kernel)
set_option maxRecDepth 20000 in
theorem gX11_body_X3_comes : GoodIn wsX11_body (wsV RX11 256 RX3 yX3_comes wsX3_comes) := goodIn_app (goodIn_of _ (by decide +kernel)) ggX11_body_X3_comes
theorem dX11_body_0 : decode cX11_body 0 = .ok (.iload_n 1, 1) := by decide +kernel
theorem dX11_body_1 : decode cX11_body 1 = .ok (.invokestatic 253, 3) := by decide +kernel
theorem dX11_body_4 : decode cX11_body 4 = .ok (.ifCond .eq 14, 3) := by decide +kernel
theorem dX11_body_7 : decode cX11_body 7 = .ok (.aload_n 0, 1) := by decide +kernel
theorem dX11_body_8 : decode cX11_body 8 = .ok (.getfield 74, 3) := by decide +kernel
theorem dX11_body_11 : decode cX11_body 11 = .ok (.iload_n 1, 1) := by decide +kernel
theorem dX11_body_12 : decode cX11_body 12 = .ok (.invokevirtual 256, 3) := by decide +kernel
theorem dX11_body_15 : decode cX11_body 15 = .ok (.goto 4, 3) := by decide +kernel
theorem dX11_body_18 : decode cX11_body 18 = .ok (.iconst (-1), 1) := by decide +kernel
theorem dX11_body_19 : decode cX11_body 19 = .ok (.ireturn, 1) := by decide +kernel
set_option maxRecDepth 20000 in
theorem ggX11_act_X3_acts : GoodIn wsX11_act wsX3_acts := goodIn_r _ [6, 7, 8, 9, 10, 11, 12, 13, 14, 5, 15, 16, 17, 18, 19, 20, 21, 22, 23, 24, 25, 36, 37, 38, 39, 40, 41] (by decide +kernel) (by decide +kernel)
set_option maxRecDepth 20000 in
theorem gX11_act_X3_acts : GoodIn wsX11_act (wsV RX11 257 RX3 yX3_acts wsX3_acts) := goodIn_app (goodIn_of _ (by decide +kernel)) ggX11_act_X3_acts
theorem dX11_act_0 : decode cX11_act 0 = .ok (.aload_n 0, 1) := by decide +kernel
theorem dX11_act_1 : decode cX11_act 1 = .ok (.getfield 74, 3) := by decide +kernel
theorem dX11_act_4 : decode cX11_act 4 = .ok (.iload_n 1, 1) := by decide +kernel
theorem dX11_act_5 : decode cX11_act 5 = .ok (.iload_n 2, 1) := by decide +kernel
theorem dX11_act_6 : decode cX11_act 6 = .ok (.iload_n 3, 1) := by decide +kernel
theorem dX11_act_7 : decode cX11_act 7 = .ok (.invokevirtual 257, 3) := by decide +kernel
theorem dX11_act_10 : decode cX11_act 10 = .ok (.ireturn, 1) := by decide +kernel
theorem dX11_trace_0 : decode cX11_trace 0 = .ok (.iload_n 1, 1) := by decide +kernel
theorem dX11_trace_1 : decode cX11_trace 1 = .ok (.ifCond .lt 19, 3) := by decide +kernel
theorem dX11_trace_4 : decode cX11_trace 4 = .ok (.iload_n 1, 1) := by decide +kernel
theorem dX11_trace_5 : decode cX11_trace 5 = .ok (.aload_n 0, 1) := by decide +kernel
theorem dX11_trace_6 : decode cX11_trace 6 = .ok (.getfield 74, 3) := by decide +kernel
theorem dX11_trace_9 : decode cX11_trace 9 = .ok (.getfield 260, 3) := by decide +kernel
theorem dX11_trace_12 : decode cX11_trace 12 = .ok (.bipush 24, 2) := by decide +kernel
theorem dX11_trace_14 : decode cX11_trace 14 = .ok (.invokestatic 263, 3) := by decide +kernel
theorem dX11_trace_17 : decode cX11_trace 17 = .ok (.if_icmp .lt 7, 3) := by decide +kernel
theorem dX11_trace_20 : decode cX11_trace 20 = .ok (.iconst (-1), 1) := by decide +kernel
theorem dX11_trace_21 : decode cX11_trace 21 = .ok (.goto 12, 3) := by decide +kernel
theorem dX11_trace_33 : decode cX11_trace 33 = .ok (.ireturn, 1) := by decide +kernel
set_option maxRecDepth 20000 in
theorem ggX11_keep_X11_isShelf : GoodIn wsX11_keep wsX11_isShelf := goodIn_r _ [7] (by decide +kernel) (by decide +kernel)
set_option maxRecDepth 20000 in
theorem gX11_keep_X11_isShelf : GoodIn wsX11_keep (va_wsS RX11 97 yX11_isShelf wsX11_isShelf) := goodIn_app (goodIn_of _ (by decide +kernel)) ggX11_keep_X11_isShelf
set_option maxRecDepth 20000 in
theorem ggX11_keep_X7_takesDesk : GoodIn wsX11_keep wsX7_takesDesk := goodIn_r _ [12, 13, 14, 31, 32, 33, 34] (by decide +kernel) (by decide +kernel)
set_option maxRecDepth 20000 in
theorem gX11_keep_X7_takesDesk : GoodIn wsX11_keep (wsV RX11 272 RX7 yX7_takesDesk wsX7_takesDesk) := goodIn_app (goodIn_of _ (by decide +kernel)) ggX11_keep_X7_takesDesk
theorem dX11_keep_0 : decode cX11_keep 0 = .ok (.iload_n 1, 1) := by decide +kernel
theorem dX11_keep_1 : decode cX11_keep 1 = .ok (.invokestatic 97, 3) := by decide +kernel
theorem dX11_keep_4 : decode cX11_keep 4 = .ok (.ifCond .eq 19, 3) := by decide +kernel
theorem dX11_keep_7 : decode cX11_keep 7 = .ok (.iload_n 2, 1) := by decide +kernel
theorem dX11_keep_8 : decode cX11_keep 8 = .ok (.iconst (-1), 1) := by decide +kernel
theorem dX11_keep_9 : decode cX11_keep 9 = .ok (.if_icmp .lt 14, 3) := by decide +kernel
theorem dX11_keep_12 : decode cX11_keep 12 = .ok (.iload_n 2, 1) := by decide +kernel
theorem dX11_keep_13 : decode cX11_keep 13 = .ok (.aload_n 0, 1) := by decide +kernel
theorem dX11_keep_14 : decode cX11_keep 14 = .ok (.getfield 74, 3) := by decide +kernel
theorem dX11_keep_17 : decode cX11_keep 17 = .ok (.getfield 271, 3) := by decide +kernel
theorem dX11_keep_20 : decode cX11_keep 20 = .ok (.if_icmp .lt 5, 3) := by decide +kernel
theorem dX11_keep_23 : decode cX11_keep 23 = .ok (.iconst (-1), 1) := by decide +kernel
theorem dX11_keep_24 : decode cX11_keep 24 = .ok (.ireturn, 1) := by decide +kernel
theorem dX11_keep_25 : decode cX11_keep 25 = .ok (.aload_n 0, 1) := by decide +kernel
theorem dX11_keep_26 : decode cX11_keep 26 = .ok (.getfield 80, 3) := by decide +kernel
theorem dX11_keep_29 : decode cX11_keep 29 = .ok (.iload_n 1, 1) := by decide +kernel
theorem dX11_keep_30 : decode cX11_keep 30 = .ok (.aaload, 1) := by decide +kernel
theorem dX11_keep_31 : decode cX11_keep 31 = .ok (.iload_n 2, 1) := by decide +kernel
theorem dX11_keep_32 : decode cX11_keep 32 = .ok (.invokevirtual 272, 3) := by decide +kernel
theorem dX11_keep_35 : decode cX11_keep 35 = .ok (.iconst 1, 1) := by decide +kernel
theorem dX11_keep_36 : decode cX11_keep 36 = .ok (.ireturn, 1) := by decide +kernel
set_option maxRecDepth 20000 in
theorem ggX11_row_X11_isShelf : GoodIn wsX11_row wsX11_isShelf := goodIn_r _ [5] (by decide +kernel) (by decide +kernel)
set_option maxRecDepth 20000 in
theorem gX11_row_X11_isShelf : GoodIn wsX11_row (va_wsS RX11 97 yX11_isShelf wsX11_isShelf) := goodIn_app (goodIn_of _ (by decide +kernel)) ggX11_row_X11_isShelf
set_option maxRecDepth 20000 in
theorem ggX11_row_X7_takesRow : GoodIn wsX11_row wsX7_takesRow := goodIn_r _ [10, 11, 12, 13, 24, 25, 26, 27] (by decide +kernel) (by decide +kernel)
set_option maxRecDepth 20000 in
theorem gX11_row_X7_takesRow : GoodIn wsX11_row (wsV RX11 275 RX7 yX7_takesRow wsX7_takesRow) := goodIn_app (goodIn_of _ (by decide +kernel)) ggX11_row_X7_takesRow
theorem dX11_row_0 : decode cX11_row 0 = .ok (.iload_n 1, 1) := by decide +kernel
theorem dX11_row_1 : decode cX11_row 1 = .ok (.invokestatic 97, 3) := by decide +kernel
theorem dX11_row_4 : decode cX11_row 4 = .ok (.ifCond .eq 18, 3) := by decide +kernel
theorem dX11_row_7 : decode cX11_row 7 = .ok (.iload_n 2, 1) := by decide +kernel
theorem dX11_row_8 : decode cX11_row 8 = .ok (.ifCond .lt 14, 3) := by decide +kernel
theorem dX11_row_11 : decode cX11_row 11 = .ok (.iload_n 2, 1) := by decide +kernel
theorem dX11_row_12 : decode cX11_row 12 = .ok (.iconst 4, 1) := by decide +kernel
theorem dX11_row_13 : decode cX11_row 13 = .ok (.if_icmp .gt 9, 3) := by decide +kernel
theorem dX11_row_16 : decode cX11_row 16 = .ok (.iload_n 3, 1) := by decide +kernel
theorem dX11_row_17 : decode cX11_row 17 = .ok (.bipush 60, 2) := by decide +kernel
theorem dX11_row_19 : decode cX11_row 19 = .ok (.if_icmp .le 5, 3) := by decide +kernel
theorem dX11_row_22 : decode cX11_row 22 = .ok (.iconst (-1), 1) := by decide +kernel
theorem dX11_row_23 : decode cX11_row 23 = .ok (.ireturn, 1) := by decide +kernel
theorem dX11_row_24 : decode cX11_row 24 = .ok (.iload_n 3, 1) := by decide +kernel
theorem dX11_row_25 : decode cX11_row 25 = .ok (.ifCond .ge 6, 3) := by decide +kernel
theorem dX11_row_28 : decode cX11_row 28 = .ok (.bipush (-14), 2) := by decide +kernel
theorem dX11_row_30 : decode cX11_row 30 = .ok (.ireturn, 1) := by decide +kernel
theorem dX11_row_31 : decode cX11_row 31 = .ok (.aload_n 0, 1) := by decide +kernel
theorem dX11_row_32 : decode cX11_row 32 = .ok (.getfield 80, 3) := by decide +kernel
theorem dX11_row_35 : decode cX11_row 35 = .ok (.iload_n 1, 1) := by decide +kernel
theorem dX11_row_36 : decode cX11_row 36 = .ok (.aaload, 1) := by decide +kernel
theorem dX11_row_37 : decode cX11_row 37 = .ok (.iload_n 2, 1) := by decide +kernel
theorem dX11_row_38 : decode cX11_row 38 = .ok (.iload_n 3, 1) := by decide +kernel
theorem dX11_row_39 : decode cX11_row 39 = .ok (.invokevirtual 275, 3) := by decide +kernel
theorem dX11_row_42 : decode cX11_row 42 = .ok (.iconst 1, 1) := by decide +kernel
theorem dX11_row_43 : decode cX11_row 43 = .ok (.ireturn, 1) := by decide +kernel
set_option maxRecDepth 20000 in
theorem ggX11_put_X11_refusalAt : GoodIn wsX11_put wsX11_refusalAt := goodIn_r _ [7, 1, 8, 9, 10, 6, 11, 12, 13, 14, 15, 16, 17, 18, 19, 20, 21, 22, 27, 28, 29, 30, 31, 32, 33, 34, 35, 36, 37, 38, 39, 40] (by decide +kernel) (by decide +kernel)
set_option maxRecDepth 20000 in
theorem gX11_put_X11_refusalAt : GoodIn wsX11_put (wsV RX11 278 RX11 yX11_refusalAt wsX11_refusalAt) := goodIn_app (goodIn_of _ (by decide +kernel)) ggX11_put_X11_refusalAt
theorem dX11_put_0 : decode cX11_put 0 = .ok (.aload_n 0, 1) := by decide +kernel
theorem dX11_put_1 : decode cX11_put 1 = .ok (.iload_n 1, 1) := by decide +kernel
theorem dX11_put_2 : decode cX11_put 2 = .ok (.iload_n 2, 1) := by decide +kernel
theorem dX11_put_3 : decode cX11_put 3 = .ok (.invokevirtual 278, 3) := by decide +kernel
theorem dX11_put_6 : decode cX11_put 6 = .ok (.istore 5, 2) := by decide +kernel
theorem dX11_put_8 : decode cX11_put 8 = .ok (.iload 5, 2) := by decide +kernel
theorem dX11_put_10 : decode cX11_put 10 = .ok (.ifCond .eq 6, 3) := by decide +kernel
theorem dX11_put_13 : decode cX11_put 13 = .ok (.iload 5, 2) := by decide +kernel
theorem dX11_put_15 : decode cX11_put 15 = .ok (.ireturn, 1) := by decide +kernel
set_option maxRecDepth 20000 in
theorem ggX11_element_X11_refusalAt : GoodIn wsX11_element wsX11_refusalAt := goodIn_r _ [8, 2, 9, 10, 11, 7, 12, 13, 14, 15, 16, 17, 18, 19, 20, 21, 22, 23, 24, 25, 26, 27, 28, 29, 30, 31, 32, 33, 34, 35, 36, 37] (by decide +kernel) (by decide +kernel)
set_option maxRecDepth 20000 in
theorem gX11_element_X11_refusalAt : GoodIn wsX11_element (wsV RX11 278 RX11 yX11_refusalAt wsX11_refusalAt) := goodIn_app (goodIn_of _ (by decide +kernel)) ggX11_element_X11_refusalAt
theorem dX11_element_0 : decode cX11_element 0 = .ok (.aload_n 0, 1) := by decide +kernel
theorem dX11_element_1 : decode cX11_element 1 = .ok (.iload_n 1, 1) := by decide +kernel
theorem dX11_element_2 : decode cX11_element 2 = .ok (.iload_n 2, 1) := by decide +kernel
theorem dX11_element_3 : decode cX11_element 3 = .ok (.invokevirtual 278, 3) := by decide +kernel
theorem dX11_element_6 : decode cX11_element 6 = .ok (.ifCond .eq 9, 3) := by decide +kernel
theorem dX11_element_9 : decode cX11_element 9 = .ok (.ldc2_w 289, 3) := by decide +kernel
theorem dX11_element_12 : decode cX11_element 12 = .ok (.goto 14, 3) := by decide +kernel
theorem dX11_element_26 : decode cX11_element 26 = .ok (.lreturn, 1) := by decide +kernel
set_option maxRecDepth 20000 in
theorem ggX11_shift_X11_isShelf : GoodIn wsX11_shift wsX11_isShelf := goodIn_r _ [11] (by decide +kernel) (by decide +kernel)
set_option maxRecDepth 20000 in
theorem gX11_shift_X11_isShelf : GoodIn wsX11_shift (va_wsS RX11 97 yX11_isShelf wsX11_isShelf) := goodIn_app (goodIn_of _ (by decide +kernel)) ggX11_shift_X11_isShelf
theorem dX11_shift_0 : decode cX11_shift 0 = .ok (.iload_n 1, 1) := by decide +kernel
theorem dX11_shift_1 : decode cX11_shift 1 = .ok (.invokestatic 97, 3) := by decide +kernel
theorem dX11_shift_4 : decode cX11_shift 4 = .ok (.ifCond .eq 10, 3) := by decide +kernel
theorem dX11_shift_7 : decode cX11_shift 7 = .ok (.iload_n 3, 1) := by decide +kernel
theorem dX11_shift_8 : decode cX11_shift 8 = .ok (.invokestatic 97, 3) := by decide +kernel
theorem dX11_shift_11 : decode cX11_shift 11 = .ok (.ifCond .ne 5, 3) := by decide +kernel
theorem dX11_shift_14 : decode cX11_shift 14 = .ok (.iconst (-1), 1) := by decide +kernel
theorem dX11_shift_15 : decode cX11_shift 15 = .ok (.ireturn, 1) := by decide +kernel
theorem dX11_shift_16 : decode cX11_shift 16 = .ok (.aload_n 0, 1) := by decide +kernel
theorem dX11_shift_17 : decode cX11_shift 17 = .ok (.getfield 80, 3) := by decide +kernel
theorem dX11_shift_20 : decode cX11_shift 20 = .ok (.iload_n 1, 1) := by decide +kernel
theorem dX11_shift_21 : decode cX11_shift 21 = .ok (.aaload, 1) := by decide +kernel
theorem dX11_shift_22 : decode cX11_shift 22 = .ok (.astore 6, 2) := by decide +kernel
theorem dX11_shift_24 : decode cX11_shift 24 = .ok (.aload_n 0, 1) := by decide +kernel
theorem dX11_shift_25 : decode cX11_shift 25 = .ok (.getfield 80, 3) := by decide +kernel
theorem dX11_shift_28 : decode cX11_shift 28 = .ok (.iload_n 3, 1) := by decide +kernel
theorem dX11_shift_29 : decode cX11_shift 29 = .ok (.aaload, 1) := by decide +kernel
theorem dX11_shift_30 : decode cX11_shift 30 = .ok (.astore 7, 2) := by decide +kernel
theorem dX11_shift_32 : decode cX11_shift 32 = .ok (.aload 6, 2) := by decide +kernel
theorem dX11_shift_34 : decode cX11_shift 34 = .ok (.getfield 100, 3) := by decide +kernel
theorem dX11_shift_37 : decode cX11_shift 37 = .ok (.iconst (-1), 1) := by decide +kernel
theorem dX11_shift_38 : decode cX11_shift 38 = .ok (.if_icmp .eq 12, 3) := by decide +kernel
theorem dX11_shift_50 : decode cX11_shift 50 = .ok (.bipush (-11), 2) := by decide +kernel
theorem dX11_shift_52 : decode cX11_shift 52 = .ok (.ireturn, 1) := by decide +kernel
set_option maxRecDepth 20000 in
theorem ggX11_taken_X11_isShelf : GoodIn wsX11_taken wsX11_isShelf := goodIn_r _ [8] (by decide +kernel) (by decide +kernel)
set_option maxRecDepth 20000 in
theorem gX11_taken_X11_isShelf : GoodIn wsX11_taken (va_wsS RX11 97 yX11_isShelf wsX11_isShelf) := goodIn_app (goodIn_of _ (by decide +kernel)) ggX11_taken_X11_isShelf
set_option maxRecDepth 20000 in
theorem ggX11_taken_X11_isKind : GoodIn wsX11_taken wsX11_isKind := goodIn_r _ [11] (by decide +kernel) (by decide +kernel)
set_option maxRecDepth 20000 in
theorem gX11_taken_X11_isKind : GoodIn wsX11_taken (va_wsS RX11 253 yX11_isKind wsX11_isKind) := goodIn_app (goodIn_of _ (by decide +kernel)) ggX11_taken_X11_isKind
theorem dX11_taken_0 : decode cX11_taken 0 = .ok (.iload_n 1, 1) := by decide +kernel
theorem dX11_taken_1 : decode cX11_taken 1 = .ok (.invokestatic 97, 3) := by decide +kernel
theorem dX11_taken_4 : decode cX11_taken 4 = .ok (.ifCond .eq 10, 3) := by decide +kernel
theorem dX11_taken_7 : decode cX11_taken 7 = .ok (.iload_n 2, 1) := by decide +kernel
theorem dX11_taken_8 : decode cX11_taken 8 = .ok (.invokestatic 253, 3) := by decide +kernel
theorem dX11_taken_11 : decode cX11_taken 11 = .ok (.ifCond .ne 5, 3) := by decide +kernel
theorem dX11_taken_14 : decode cX11_taken 14 = .ok (.iconst (-1), 1) := by decide +kernel
theorem dX11_taken_15 : decode cX11_taken 15 = .ok (.ireturn, 1) := by decide +kernel
theorem dX11_taken_16 : decode cX11_taken 16 = .ok (.aload_n 0, 1) := by decide +kernel
theorem dX11_taken_17 : decode cX11_taken 17 = .ok (.getfield 80, 3) := by decide +kernel
theorem dX11_taken_20 : decode cX11_taken 20 = .ok (.iload_n 1, 1) := by decide +kernel
theorem dX11_taken_21 : decode cX11_taken 21 = .ok (.aaload, 1) := by decide +kernel
theorem dX11_taken_22 : decode cX11_taken 22 = .ok (.astore_n 3, 1) := by decide +kernel
theorem dX11_taken_23 : decode cX11_taken 23 = .ok (.aload_n 3, 1) := by decide +kernel
theorem dX11_taken_24 : decode cX11_taken 24 = .ok (.getfield 100, 3) := by decide +kernel
theorem dX11_taken_27 : decode cX11_taken 27 = .ok (.iconst (-1), 1) := by decide +kernel
theorem dX11_taken_28 : decode cX11_taken 28 = .ok (.if_icmp .ne 6, 3) := by decide +kernel
theorem dX11_taken_31 : decode cX11_taken 31 = .ok (.bipush (-11), 2) := by decide +kernel
theorem dX11_taken_33 : decode cX11_taken 33 = .ok (.ireturn, 1) := by decide +kernel
theorem dX11_count_0 : decode cX11_count 0 = .ok (.iload_n 1, 1) := by decide +kernel
theorem dX11_count_1 : decode cX11_count 1 = .ok (.tableswitch 78 0 4 #[35, 43, 54, 62, 70], 35) := by decide +kernel
theorem dX11_count_36 : decode cX11_count 36 = .ok (.aload_n 0, 1) := by decide +kernel
theorem dX11_count_37 : decode cX11_count 37 = .ok (.getfield 12, 3) := by decide +kernel
theorem dX11_count_40 : decode cX11_count 40 = .ok (.getfield 310, 3) := by decide +kernel
theorem dX11_count_43 : decode cX11_count 43 = .ok (.ireturn, 1) := by decide +kernel
theorem dX11_count_44 : decode cX11_count 44 = .ok (.aload_n 0, 1) := by decide +kernel
theorem dX11_count_45 : decode cX11_count 45 = .ok (.getfield 12, 3) := by decide +kernel
theorem dX11_count_48 : decode cX11_count 48 = .ok (.getfield 129, 3) := by decide +kernel
theorem dX11_count_51 : decode cX11_count 51 = .ok (.getfield 313, 3) := by decide +kernel
theorem dX11_count_54 : decode cX11_count 54 = .ok (.ireturn, 1) := by decide +kernel
theorem dX11_count_55 : decode cX11_count 55 = .ok (.aload_n 0, 1) := by decide +kernel
theorem dX11_count_56 : decode cX11_count 56 = .ok (.getfield 67, 3) := by decide +kernel
theorem dX11_count_59 : decode cX11_count 59 = .ok (.getfield 238, 3) := by decide +kernel
theorem dX11_count_62 : decode cX11_count 62 = .ok (.ireturn, 1) := by decide +kernel
theorem dX11_count_63 : decode cX11_count 63 = .ok (.aload_n 0, 1) := by decide +kernel
theorem dX11_count_64 : decode cX11_count 64 = .ok (.getfield 74, 3) := by decide +kernel
theorem dX11_count_67 : decode cX11_count 67 = .ok (.getfield 271, 3) := by decide +kernel
theorem dX11_count_70 : decode cX11_count 70 = .ok (.ireturn, 1) := by decide +kernel
theorem dX11_count_71 : decode cX11_count 71 = .ok (.aload_n 0, 1) := by decide +kernel
theorem dX11_count_72 : decode cX11_count 72 = .ok (.getfield 74, 3) := by decide +kernel
theorem dX11_count_75 : decode cX11_count 75 = .ok (.getfield 260, 3) := by decide +kernel
theorem dX11_count_78 : decode cX11_count 78 = .ok (.ireturn, 1) := by decide +kernel
theorem dX11_count_79 : decode cX11_count 79 = .ok (.iconst (-1), 1) := by decide +kernel
theorem dX11_count_80 : decode cX11_count 80 = .ok (.ireturn, 1) := by decide +kernel
theorem dX11_isPart_0 : decode cX11_isPart 0 = .ok (.iload_n 0, 1) := by decide +kernel
theorem dX11_isPart_1 : decode cX11_isPart 1 = .ok (.ifCond .lt 12, 3) := by decide +kernel
theorem dX11_isPart_4 : decode cX11_isPart 4 = .ok (.iload_n 0, 1) := by decide +kernel
theorem dX11_isPart_5 : decode cX11_isPart 5 = .ok (.iconst 3, 1) := by decide +kernel
theorem dX11_isPart_6 : decode cX11_isPart 6 = .ok (.if_icmp .ge 7, 3) := by decide +kernel
theorem dX11_isPart_9 : decode cX11_isPart 9 = .ok (.iconst 1, 1) := by decide +kernel
theorem dX11_isPart_10 : decode cX11_isPart 10 = .ok (.goto 4, 3) := by decide +kernel
theorem dX11_isPart_13 : decode cX11_isPart 13 = .ok (.iconst 0, 1) := by decide +kernel
theorem dX11_isPart_14 : decode cX11_isPart 14 = .ok (.ireturn, 1) := by decide +kernel
theorem dX11_isSetting_0 : decode cX11_isSetting 0 = .ok (.iload_n 0, 1) := by decide +kernel
theorem dX11_isSetting_1 : decode cX11_isSetting 1 = .ok (.ifCond .lt 13, 3) := by decide +kernel
theorem dX11_isSetting_4 : decode cX11_isSetting 4 = .ok (.iload_n 0, 1) := by decide +kernel
theorem dX11_isSetting_5 : decode cX11_isSetting 5 = .ok (.bipush 60, 2) := by decide +kernel
theorem dX11_isSetting_7 : decode cX11_isSetting 7 = .ok (.if_icmp .gt 7, 3) := by decide +kernel
theorem dX11_isSetting_10 : decode cX11_isSetting 10 = .ok (.iconst 1, 1) := by decide +kernel
theorem dX11_isSetting_11 : decode cX11_isSetting 11 = .ok (.goto 4, 3) := by decide +kernel
theorem dX11_isSetting_14 : decode cX11_isSetting 14 = .ok (.iconst 0, 1) := by decide +kernel
theorem dX11_isSetting_15 : decode cX11_isSetting 15 = .ok (.ireturn, 1) := by decide +kernel
theorem dX11_isShelf_0 : decode cX11_isShelf 0 = .ok (.iload_n 0, 1) := by decide +kernel
theorem dX11_isShelf_1 : decode cX11_isShelf 1 = .ok (.ifCond .lt 13, 3) := by decide +kernel
theorem dX11_isShelf_4 : decode cX11_isShelf 4 = .ok (.iload_n 0, 1) := by decide +kernel
theorem dX11_isShelf_5 : decode cX11_isShelf 5 = .ok (.bipush 6, 2) := by decide +kernel
theorem dX11_isShelf_7 : decode cX11_isShelf 7 = .ok (.if_icmp .ge 7, 3) := by decide +kernel
theorem dX11_isShelf_10 : decode cX11_isShelf 10 = .ok (.iconst 1, 1) := by decide +kernel
theorem dX11_isShelf_11 : decode cX11_isShelf 11 = .ok (.goto 4, 3) := by decide +kernel
theorem dX11_isShelf_14 : decode cX11_isShelf 14 = .ok (.iconst 0, 1) := by decide +kernel
theorem dX11_isShelf_15 : decode cX11_isShelf 15 = .ok (.ireturn, 1) := by decide +kernel
theorem dX11_isKind_0 : decode cX11_isKind 0 = .ok (.iload_n 0, 1) := by decide +kernel
theorem dX11_isKind_1 : decode cX11_isKind 1 = .ok (.ifCond .lt 13, 3) := by decide +kernel
theorem dX11_isKind_4 : decode cX11_isKind 4 = .ok (.iload_n 0, 1) := by decide +kernel
theorem dX11_isKind_5 : decode cX11_isKind 5 = .ok (.bipush 8, 2) := by decide +kernel
theorem dX11_isKind_7 : decode cX11_isKind 7 = .ok (.if_icmp .ge 7, 3) := by decide +kernel
theorem dX11_isKind_10 : decode cX11_isKind 10 = .ok (.iconst 1, 1) := by decide +kernel
theorem dX11_isKind_11 : decode cX11_isKind 11 = .ok (.goto 4, 3) := by decide +kernel
theorem dX11_isKind_14 : decode cX11_isKind 14 = .ok (.iconst 0, 1) := by decide +kernel
theorem dX11_isKind_15 : decode cX11_isKind 15 = .ok (.ireturn, 1) := by decide +kernel
theorem dX11_fits_0 : decode cX11_fits 0 = .ok (.iload_n 0, 1) := by decide +kernel
theorem dX11_fits_1 : decode cX11_fits 1 = .ok (.ifCond .lt 33, 3) := by decide +kernel
theorem dX11_fits_4 : decode cX11_fits 4 = .ok (.iload_n 0, 1) := by decide +kernel
theorem dX11_fits_5 : decode cX11_fits 5 = .ok (.getstatic 314, 3) := by decide +kernel
theorem dX11_fits_8 : decode cX11_fits 8 = .ok (.arraylength, 1) := by decide +kernel
theorem dX11_fits_9 : decode cX11_fits 9 = .ok (.if_icmp .ge 25, 3) := by decide +kernel
theorem dX11_fits_12 : decode cX11_fits 12 = .ok (.iload_n 1, 1) := by decide +kernel
theorem dX11_fits_13 : decode cX11_fits 13 = .ok (.getstatic 317, 3) := by decide +kernel
theorem dX11_fits_16 : decode cX11_fits 16 = .ok (.iload_n 0, 1) := by decide +kernel
theorem dX11_fits_17 : decode cX11_fits 17 = .ok (.iaload, 1) := by decide +kernel
theorem dX11_fits_18 : decode cX11_fits 18 = .ok (.if_icmp .lt 16, 3) := by decide +kernel
theorem dX11_fits_21 : decode cX11_fits 21 = .ok (.iload_n 1, 1) := by decide +kernel
theorem dX11_fits_22 : decode cX11_fits 22 = .ok (.getstatic 314, 3) := by decide +kernel
theorem dX11_fits_25 : decode cX11_fits 25 = .ok (.iload_n 0, 1) := by decide +kernel
theorem dX11_fits_26 : decode cX11_fits 26 = .ok (.iaload, 1) := by decide +kernel
theorem dX11_fits_27 : decode cX11_fits 27 = .ok (.if_icmp .gt 7, 3) := by decide +kernel
theorem dX11_fits_30 : decode cX11_fits 30 = .ok (.iconst 1, 1) := by decide +kernel
theorem dX11_fits_31 : decode cX11_fits 31 = .ok (.goto 4, 3) := by decide +kernel
theorem dX11_fits_34 : decode cX11_fits 34 = .ok (.iconst 0, 1) := by decide +kernel
theorem dX11_fits_35 : decode cX11_fits 35 = .ok (.ireturn, 1) := by decide +kernel
theorem dX11_refusalOf_0 : decode cX11_refusalOf 0 = .ok (.aload_n 0, 1) := by decide +kernel
theorem dX11_refusalOf_1 : decode cX11_refusalOf 1 = .ok (.getfield 80, 3) := by decide +kernel
theorem dX11_refusalOf_4 : decode cX11_refusalOf 4 = .ok (.iload_n 1, 1) := by decide +kernel
theorem dX11_refusalOf_5 : decode cX11_refusalOf 5 = .ok (.aaload, 1) := by decide +kernel
theorem dX11_refusalOf_6 : decode cX11_refusalOf 6 = .ok (.getfield 100, 3) := by decide +kernel
theorem dX11_refusalOf_9 : decode cX11_refusalOf 9 = .ok (.iconst (-1), 1) := by decide +kernel
theorem dX11_refusalOf_10 : decode cX11_refusalOf 10 = .ok (.if_icmp .ne 6, 3) := by decide +kernel
theorem dX11_refusalOf_13 : decode cX11_refusalOf 13 = .ok (.bipush (-11), 2) := by decide +kernel
theorem dX11_refusalOf_15 : decode cX11_refusalOf 15 = .ok (.ireturn, 1) := by decide +kernel
set_option maxRecDepth 20000 in
theorem ggX11_readWeek_X11_refusalOf : GoodIn wsX11_readWeek wsX11_refusalOf := goodIn_r _ [9, 2, 10, 26, 27, 28, 29, 30, 31, 32, 33, 34, 35, 41, 42, 43, 44] (by decide +kernel) (by decide +kernel)
set_option maxRecDepth 20000 in
theorem gX11_readWeek_X11_refusalOf : GoodIn wsX11_readWeek (wsV RX11 209 RX11 yX11_refusalOf wsX11_refusalOf) := goodIn_app (goodIn_of _ (by decide +kernel)) ggX11_readWeek_X11_refusalOf
theorem dX11_readWeek_0 : decode cX11_readWeek 0 = .ok (.aload_n 0, 1) := by decide +kernel
theorem dX11_readWeek_1 : decode cX11_readWeek 1 = .ok (.iload_n 1, 1) := by decide +kernel
theorem dX11_readWeek_2 : decode cX11_readWeek 2 = .ok (.invokevirtual 209, 3) := by decide +kernel
theorem dX11_readWeek_5 : decode cX11_readWeek 5 = .ok (.istore_n 2, 1) := by decide +kernel
theorem dX11_readWeek_6 : decode cX11_readWeek 6 = .ok (.iload_n 2, 1) := by decide +kernel
theorem dX11_readWeek_7 : decode cX11_readWeek 7 = .ok (.ifCond .ne 23, 3) := by decide +kernel
theorem dX11_readWeek_30 : decode cX11_readWeek 30 = .ok (.iload_n 2, 1) := by decide +kernel
theorem dX11_readWeek_31 : decode cX11_readWeek 31 = .ok (.ireturn, 1) := by decide +kernel
set_option maxRecDepth 20000 in
theorem ggX11_refusalAt_X11_isShelf : GoodIn wsX11_refusalAt wsX11_isShelf := goodIn_r _ [6] (by decide +kernel) (by decide +kernel)
set_option maxRecDepth 20000 in
theorem gX11_refusalAt_X11_isShelf : GoodIn wsX11_refusalAt (va_wsS RX11 97 yX11_isShelf wsX11_isShelf) := goodIn_app (goodIn_of _ (by decide +kernel)) ggX11_refusalAt_X11_isShelf
theorem dX11_refusalAt_0 : decode cX11_refusalAt 0 = .ok (.iload_n 1, 1) := by decide +kernel
theorem dX11_refusalAt_1 : decode cX11_refusalAt 1 = .ok (.invokestatic 97, 3) := by decide +kernel
theorem dX11_refusalAt_4 : decode cX11_refusalAt 4 = .ok (.ifCond .ne 5, 3) := by decide +kernel
theorem dX11_refusalAt_7 : decode cX11_refusalAt 7 = .ok (.iconst (-1), 1) := by decide +kernel
theorem dX11_refusalAt_8 : decode cX11_refusalAt 8 = .ok (.ireturn, 1) := by decide +kernel
theorem dX11_refusalAt_9 : decode cX11_refusalAt 9 = .ok (.aload_n 0, 1) := by decide +kernel
theorem dX11_refusalAt_10 : decode cX11_refusalAt 10 = .ok (.getfield 80, 3) := by decide +kernel
theorem dX11_refusalAt_13 : decode cX11_refusalAt 13 = .ok (.iload_n 1, 1) := by decide +kernel
theorem dX11_refusalAt_14 : decode cX11_refusalAt 14 = .ok (.aaload, 1) := by decide +kernel
theorem dX11_refusalAt_15 : decode cX11_refusalAt 15 = .ok (.astore_n 3, 1) := by decide +kernel
theorem dX11_refusalAt_16 : decode cX11_refusalAt 16 = .ok (.aload_n 3, 1) := by decide +kernel
theorem dX11_refusalAt_17 : decode cX11_refusalAt 17 = .ok (.getfield 100, 3) := by decide +kernel
theorem dX11_refusalAt_20 : decode cX11_refusalAt 20 = .ok (.iconst (-1), 1) := by decide +kernel
theorem dX11_refusalAt_21 : decode cX11_refusalAt 21 = .ok (.if_icmp .ne 6, 3) := by decide +kernel
theorem dX11_refusalAt_24 : decode cX11_refusalAt 24 = .ok (.bipush (-11), 2) := by decide +kernel
theorem dX11_refusalAt_26 : decode cX11_refusalAt 26 = .ok (.ireturn, 1) := by decide +kernel
abbrev vwCl : List vw_C := [(RX0, TX0, 5), (RX1, TX1, 5), (RX2, TX2, 6), (RX3, TX3, 6), (RX4, TX4, 11), (RX5, TX5, 10), (RX6, TX6, 3), (RX7, TX7, 4), (RX8, TX8, 13), (RX9, TX9, 3), (RX10, TX10, 4), (RX11, TX11, 10), (RX12, TX12, 55)]
end
section
/-! the two systems: what each cell is, and what it holds in a fresh object. Laid by a program (wip/tool) -/
abbrev tyX (ca : Nat → ClassId) : List (ClassId × FieldType) := [(ca 0, .int), (ca 1, .long), (ca 2, .boolean), (ca 3, .object "SetAgain$Shelf")]
def eX (ca : Nat → ClassId) (h : Nat → Nat) : sg_E := fun k g l r => match k with
  | 0 => .inr (11, [.ref (h 1), .ref (h 10), .ref (h 13), .ref (h 17), .ref (h 25), .ref (h 27), .ref (h 28), .ref (h 32), .ref (h 36), .ref (h 39)])
  | 1 => .inr (0, [.ref (h 2), .ref (h 3), .ref (h 4), .int (g 3), .ref (h 9)])
  | 2 => .inl (ca 0, 71, .inl g)
  | 3 => .inl (ca 0, 3, .inl g)
  | 4 => .inr (5, [.ref (h 5), .int (g 1), .int (g 2), .ref (h 6), .ref (h 7), .ref (h 8), .int (g 6), .int (g 7), .int (g 8), .int (g 9)])
  | 5 => .inl (ca 0, 120, .inl g)
  | 6 => .inl (ca 0, 121, .inl g)
  | 7 => .inl (ca 0, 121, .inl g)
  | 8 => .inl (ca 0, 122, .inl g)
  | 9 => .inl (ca 0, 1464, .inl g)
  | 10 => .inr (10, [.ref (h 11), .ref (h 12), .int (g 2), .int (g 3)])
  | 11 => .inl (ca 0, 21, .inl g)
  | 12 => .inl (ca 0, 8, .inl g)
  | 13 => .inr (4, [.ref (h 1), .ref (h 10), .ref (h 14), .ref (h 15), .ref (h 16), .int (g 5), .int (g 6), .int (g 7), .int (g 8), .int (g 9), .int (g 10)])
  | 14 => .inl (ca 0, 3, .inl g)
  | 15 => .inl (ca 0, 3, .inl g)
  | 16 => .inl (ca 0, 8, .inl g)
  | 17 => .inr (8, [.ref (h 1), .ref (h 10), .ref (h 18), .ref (h 19), .ref (h 20), .ref (h 21), .ref (h 22), .ref (h 23), .ref (h 24), .int (g 9), .int (g 10), .int (g 11), .int (g 12)])
  | 18 => .inl (ca 0, 61, .inl g)
  | 19 => .inl (ca 2, 61, .inl g)
  | 20 => .inl (ca 0, 8, .inl g)
  | 21 => .inl (ca 0, 256, .inl g)
  | 22 => .inl (ca 0, 256, .inl g)
  | 23 => .inl (ca 0, 3, .inl g)
  | 24 => .inl (ca 0, 3, .inl g)
  | 25 => .inr (9, [.ref (h 1), .ref (h 10), .ref (h 26)])
  | 26 => .inl (ca 0, 1342, .inl g)
  | 27 => .inr (6, [.ref (h 1), va_rf (r 1), .int (g 2)])
  | 28 => .inr (2, [.ref (h 1), .ref (h 13), .ref (h 29), .ref (h 30), .ref (h 31), .int (g 5)])
  | 29 => .inl (ca 0, 5, .inl g)
  | 30 => .inl (ca 0, 5, .inl g)
  | 31 => .inl (ca 0, 3, .inl g)
  | 32 => .inr (1, [.ref (h 33), .ref (h 34), .ref (h 35), .int (g 3), .int (g 4)])
  | 33 => .inl (ca 0, 40, .inl g)
  | 34 => .inl (ca 0, 40, .inl g)
  | 35 => .inl (ca 0, 40, .inl g)
  | 36 => .inr (3, [.ref (h 37), .ref (h 38), .int (g 2), .int (g 3), .int (g 4), .int (g 5)])
  | 37 => .inl (ca 0, 50, .inl g)
  | 38 => .inl (ca 0, 24, .inl g)
  | 39 => .inl (ca 3, 6, .inr (.inr (.inr (.inr (fun i => if i < 6 then some (h (40 + 2 * i)) else none)))))
  | 40 => .inr (7, [.ref (h 41), .int (g 1), .int (g 2), .int (g 3)])
  | 41 => .inl (ca 1, 60, .inr (.inl l))
  | 42 => .inr (7, [.ref (h 43), .int (g 1), .int (g 2), .int (g 3)])
  | 43 => .inl (ca 1, 60, .inr (.inl l))
  | 44 => .inr (7, [.ref (h 45), .int (g 1), .int (g 2), .int (g 3)])
  | 45 => .inl (ca 1, 60, .inr (.inl l))
  | 46 => .inr (7, [.ref (h 47), .int (g 1), .int (g 2), .int (g 3)])
  | 47 => .inl (ca 1, 60, .inr (.inl l))
  | 48 => .inr (7, [.ref (h 49), .int (g 1), .int (g 2), .int (g 3)])
  | 49 => .inl (ca 1, 60, .inr (.inl l))
  | 50 => .inr (7, [.ref (h 51), .int (g 1), .int (g 2), .int (g 3)])
  | 51 => .inl (ca 1, 60, .inr (.inl l))
  | _ => .inr (0, [])
def eM (ca : Nat → ClassId) (h : Nat → Nat) : sg_E := fun k g l r => match k with
  | 0 => .inr (12, [.ref (h 1), .ref (h 2), .ref (h 3), .ref (h 4), .int (g 4), .int (g 5), .int (g 6), .ref (h 5), .ref (h 6), .int (g 9), .ref (h 7), .int (g 11), .int (g 12), .int (g 13), .int (g 14), .int (g 15), .int (g 16), .ref (h 8), .ref (h 9), .ref (h 10), .int (g 20), .int (g 21), .int (g 22), .int (g 23), .int (g 24), .int (g 25), .ref (h 11), .ref (h 12), .ref (h 13), .int (g 29), .int (g 30), .int (g 31), .ref (h 14), .ref (h 15), .ref (h 16), .int (g 35), .ref (h 17), .ref (h 18), .int (g 38), .int (g 39), .int (g 40), .int (g 41), .int (g 42), .int (g 43), .ref (h 19), .int (g 45), .ref (h 20), .ref (h 21), .int (g 48), .int (g 49), .int (g 50), .ref (h 22), .ref (h 23), .ref (h 24), .ref (h 25)])
  | 1 => .inl (ca 0, 71, .inl g)
  | 2 => .inl (ca 0, 40, .inl g)
  | 3 => .inl (ca 0, 40, .inl g)
  | 4 => .inl (ca 0, 40, .inl g)
  | 5 => .inl (ca 0, 3, .inl g)
  | 6 => .inl (ca 0, 120, .inl g)
  | 7 => .inl (ca 0, 120, .inl g)
  | 8 => .inl (ca 0, 6, .inl g)
  | 9 => .inl (ca 0, 1281, .inl g)
  | 10 => .inl (ca 0, 1342, .inl g)
  | 11 => .inl (ca 2, 21, .inl g)
  | 12 => .inl (ca 0, 3, .inl g)
  | 13 => .inl (ca 0, 66, .inl g)
  | 14 => .inl (ca 0, 488, .inl g)
  | 15 => .inl (ca 0, 8, .inl g)
  | 16 => .inl (ca 0, 8, .inl g)
  | 17 => .inl (ca 2, 793, .inl g)
  | 18 => .inl (ca 2, 793, .inl g)
  | 19 => .inl (ca 0, 8, .inl g)
  | 20 => .inl (ca 0, 50, .inl g)
  | 21 => .inl (ca 0, 24, .inl g)
  | 22 => .inl (ca 0, 6, .inl g)
  | 23 => .inl (ca 0, 6, .inl g)
  | 24 => .inl (ca 1, 360, .inr (.inl l))
  | 25 => .inl (ca 1, 60, .inr (.inl l))
  | _ => .inr (0, [])
/-- the same while it is made: references are in the row of references -/
def eXc (ca : Nat → ClassId) : sg_E := fun k g l r => match k with
  | 0 => .inr (11, [va_rf (r 0), va_rf (r 1), va_rf (r 2), va_rf (r 3), va_rf (r 4), va_rf (r 5), va_rf (r 6), va_rf (r 7), va_rf (r 8), va_rf (r 9)])
  | 1 => .inr (0, [va_rf (r 0), va_rf (r 1), va_rf (r 2), .int (g 3), va_rf (r 4)])
  | 2 => .inl (ca 0, 71, .inl g)
  | 3 => .inl (ca 0, 3, .inl g)
  | 4 => .inr (5, [va_rf (r 0), .int (g 1), .int (g 2), va_rf (r 3), va_rf (r 4), va_rf (r 5), .int (g 6), .int (g 7), .int (g 8), .int (g 9)])
  | 5 => .inl (ca 0, 120, .inl g)
  | 6 => .inl (ca 0, 121, .inl g)
  | 7 => .inl (ca 0, 121, .inl g)
  | 8 => .inl (ca 0, 122, .inl g)
  | 9 => .inl (ca 0, 1464, .inl g)
  | 10 => .inr (10, [va_rf (r 0), va_rf (r 1), .int (g 2), .int (g 3)])
  | 11 => .inl (ca 0, 21, .inl g)
  | 12 => .inl (ca 0, 8, .inl g)
  | 13 => .inr (4, [va_rf (r 0), va_rf (r 1), va_rf (r 2), va_rf (r 3), va_rf (r 4), .int (g 5), .int (g 6), .int (g 7), .int (g 8), .int (g 9), .int (g 10)])
  | 14 => .inl (ca 0, 3, .inl g)
  | 15 => .inl (ca 0, 3, .inl g)
  | 16 => .inl (ca 0, 8, .inl g)
  | 17 => .inr (8, [va_rf (r 0), va_rf (r 1), va_rf (r 2), va_rf (r 3), va_rf (r 4), va_rf (r 5), va_rf (r 6), va_rf (r 7), va_rf (r 8), .int (g 9), .int (g 10), .int (g 11), .int (g 12)])
  | 18 => .inl (ca 0, 61, .inl g)
  | 19 => .inl (ca 2, 61, .inl g)
  | 20 => .inl (ca 0, 8, .inl g)
  | 21 => .inl (ca 0, 256, .inl g)
  | 22 => .inl (ca 0, 256, .inl g)
  | 23 => .inl (ca 0, 3, .inl g)
  | 24 => .inl (ca 0, 3, .inl g)
  | 25 => .inr (9, [va_rf (r 0), va_rf (r 1), va_rf (r 2)])
  | 26 => .inl (ca 0, 1342, .inl g)
  | 27 => .inr (6, [va_rf (r 0), va_rf (r 1), .int (g 2)])
  | 28 => .inr (2, [va_rf (r 0), va_rf (r 1), va_rf (r 2), va_rf (r 3), va_rf (r 4), .int (g 5)])
  | 29 => .inl (ca 0, 5, .inl g)
  | 30 => .inl (ca 0, 5, .inl g)
  | 31 => .inl (ca 0, 3, .inl g)
  | 32 => .inr (1, [va_rf (r 0), va_rf (r 1), va_rf (r 2), .int (g 3), .int (g 4)])
  | 33 => .inl (ca 0, 40, .inl g)
  | 34 => .inl (ca 0, 40, .inl g)
  | 35 => .inl (ca 0, 40, .inl g)
  | 36 => .inr (3, [va_rf (r 0), va_rf (r 1), .int (g 2), .int (g 3), .int (g 4), .int (g 5)])
  | 37 => .inl (ca 0, 50, .inl g)
  | 38 => .inl (ca 0, 24, .inl g)
  | 39 => .inl (ca 3, 6, .inr (.inr (.inr (.inr r))))
  | 40 => .inr (7, [va_rf (r 0), .int (g 1), .int (g 2), .int (g 3)])
  | 41 => .inl (ca 1, 60, .inr (.inl l))
  | 42 => .inr (7, [va_rf (r 0), .int (g 1), .int (g 2), .int (g 3)])
  | 43 => .inl (ca 1, 60, .inr (.inl l))
  | 44 => .inr (7, [va_rf (r 0), .int (g 1), .int (g 2), .int (g 3)])
  | 45 => .inl (ca 1, 60, .inr (.inl l))
  | 46 => .inr (7, [va_rf (r 0), .int (g 1), .int (g 2), .int (g 3)])
  | 47 => .inl (ca 1, 60, .inr (.inl l))
  | 48 => .inr (7, [va_rf (r 0), .int (g 1), .int (g 2), .int (g 3)])
  | 49 => .inl (ca 1, 60, .inr (.inl l))
  | 50 => .inr (7, [va_rf (r 0), .int (g 1), .int (g 2), .int (g 3)])
  | 51 => .inl (ca 1, 60, .inr (.inl l))
  | _ => .inr (0, [])
/-- the same while it is made: references are in the row of references -/
def eMc (ca : Nat → ClassId) : sg_E := fun k g l r => match k with
  | 0 => .inr (12, [va_rf (r 0), va_rf (r 1), va_rf (r 2), va_rf (r 3), .int (g 4), .int (g 5), .int (g 6), va_rf (r 7), va_rf (r 8), .int (g 9), va_rf (r 10), .int (g 11), .int (g 12), .int (g 13), .int (g 14), .int (g 15), .int (g 16), va_rf (r 17), va_rf (r 18), va_rf (r 19), .int (g 20), .int (g 21), .int (g 22), .int (g 23), .int (g 24), .int (g 25), va_rf (r 26), va_rf (r 27), va_rf (r 28), .int (g 29), .int (g 30), .int (g 31), va_rf (r 32), va_rf (r 33), va_rf (r 34), .int (g 35), va_rf (r 36), va_rf (r 37), .int (g 38), .int (g 39), .int (g 40), .int (g 41), .int (g 42), .int (g 43), va_rf (r 44), .int (g 45), va_rf (r 46), va_rf (r 47), .int (g 48), .int (g 49), .int (g 50), va_rf (r 51), va_rf (r 52), va_rf (r 53), va_rf (r 54)])
  | 1 => .inl (ca 0, 71, .inl g)
  | 2 => .inl (ca 0, 40, .inl g)
  | 3 => .inl (ca 0, 40, .inl g)
  | 4 => .inl (ca 0, 40, .inl g)
  | 5 => .inl (ca 0, 3, .inl g)
  | 6 => .inl (ca 0, 120, .inl g)
  | 7 => .inl (ca 0, 120, .inl g)
  | 8 => .inl (ca 0, 6, .inl g)
  | 9 => .inl (ca 0, 1281, .inl g)
  | 10 => .inl (ca 0, 1342, .inl g)
  | 11 => .inl (ca 2, 21, .inl g)
  | 12 => .inl (ca 0, 3, .inl g)
  | 13 => .inl (ca 0, 66, .inl g)
  | 14 => .inl (ca 0, 488, .inl g)
  | 15 => .inl (ca 0, 8, .inl g)
  | 16 => .inl (ca 0, 8, .inl g)
  | 17 => .inl (ca 2, 793, .inl g)
  | 18 => .inl (ca 2, 793, .inl g)
  | 19 => .inl (ca 0, 8, .inl g)
  | 20 => .inl (ca 0, 50, .inl g)
  | 21 => .inl (ca 0, 24, .inl g)
  | 22 => .inl (ca 0, 6, .inl g)
  | 23 => .inl (ca 0, 6, .inl g)
  | 24 => .inl (ca 1, 360, .inr (.inl l))
  | 25 => .inl (ca 1, 60, .inr (.inl l))
  | _ => .inr (0, [])
theorem eX_sh (ca : Nat → ClassId) (h : Nat → Nat) {t : Nat} (ht : t < 6) (g : Nat → Int32) (l : Nat → Int64) (r : Nat → Option Nat) : eX ca h (40 + 2 * t) g l r = .inr (7, [.ref (h (41 + 2 * t)), .int (g 1), .int (g 2), .int (g 3)]) := by
  rcases (show t = 0 ∨ t = 1 ∨ t = 2 ∨ t = 3 ∨ t = 4 ∨ t = 5 by omega) with rfl | rfl | rfl | rfl | rfl | rfl <;> rfl
theorem eX_el (ca : Nat → ClassId) (h : Nat → Nat) {t : Nat} (ht : t < 6) (g : Nat → Int32) (l : Nat → Int64) (r : Nat → Option Nat) : eX ca h (41 + 2 * t) g l r = .inl (ca 1, 60, .inr (.inl l)) := by
  rcases (show t = 0 ∨ t = 1 ∨ t = 2 ∨ t = 3 ∨ t = 4 ∨ t = 5 by omega) with rfl | rfl | rfl | rfl | rfl | rfl <;> rfl
def zLEAST : Nat → Int32 := fun j => match j with
  | 0 => 0
  | 1 => 0
  | 2 => 0
  | 3 => 0
  | 4 => 0
  | 5 => 1
  | 6 => 0
  | 7 => 0
  | 8 => 0
  | 9 => 0
  | 10 => 0
  | _ => 0
def zMOST : Nat → Int32 := fun j => match j with
  | 0 => 60
  | 1 => 60
  | 2 => 60
  | 3 => 9
  | 4 => 9
  | 5 => 12
  | 6 => 60
  | 7 => 12
  | 8 => 3
  | 9 => 9
  | 10 => 99
  | _ => 0
def zABOVE : Nat → Int32 := fun j => match j with
  | 0 => -1
  | 1 => 0
  | 2 => 0
  | 3 => 2
  | 4 => 1
  | 5 => 3
  | 6 => 0
  | 7 => 4
  | _ => 0
def zOWN : Nat → Int32 := fun j => match j with
  | 0 => 1
  | 1 => 10
  | 2 => 11
  | 3 => 2
  | 4 => 20
  | 5 => 0
  | 6 => 0
  | 7 => 0
  | 8 => 0
  | 9 => 30
  | 10 => 0
  | 11 => 0
  | 12 => 0
  | 13 => 41
  | 14 => 40
  | 15 => 0
  | 16 => 0
  | 17 => 0
  | 18 => 50
  | 19 => 0
  | 20 => 0
  | 21 => 0
  | 22 => 0
  | 23 => 60
  | 24 => 70
  | 25 => 0
  | 26 => 0
  | 27 => 0
  | 28 => 0
  | 29 => 80
  | 30 => 0
  | 31 => 81
  | _ => 0
def zcX : List sg_S := [("SetAgain", "LEAST", "[I", 11, zLEAST), ("SetAgain", "MOST", "[I", 11, zMOST), ("SetAgain$Desks", "ABOVE", "[I", 8, zABOVE), ("SetAgain$Desks", "OWN", "[I", 32, zOWN)]
def zcM : List sg_S := []
def f0X : sg_F := fun k => match k with
  | 2 => (sgu (sgu (sgu (sgu (fun _ => 0) 67 1) 68 1) 69 1) 70 3)
  | 3 => (sgu (sgu (sgu (fun _ => 0) 0 30) 1 30) 2 30)
  | 13 => (sgu (sgu (fun _ => 0) 7 (-1)) 9 (-1))
  | 29 => (sgu (fun _ => 0) 4 (-2))
  | 40 => (sgu (fun _ => 0) 1 (-1))
  | 42 => (sgu (fun _ => 0) 1 (-1))
  | 44 => (sgu (fun _ => 0) 1 (-1))
  | 46 => (sgu (fun _ => 0) 1 (-1))
  | 48 => (sgu (fun _ => 0) 1 (-1))
  | 50 => (sgu (fun _ => 0) 1 (-1))
  | _ => (fun _ => 0)
def f0M : sg_F := fun k => match k with
  | 0 => (sgu (sgu (sgu (sgu (fun _ => 0) 11 (-1)) 42 (-2)) 20 (-1)) 24 (-1))
  | 1 => (sgu (sgu (sgu (sgu (fun _ => 0) 67 1) 68 1) 69 1) 70 3)
  | 5 => (sgu (sgu (sgu (fun _ => 0) 0 30) 1 30) 2 30)
  | 22 => (sgu (sgu (sgu (sgu (sgu (sgu (fun _ => 0) 0 (-1)) 1 (-1)) 2 (-1)) 3 (-1)) 4 (-1)) 5 (-1))
  | _ => (fun _ => 0)
def L0 : sg_L := fun _ _ => 0
def Q0 : sg_Q := fun _ _ => none
theorem f0X_sh {t : Nat} (ht : t < 6) : f0X (40 + 2 * t) = sgu (fun _ => 0) 1 (-1) := by
  rcases (show t = 0 ∨ t = 1 ∨ t = 2 ∨ t = 3 ∨ t = 4 ∨ t = 5 by omega) with rfl | rfl | rfl | rfl | rfl | rfl <;> rfl
theorem f0X_st {x : Int32} (h1 : 0 ≤ x.toInt) (h2 : x.toInt ≤ 2) : f0X 3 x.toNatClampNeg = 30 := by
  have h : x.toNatClampNeg < 3 := bn_kI h1 (by omega)
  rcases (show x.toNatClampNeg = 0 ∨ x.toNatClampNeg = 1 ∨ x.toNatClampNeg = 2 by omega) with z | z | z <;> rw [z] <;> rfl
theorem f0X_led {x : Int32} (h1 : 0 ≤ x.toInt) (h2 : x.toInt ≤ 4) : (x.toInt ≤ 3 ∧ (f0X 29 x.toNatClampNeg).toInt = 0) ∨ (x.toInt = 4 ∧ (f0X 29 x.toNatClampNeg).toInt = -2) := by
  have h : x.toNatClampNeg = x.toInt.toNat := rfl
  rcases (show x.toInt.toNat = 0 ∨ x.toInt.toNat = 1 ∨ x.toInt.toNat = 2 ∨ x.toInt.toNat = 3 ∨ x.toInt.toNat = 4 by omega) with z | z | z | z | z <;> rw [h, z]
  · exact Or.inl ⟨by omega, by decide⟩
  · exact Or.inl ⟨by omega, by decide⟩
  · exact Or.inl ⟨by omega, by decide⟩
  · exact Or.inl ⟨by omega, by decide⟩
  · exact Or.inr ⟨by omega, by decide⟩
theorem f0M_st {x : Int32} (h1 : 0 ≤ x.toInt) (h2 : x.toInt ≤ 2) : f0M 5 x.toNatClampNeg = 30 := by
  have h : x.toNatClampNeg < 3 := bn_kI h1 (by omega)
  rcases (show x.toNatClampNeg = 0 ∨ x.toNatClampNeg = 1 ∨ x.toNatClampNeg = 2 by omega) with z | z | z <;> rw [z] <;> rfl
end
section
/-! the class, on a fresh object. Laid by a program (wip/tool) -/
set_option maxHeartbeats 4000000 in
set_option maxRecDepth 100000 in
theorem cf_X11_isPart (l : Launch) (D : va_G) (ca : Nat → ClassId) (za h : Nat → Nat) (hh : sgH 52 h) (f : sg_F) (L : sg_L) (Q : sg_Q) (x0 : Int32) (sz : Nat) : Met l yX11_isPart wsX11_isPart { frames := 0, cells := 0, slots := 0, locals := 0 } (sgP D vwCl (tyX ca) 52 h (eX ca h) zcX za f L Q sz [.int x0]) (sgQi D vwCl 52 h (eX ca h) sz (fun r f1 L1 Q1 => (f1 = f ∧ L1 = L ∧ Q1 = Q) ∧ ((r = 1 ∧ (0 ≤ x0.toInt ∧ x0.toInt ≤ 2)) ∨ (r = 0 ∧ (¬ (0 ≤ x0.toInt ∧ x0.toInt ≤ 2)))))) 0 0 (sgA 52 h sz) := by
  refine sg_ofWz (cc := cX11_isPart) (maxL := 1) RX11 (by decide) rfl rfl (Nat.le_of_ble_eq_true rfl) ?_
  intro p e s m below meth c Qz ls hx hb hml hown hts hK hZ hP hS hl hret
  have hA := sgY.self (n := 52) (h := h) (sz := s.heap.size)
  have hl : lv_has ls 1 [(0, .int x0)] := hl
  obtain ⟨H, hH⟩ : ∃ z : Heap, z = s.heap := ⟨_, rfl⟩
  obtain ⟨locs, hlo⟩ : ∃ z : List Loc, z = [] := ⟨_, rfl⟩
  have hP : va_P D vwCl (sgw 52 h (eX ca h) f L Q) H := by rw [hH]; exact hP
  have hS : va_S (sgA 52 h s.heap.size) s.heap H locs := by rw [hH, hlo]; exact hS
  suffices hgo : W p l e ({ frames := 0, cells := 0, slots := 0, locals := 0 }) s m ([.int x0] : List Value).toArray below meth c H locs 0 0 Qz (F0 m 0 ls []) by rw [hH, hlo] at hgo; exact hgo
  refine lv_iload_n hx hb dX11_isPart_0 rfl (lv_at hl 0 rfl) ?_
  refine lv_if_lt (tgt := 13) hx hb dX11_isPart_1 (by decide) (fun c => ?_) (fun c => ?_)
  · skip
    have c_1 : x0.toInt < 0 := (by have z := bn_lt c; have k1 : (0 : Int32).toInt = 0 := (by decide); omega)
    refine lv_iconst (v := 0) hx hb dX11_isPart_13 (by decide) ?_
    exact hret _ _ _ _ (0) f L Q dX11_isPart_14 (by decide) hP hS ⟨⟨rfl, rfl, rfl⟩, Or.inr (⟨rfl, by omega⟩)⟩
  · skip
    have c_2 : 0 ≤ x0.toInt := (by have z := bn_nlt c; have k1 : (0 : Int32).toInt = 0 := (by decide); omega)
    refine lv_iload_n hx hb dX11_isPart_4 rfl (lv_at hl 0 rfl) ?_
    refine lv_iconst (v := 3) hx hb dX11_isPart_5 (by decide) ?_
    refine lv_icmp_ge (tgt := 13) hx hb dX11_isPart_6 (by decide) (fun c => ?_) (fun c => ?_)
    · skip
      have c_3 : 3 ≤ x0.toInt := (by have z := bn_le c; have k1 : (3 : Int32).toInt = 3 := (by decide); omega)
      refine lv_iconst (v := 0) hx hb dX11_isPart_13 (by decide) ?_
      exact hret _ _ _ _ (0) f L Q dX11_isPart_14 (by decide) hP hS ⟨⟨rfl, rfl, rfl⟩, Or.inr (⟨rfl, by omega⟩)⟩
    · skip
      have c_4 : x0.toInt < 3 := (by have z := bn_nle c; have k1 : (3 : Int32).toInt = 3 := (by decide); omega)
      refine lv_iconst (v := 1) hx hb dX11_isPart_9 (by decide) ?_
      refine lv_goto (tgt := 14) hx hb dX11_isPart_10 (by decide) ?_
      exact hret _ _ _ _ (1) f L Q dX11_isPart_14 (by decide) hP hS ⟨⟨rfl, rfl, rfl⟩, Or.inl ⟨rfl, by omega⟩⟩

set_option maxHeartbeats 4000000 in
set_option maxRecDepth 100000 in
theorem cf_X11_isSetting (l : Launch) (D : va_G) (ca : Nat → ClassId) (za h : Nat → Nat) (hh : sgH 52 h) (f : sg_F) (L : sg_L) (Q : sg_Q) (x0 : Int32) (sz : Nat) : Met l yX11_isSetting wsX11_isSetting { frames := 0, cells := 0, slots := 0, locals := 0 } (sgP D vwCl (tyX ca) 52 h (eX ca h) zcX za f L Q sz [.int x0]) (sgQi D vwCl 52 h (eX ca h) sz (fun r f1 L1 Q1 => (f1 = f ∧ L1 = L ∧ Q1 = Q) ∧ ((r = 1 ∧ (0 ≤ x0.toInt ∧ x0.toInt ≤ 60)) ∨ (r = 0 ∧ (¬ (0 ≤ x0.toInt ∧ x0.toInt ≤ 60)))))) 0 0 (sgA 52 h sz) := by
  refine sg_ofWz (cc := cX11_isSetting) (maxL := 1) RX11 (by decide) rfl rfl (Nat.le_of_ble_eq_true rfl) ?_
  intro p e s m below meth c Qz ls hx hb hml hown hts hK hZ hP hS hl hret
  have hA := sgY.self (n := 52) (h := h) (sz := s.heap.size)
  have hl : lv_has ls 1 [(0, .int x0)] := hl
  obtain ⟨H, hH⟩ : ∃ z : Heap, z = s.heap := ⟨_, rfl⟩
  obtain ⟨locs, hlo⟩ : ∃ z : List Loc, z = [] := ⟨_, rfl⟩
  have hP : va_P D vwCl (sgw 52 h (eX ca h) f L Q) H := by rw [hH]; exact hP
  have hS : va_S (sgA 52 h s.heap.size) s.heap H locs := by rw [hH, hlo]; exact hS
  suffices hgo : W p l e ({ frames := 0, cells := 0, slots := 0, locals := 0 }) s m ([.int x0] : List Value).toArray below meth c H locs 0 0 Qz (F0 m 0 ls []) by rw [hH, hlo] at hgo; exact hgo
  refine lv_iload_n hx hb dX11_isSetting_0 rfl (lv_at hl 0 rfl) ?_
  refine lv_if_lt (tgt := 14) hx hb dX11_isSetting_1 (by decide) (fun c => ?_) (fun c => ?_)
  · skip
    have c_1 : x0.toInt < 0 := (by have z := bn_lt c; have k1 : (0 : Int32).toInt = 0 := (by decide); omega)
    refine lv_iconst (v := 0) hx hb dX11_isSetting_14 (by decide) ?_
    exact hret _ _ _ _ (0) f L Q dX11_isSetting_15 (by decide) hP hS ⟨⟨rfl, rfl, rfl⟩, Or.inr (⟨rfl, by omega⟩)⟩
  · skip
    have c_2 : 0 ≤ x0.toInt := (by have z := bn_nlt c; have k1 : (0 : Int32).toInt = 0 := (by decide); omega)
    refine lv_iload_n hx hb dX11_isSetting_4 rfl (lv_at hl 0 rfl) ?_
    refine lv_bipush (v := 60) hx hb dX11_isSetting_5 (by decide) ?_
    refine lv_icmp_gt (tgt := 14) hx hb dX11_isSetting_7 (by decide) (fun c => ?_) (fun c => ?_)
    · skip
      have c_3 : 60 < x0.toInt := (by have z := bn_lt c; have k1 : (60 : Int32).toInt = 60 := (by decide); omega)
      refine lv_iconst (v := 0) hx hb dX11_isSetting_14 (by decide) ?_
      exact hret _ _ _ _ (0) f L Q dX11_isSetting_15 (by decide) hP hS ⟨⟨rfl, rfl, rfl⟩, Or.inr (⟨rfl, by omega⟩)⟩
    · skip
      have c_4 : x0.toInt ≤ 60 := (by have z := bn_nlt c; have k1 : (60 : Int32).toInt = 60 := (by decide); omega)
      refine lv_iconst (v := 1) hx hb dX11_isSetting_10 (by decide) ?_
      refine lv_goto (tgt := 15) hx hb dX11_isSetting_11 (by decide) ?_
      exact hret _ _ _ _ (1) f L Q dX11_isSetting_15 (by decide) hP hS ⟨⟨rfl, rfl, rfl⟩, Or.inl ⟨rfl, by omega⟩⟩

set_option maxHeartbeats 4000000 in
set_option maxRecDepth 100000 in
theorem cf_X11_isShelf (l : Launch) (D : va_G) (ca : Nat → ClassId) (za h : Nat → Nat) (hh : sgH 52 h) (f : sg_F) (L : sg_L) (Q : sg_Q) (x0 : Int32) (sz : Nat) : Met l yX11_isShelf wsX11_isShelf { frames := 0, cells := 0, slots := 0, locals := 0 } (sgP D vwCl (tyX ca) 52 h (eX ca h) zcX za f L Q sz [.int x0]) (sgQi D vwCl 52 h (eX ca h) sz (fun r f1 L1 Q1 => (f1 = f ∧ L1 = L ∧ Q1 = Q) ∧ ((r = 1 ∧ (0 ≤ x0.toInt ∧ x0.toInt ≤ 5)) ∨ (r = 0 ∧ (¬ (0 ≤ x0.toInt ∧ x0.toInt ≤ 5)))))) 0 0 (sgA 52 h sz) := by
  refine sg_ofWz (cc := cX11_isShelf) (maxL := 1) RX11 (by decide) rfl rfl (Nat.le_of_ble_eq_true rfl) ?_
  intro p e s m below meth c Qz ls hx hb hml hown hts hK hZ hP hS hl hret
  have hA := sgY.self (n := 52) (h := h) (sz := s.heap.size)
  have hl : lv_has ls 1 [(0, .int x0)] := hl
  obtain ⟨H, hH⟩ : ∃ z : Heap, z = s.heap := ⟨_, rfl⟩
  obtain ⟨locs, hlo⟩ : ∃ z : List Loc, z = [] := ⟨_, rfl⟩
  have hP : va_P D vwCl (sgw 52 h (eX ca h) f L Q) H := by rw [hH]; exact hP
  have hS : va_S (sgA 52 h s.heap.size) s.heap H locs := by rw [hH, hlo]; exact hS
  suffices hgo : W p l e ({ frames := 0, cells := 0, slots := 0, locals := 0 }) s m ([.int x0] : List Value).toArray below meth c H locs 0 0 Qz (F0 m 0 ls []) by rw [hH, hlo] at hgo; exact hgo
  refine lv_iload_n hx hb dX11_isShelf_0 rfl (lv_at hl 0 rfl) ?_
  refine lv_if_lt (tgt := 14) hx hb dX11_isShelf_1 (by decide) (fun c => ?_) (fun c => ?_)
  · skip
    have c_1 : x0.toInt < 0 := (by have z := bn_lt c; have k1 : (0 : Int32).toInt = 0 := (by decide); omega)
    refine lv_iconst (v := 0) hx hb dX11_isShelf_14 (by decide) ?_
    exact hret _ _ _ _ (0) f L Q dX11_isShelf_15 (by decide) hP hS ⟨⟨rfl, rfl, rfl⟩, Or.inr (⟨rfl, by omega⟩)⟩
  · skip
    have c_2 : 0 ≤ x0.toInt := (by have z := bn_nlt c; have k1 : (0 : Int32).toInt = 0 := (by decide); omega)
    refine lv_iload_n hx hb dX11_isShelf_4 rfl (lv_at hl 0 rfl) ?_
    refine lv_bipush (v := 6) hx hb dX11_isShelf_5 (by decide) ?_
    refine lv_icmp_ge (tgt := 14) hx hb dX11_isShelf_7 (by decide) (fun c => ?_) (fun c => ?_)
    · skip
      have c_3 : 6 ≤ x0.toInt := (by have z := bn_le c; have k1 : (6 : Int32).toInt = 6 := (by decide); omega)
      refine lv_iconst (v := 0) hx hb dX11_isShelf_14 (by decide) ?_
      exact hret _ _ _ _ (0) f L Q dX11_isShelf_15 (by decide) hP hS ⟨⟨rfl, rfl, rfl⟩, Or.inr (⟨rfl, by omega⟩)⟩
    · skip
      have c_4 : x0.toInt < 6 := (by have z := bn_nle c; have k1 : (6 : Int32).toInt = 6 := (by decide); omega)
      refine lv_iconst (v := 1) hx hb dX11_isShelf_10 (by decide) ?_
      refine lv_goto (tgt := 15) hx hb dX11_isShelf_11 (by decide) ?_
      exact hret _ _ _ _ (1) f L Q dX11_isShelf_15 (by decide) hP hS ⟨⟨rfl, rfl, rfl⟩, Or.inl ⟨rfl, by omega⟩⟩

set_option maxHeartbeats 4000000 in
set_option maxRecDepth 100000 in
theorem cf_X11_isKind (l : Launch) (D : va_G) (ca : Nat → ClassId) (za h : Nat → Nat) (hh : sgH 52 h) (f : sg_F) (L : sg_L) (Q : sg_Q) (x0 : Int32) (sz : Nat) : Met l yX11_isKind wsX11_isKind { frames := 0, cells := 0, slots := 0, locals := 0 } (sgP D vwCl (tyX ca) 52 h (eX ca h) zcX za f L Q sz [.int x0]) (sgQi D vwCl 52 h (eX ca h) sz (fun r f1 L1 Q1 => (f1 = f ∧ L1 = L ∧ Q1 = Q) ∧ ((r = 1 ∧ (0 ≤ x0.toInt ∧ x0.toInt ≤ 7)) ∨ (r = 0 ∧ (¬ (0 ≤ x0.toInt ∧ x0.toInt ≤ 7)))))) 0 0 (sgA 52 h sz) := by
  refine sg_ofWz (cc := cX11_isKind) (maxL := 1) RX11 (by decide) rfl rfl (Nat.le_of_ble_eq_true rfl) ?_
  intro p e s m below meth c Qz ls hx hb hml hown hts hK hZ hP hS hl hret
  have hA := sgY.self (n := 52) (h := h) (sz := s.heap.size)
  have hl : lv_has ls 1 [(0, .int x0)] := hl
  obtain ⟨H, hH⟩ : ∃ z : Heap, z = s.heap := ⟨_, rfl⟩
  obtain ⟨locs, hlo⟩ : ∃ z : List Loc, z = [] := ⟨_, rfl⟩
  have hP : va_P D vwCl (sgw 52 h (eX ca h) f L Q) H := by rw [hH]; exact hP
  have hS : va_S (sgA 52 h s.heap.size) s.heap H locs := by rw [hH, hlo]; exact hS
  suffices hgo : W p l e ({ frames := 0, cells := 0, slots := 0, locals := 0 }) s m ([.int x0] : List Value).toArray below meth c H locs 0 0 Qz (F0 m 0 ls []) by rw [hH, hlo] at hgo; exact hgo
  refine lv_iload_n hx hb dX11_isKind_0 rfl (lv_at hl 0 rfl) ?_
  refine lv_if_lt (tgt := 14) hx hb dX11_isKind_1 (by decide) (fun c => ?_) (fun c => ?_)
  · skip
    have c_1 : x0.toInt < 0 := (by have z := bn_lt c; have k1 : (0 : Int32).toInt = 0 := (by decide); omega)
    refine lv_iconst (v := 0) hx hb dX11_isKind_14 (by decide) ?_
    exact hret _ _ _ _ (0) f L Q dX11_isKind_15 (by decide) hP hS ⟨⟨rfl, rfl, rfl⟩, Or.inr (⟨rfl, by omega⟩)⟩
  · skip
    have c_2 : 0 ≤ x0.toInt := (by have z := bn_nlt c; have k1 : (0 : Int32).toInt = 0 := (by decide); omega)
    refine lv_iload_n hx hb dX11_isKind_4 rfl (lv_at hl 0 rfl) ?_
    refine lv_bipush (v := 8) hx hb dX11_isKind_5 (by decide) ?_
    refine lv_icmp_ge (tgt := 14) hx hb dX11_isKind_7 (by decide) (fun c => ?_) (fun c => ?_)
    · skip
      have c_3 : 8 ≤ x0.toInt := (by have z := bn_le c; have k1 : (8 : Int32).toInt = 8 := (by decide); omega)
      refine lv_iconst (v := 0) hx hb dX11_isKind_14 (by decide) ?_
      exact hret _ _ _ _ (0) f L Q dX11_isKind_15 (by decide) hP hS ⟨⟨rfl, rfl, rfl⟩, Or.inr (⟨rfl, by omega⟩)⟩
    · skip
      have c_4 : x0.toInt < 8 := (by have z := bn_nle c; have k1 : (8 : Int32).toInt = 8 := (by decide); omega)
      refine lv_iconst (v := 1) hx hb dX11_isKind_10 (by decide) ?_
      refine lv_goto (tgt := 15) hx hb dX11_isKind_11 (by decide) ?_
      exact hret _ _ _ _ (1) f L Q dX11_isKind_15 (by decide) hP hS ⟨⟨rfl, rfl, rfl⟩, Or.inl ⟨rfl, by omega⟩⟩

set_option maxHeartbeats 4000000 in
set_option maxRecDepth 100000 in
theorem cf_X11_fits_5 (l : Launch) (D : va_G) (ca : Nat → ClassId) (za h : Nat → Nat) (hh : sgH 52 h) (f : sg_F) (L : sg_L) (Q : sg_Q) (x1 : Int32) (sz : Nat) : Met l yX11_fits wsX11_fits { frames := 0, cells := 0, slots := 0, locals := 0 } (sgP D vwCl (tyX ca) 52 h (eX ca h) zcX za f L Q sz [.int 5, .int x1]) (sgQi D vwCl 52 h (eX ca h) sz (fun r f1 L1 Q1 => (f1 = f ∧ L1 = L ∧ Q1 = Q) ∧ ((r = 1 ∧ (1 ≤ x1.toInt ∧ x1.toInt ≤ 12)) ∨ (r = 0 ∧ (¬ (1 ≤ x1.toInt ∧ x1.toInt ≤ 12)))))) 0 0 (sgA 52 h sz) := by
  refine sg_ofWz (cc := cX11_fits) (maxL := 2) RX11 (by decide) rfl rfl (Nat.le_of_ble_eq_true rfl) ?_
  intro p e s m below meth c Qz ls hx hb hml hown hts hK hZ hP hS hl hret
  have hA := sgY.self (n := 52) (h := h) (sz := s.heap.size)
  have hl : lv_has ls 2 [(0, .int 5), (1, .int x1)] := hl
  obtain ⟨H, hH⟩ : ∃ z : Heap, z = s.heap := ⟨_, rfl⟩
  obtain ⟨locs, hlo⟩ : ∃ z : List Loc, z = [] := ⟨_, rfl⟩
  have hP : va_P D vwCl (sgw 52 h (eX ca h) f L Q) H := by rw [hH]; exact hP
  have hS : va_S (sgA 52 h s.heap.size) s.heap H locs := by rw [hH, hlo]; exact hS
  suffices hgo : W p l e ({ frames := 0, cells := 0, slots := 0, locals := 0 }) s m ([.int 5, .int x1] : List Value).toArray below meth c H locs 0 0 Qz (F0 m 0 ls []) by rw [hH, hlo] at hgo; exact hgo
  refine lv_iload_n hx hb dX11_fits_0 rfl (lv_at hl 0 rfl) ?_
  refine lv_if_lt (tgt := 34) hx hb dX11_fits_1 (by decide) (fun c => absurd c (by decide)) (fun c => ?_)
  refine lv_iload_n hx hb dX11_fits_4 rfl (lv_at hl 0 rfl) ?_
  refine sg_gets hx hb hZ 1 rfl hS hown (hts (.fieldLink RX11 314 "SetAgain" "MOST" "[I") (by decide +kernel)) (fun _ h9 => h9) dX11_fits_5 ?_
  refine sg_slen hx hb hZ 1 rfl hS (v := 11) (by decide) dX11_fits_8 ?_
  refine lv_icmp_ge (tgt := 34) hx hb dX11_fits_9 (by decide) (fun c => absurd c (by decide)) (fun c => ?_)
  refine lv_iload_n hx hb dX11_fits_12 rfl (lv_at hl 1 rfl) ?_
  refine sg_gets hx hb hZ 0 rfl hS hown (hts (.fieldLink RX11 317 "SetAgain" "LEAST" "[I") (by decide +kernel)) (fun _ h9 => h9) dX11_fits_13 ?_
  refine lv_iload_n hx hb dX11_fits_16 rfl (lv_at hl 0 rfl) ?_
  refine sg_sald hx hb hZ 0 rfl hS (y := 5) (N := 11) (vp_in_iff.mpr (by decide)) dX11_fits_17 ?_
  refine W.eq (g2 := F0 m 18 ls [.int 1, .int x1]) (by rfl) ?_
  refine lv_icmp_lt (tgt := 34) hx hb dX11_fits_18 (by decide) (fun c => ?_) (fun c => ?_)
  · skip
    have c_1 : x1.toInt < 1 := (by have z := bn_lt c; have k1 : (1 : Int32).toInt = 1 := (by decide); omega)
    refine lv_iconst (v := 0) hx hb dX11_fits_34 (by decide) ?_
    exact hret _ _ _ _ (0) f L Q dX11_fits_35 (by decide) hP hS ⟨⟨rfl, rfl, rfl⟩, Or.inr (⟨rfl, by omega⟩)⟩
  · skip
    have c_2 : 1 ≤ x1.toInt := (by have z := bn_nlt c; have k1 : (1 : Int32).toInt = 1 := (by decide); omega)
    refine lv_iload_n hx hb dX11_fits_21 rfl (lv_at hl 1 rfl) ?_
    refine sg_gets hx hb hZ 1 rfl hS hown (hts (.fieldLink RX11 314 "SetAgain" "MOST" "[I") (by decide +kernel)) (fun _ h9 => h9) dX11_fits_22 ?_
    refine lv_iload_n hx hb dX11_fits_25 rfl (lv_at hl 0 rfl) ?_
    refine sg_sald hx hb hZ 1 rfl hS (y := 5) (N := 11) (vp_in_iff.mpr (by decide)) dX11_fits_26 ?_
    refine W.eq (g2 := F0 m 27 ls [.int 12, .int x1]) (by rfl) ?_
    refine lv_icmp_gt (tgt := 34) hx hb dX11_fits_27 (by decide) (fun c => ?_) (fun c => ?_)
    · skip
      have c_3 : 12 < x1.toInt := (by have z := bn_lt c; have k1 : (12 : Int32).toInt = 12 := (by decide); omega)
      refine lv_iconst (v := 0) hx hb dX11_fits_34 (by decide) ?_
      exact hret _ _ _ _ (0) f L Q dX11_fits_35 (by decide) hP hS ⟨⟨rfl, rfl, rfl⟩, Or.inr (⟨rfl, by omega⟩)⟩
    · skip
      have c_4 : x1.toInt ≤ 12 := (by have z := bn_nlt c; have k1 : (12 : Int32).toInt = 12 := (by decide); omega)
      refine lv_iconst (v := 1) hx hb dX11_fits_30 (by decide) ?_
      refine lv_goto (tgt := 35) hx hb dX11_fits_31 (by decide) ?_
      exact hret _ _ _ _ (1) f L Q dX11_fits_35 (by decide) hP hS ⟨⟨rfl, rfl, rfl⟩, Or.inl ⟨rfl, by omega⟩⟩

set_option maxHeartbeats 4000000 in
set_option maxRecDepth 100000 in
theorem cf_X11_fits_8 (l : Launch) (D : va_G) (ca : Nat → ClassId) (za h : Nat → Nat) (hh : sgH 52 h) (f : sg_F) (L : sg_L) (Q : sg_Q) (x1 : Int32) (sz : Nat) : Met l yX11_fits wsX11_fits { frames := 0, cells := 0, slots := 0, locals := 0 } (sgP D vwCl (tyX ca) 52 h (eX ca h) zcX za f L Q sz [.int 8, .int x1]) (sgQi D vwCl 52 h (eX ca h) sz (fun r f1 L1 Q1 => (f1 = f ∧ L1 = L ∧ Q1 = Q) ∧ ((r = 1 ∧ (0 ≤ x1.toInt ∧ x1.toInt ≤ 3)) ∨ (r = 0 ∧ (¬ (0 ≤ x1.toInt ∧ x1.toInt ≤ 3)))))) 0 0 (sgA 52 h sz) := by
  refine sg_ofWz (cc := cX11_fits) (maxL := 2) RX11 (by decide) rfl rfl (Nat.le_of_ble_eq_true rfl) ?_
  intro p e s m below meth c Qz ls hx hb hml hown hts hK hZ hP hS hl hret
  have hA := sgY.self (n := 52) (h := h) (sz := s.heap.size)
  have hl : lv_has ls 2 [(0, .int 8), (1, .int x1)] := hl
  obtain ⟨H, hH⟩ : ∃ z : Heap, z = s.heap := ⟨_, rfl⟩
  obtain ⟨locs, hlo⟩ : ∃ z : List Loc, z = [] := ⟨_, rfl⟩
  have hP : va_P D vwCl (sgw 52 h (eX ca h) f L Q) H := by rw [hH]; exact hP
  have hS : va_S (sgA 52 h s.heap.size) s.heap H locs := by rw [hH, hlo]; exact hS
  suffices hgo : W p l e ({ frames := 0, cells := 0, slots := 0, locals := 0 }) s m ([.int 8, .int x1] : List Value).toArray below meth c H locs 0 0 Qz (F0 m 0 ls []) by rw [hH, hlo] at hgo; exact hgo
  refine lv_iload_n hx hb dX11_fits_0 rfl (lv_at hl 0 rfl) ?_
  refine lv_if_lt (tgt := 34) hx hb dX11_fits_1 (by decide) (fun c => absurd c (by decide)) (fun c => ?_)
  refine lv_iload_n hx hb dX11_fits_4 rfl (lv_at hl 0 rfl) ?_
  refine sg_gets hx hb hZ 1 rfl hS hown (hts (.fieldLink RX11 314 "SetAgain" "MOST" "[I") (by decide +kernel)) (fun _ h9 => h9) dX11_fits_5 ?_
  refine sg_slen hx hb hZ 1 rfl hS (v := 11) (by decide) dX11_fits_8 ?_
  refine lv_icmp_ge (tgt := 34) hx hb dX11_fits_9 (by decide) (fun c => absurd c (by decide)) (fun c => ?_)
  refine lv_iload_n hx hb dX11_fits_12 rfl (lv_at hl 1 rfl) ?_
  refine sg_gets hx hb hZ 0 rfl hS hown (hts (.fieldLink RX11 317 "SetAgain" "LEAST" "[I") (by decide +kernel)) (fun _ h9 => h9) dX11_fits_13 ?_
  refine lv_iload_n hx hb dX11_fits_16 rfl (lv_at hl 0 rfl) ?_
  refine sg_sald hx hb hZ 0 rfl hS (y := 8) (N := 11) (vp_in_iff.mpr (by decide)) dX11_fits_17 ?_
  refine W.eq (g2 := F0 m 18 ls [.int 0, .int x1]) (by rfl) ?_
  refine lv_icmp_lt (tgt := 34) hx hb dX11_fits_18 (by decide) (fun c => ?_) (fun c => ?_)
  · skip
    have c_1 : x1.toInt < 0 := (by have z := bn_lt c; have k1 : (0 : Int32).toInt = 0 := (by decide); omega)
    refine lv_iconst (v := 0) hx hb dX11_fits_34 (by decide) ?_
    exact hret _ _ _ _ (0) f L Q dX11_fits_35 (by decide) hP hS ⟨⟨rfl, rfl, rfl⟩, Or.inr (⟨rfl, by omega⟩)⟩
  · skip
    have c_2 : 0 ≤ x1.toInt := (by have z := bn_nlt c; have k1 : (0 : Int32).toInt = 0 := (by decide); omega)
    refine lv_iload_n hx hb dX11_fits_21 rfl (lv_at hl 1 rfl) ?_
    refine sg_gets hx hb hZ 1 rfl hS hown (hts (.fieldLink RX11 314 "SetAgain" "MOST" "[I") (by decide +kernel)) (fun _ h9 => h9) dX11_fits_22 ?_
    refine lv_iload_n hx hb dX11_fits_25 rfl (lv_at hl 0 rfl) ?_
    refine sg_sald hx hb hZ 1 rfl hS (y := 8) (N := 11) (vp_in_iff.mpr (by decide)) dX11_fits_26 ?_
    refine W.eq (g2 := F0 m 27 ls [.int 3, .int x1]) (by rfl) ?_
    refine lv_icmp_gt (tgt := 34) hx hb dX11_fits_27 (by decide) (fun c => ?_) (fun c => ?_)
    · skip
      have c_3 : 3 < x1.toInt := (by have z := bn_lt c; have k1 : (3 : Int32).toInt = 3 := (by decide); omega)
      refine lv_iconst (v := 0) hx hb dX11_fits_34 (by decide) ?_
      exact hret _ _ _ _ (0) f L Q dX11_fits_35 (by decide) hP hS ⟨⟨rfl, rfl, rfl⟩, Or.inr (⟨rfl, by omega⟩)⟩
    · skip
      have c_4 : x1.toInt ≤ 3 := (by have z := bn_nlt c; have k1 : (3 : Int32).toInt = 3 := (by decide); omega)
      refine lv_iconst (v := 1) hx hb dX11_fits_30 (by decide) ?_
      refine lv_goto (tgt := 35) hx hb dX11_fits_31 (by decide) ?_
      exact hret _ _ _ _ (1) f L Q dX11_fits_35 (by decide) hP hS ⟨⟨rfl, rfl, rfl⟩, Or.inl ⟨rfl, by omega⟩⟩

set_option maxHeartbeats 4000000 in
set_option maxRecDepth 100000 in
theorem cf_X11_fits_9 (l : Launch) (D : va_G) (ca : Nat → ClassId) (za h : Nat → Nat) (hh : sgH 52 h) (f : sg_F) (L : sg_L) (Q : sg_Q) (x1 : Int32) (sz : Nat) : Met l yX11_fits wsX11_fits { frames := 0, cells := 0, slots := 0, locals := 0 } (sgP D vwCl (tyX ca) 52 h (eX ca h) zcX za f L Q sz [.int 9, .int x1]) (sgQi D vwCl 52 h (eX ca h) sz (fun r f1 L1 Q1 => (f1 = f ∧ L1 = L ∧ Q1 = Q) ∧ ((r = 1 ∧ (0 ≤ x1.toInt ∧ x1.toInt ≤ 9)) ∨ (r = 0 ∧ (¬ (0 ≤ x1.toInt ∧ x1.toInt ≤ 9)))))) 0 0 (sgA 52 h sz) := by
  refine sg_ofWz (cc := cX11_fits) (maxL := 2) RX11 (by decide) rfl rfl (Nat.le_of_ble_eq_true rfl) ?_
  intro p e s m below meth c Qz ls hx hb hml hown hts hK hZ hP hS hl hret
  have hA := sgY.self (n := 52) (h := h) (sz := s.heap.size)
  have hl : lv_has ls 2 [(0, .int 9), (1, .int x1)] := hl
  obtain ⟨H, hH⟩ : ∃ z : Heap, z = s.heap := ⟨_, rfl⟩
  obtain ⟨locs, hlo⟩ : ∃ z : List Loc, z = [] := ⟨_, rfl⟩
  have hP : va_P D vwCl (sgw 52 h (eX ca h) f L Q) H := by rw [hH]; exact hP
  have hS : va_S (sgA 52 h s.heap.size) s.heap H locs := by rw [hH, hlo]; exact hS
  suffices hgo : W p l e ({ frames := 0, cells := 0, slots := 0, locals := 0 }) s m ([.int 9, .int x1] : List Value).toArray below meth c H locs 0 0 Qz (F0 m 0 ls []) by rw [hH, hlo] at hgo; exact hgo
  refine lv_iload_n hx hb dX11_fits_0 rfl (lv_at hl 0 rfl) ?_
  refine lv_if_lt (tgt := 34) hx hb dX11_fits_1 (by decide) (fun c => absurd c (by decide)) (fun c => ?_)
  refine lv_iload_n hx hb dX11_fits_4 rfl (lv_at hl 0 rfl) ?_
  refine sg_gets hx hb hZ 1 rfl hS hown (hts (.fieldLink RX11 314 "SetAgain" "MOST" "[I") (by decide +kernel)) (fun _ h9 => h9) dX11_fits_5 ?_
  refine sg_slen hx hb hZ 1 rfl hS (v := 11) (by decide) dX11_fits_8 ?_
  refine lv_icmp_ge (tgt := 34) hx hb dX11_fits_9 (by decide) (fun c => absurd c (by decide)) (fun c => ?_)
  refine lv_iload_n hx hb dX11_fits_12 rfl (lv_at hl 1 rfl) ?_
  refine sg_gets hx hb hZ 0 rfl hS hown (hts (.fieldLink RX11 317 "SetAgain" "LEAST" "[I") (by decide +kernel)) (fun _ h9 => h9) dX11_fits_13 ?_
  refine lv_iload_n hx hb dX11_fits_16 rfl (lv_at hl 0 rfl) ?_
  refine sg_sald hx hb hZ 0 rfl hS (y := 9) (N := 11) (vp_in_iff.mpr (by decide)) dX11_fits_17 ?_
  refine W.eq (g2 := F0 m 18 ls [.int 0, .int x1]) (by rfl) ?_
  refine lv_icmp_lt (tgt := 34) hx hb dX11_fits_18 (by decide) (fun c => ?_) (fun c => ?_)
  · skip
    have c_1 : x1.toInt < 0 := (by have z := bn_lt c; have k1 : (0 : Int32).toInt = 0 := (by decide); omega)
    refine lv_iconst (v := 0) hx hb dX11_fits_34 (by decide) ?_
    exact hret _ _ _ _ (0) f L Q dX11_fits_35 (by decide) hP hS ⟨⟨rfl, rfl, rfl⟩, Or.inr (⟨rfl, by omega⟩)⟩
  · skip
    have c_2 : 0 ≤ x1.toInt := (by have z := bn_nlt c; have k1 : (0 : Int32).toInt = 0 := (by decide); omega)
    refine lv_iload_n hx hb dX11_fits_21 rfl (lv_at hl 1 rfl) ?_
    refine sg_gets hx hb hZ 1 rfl hS hown (hts (.fieldLink RX11 314 "SetAgain" "MOST" "[I") (by decide +kernel)) (fun _ h9 => h9) dX11_fits_22 ?_
    refine lv_iload_n hx hb dX11_fits_25 rfl (lv_at hl 0 rfl) ?_
    refine sg_sald hx hb hZ 1 rfl hS (y := 9) (N := 11) (vp_in_iff.mpr (by decide)) dX11_fits_26 ?_
    refine W.eq (g2 := F0 m 27 ls [.int 9, .int x1]) (by rfl) ?_
    refine lv_icmp_gt (tgt := 34) hx hb dX11_fits_27 (by decide) (fun c => ?_) (fun c => ?_)
    · skip
      have c_3 : 9 < x1.toInt := (by have z := bn_lt c; have k1 : (9 : Int32).toInt = 9 := (by decide); omega)
      refine lv_iconst (v := 0) hx hb dX11_fits_34 (by decide) ?_
      exact hret _ _ _ _ (0) f L Q dX11_fits_35 (by decide) hP hS ⟨⟨rfl, rfl, rfl⟩, Or.inr (⟨rfl, by omega⟩)⟩
    · skip
      have c_4 : x1.toInt ≤ 9 := (by have z := bn_nlt c; have k1 : (9 : Int32).toInt = 9 := (by decide); omega)
      refine lv_iconst (v := 1) hx hb dX11_fits_30 (by decide) ?_
      refine lv_goto (tgt := 35) hx hb dX11_fits_31 (by decide) ?_
      exact hret _ _ _ _ (1) f L Q dX11_fits_35 (by decide) hP hS ⟨⟨rfl, rfl, rfl⟩, Or.inl ⟨rfl, by omega⟩⟩

set_option maxHeartbeats 4000000 in
set_option maxRecDepth 100000 in
theorem cf_X11_fits_10 (l : Launch) (D : va_G) (ca : Nat → ClassId) (za h : Nat → Nat) (hh : sgH 52 h) (f : sg_F) (L : sg_L) (Q : sg_Q) (x1 : Int32) (sz : Nat) : Met l yX11_fits wsX11_fits { frames := 0, cells := 0, slots := 0, locals := 0 } (sgP D vwCl (tyX ca) 52 h (eX ca h) zcX za f L Q sz [.int 10, .int x1]) (sgQi D vwCl 52 h (eX ca h) sz (fun r f1 L1 Q1 => (f1 = f ∧ L1 = L ∧ Q1 = Q) ∧ ((r = 1 ∧ (0 ≤ x1.toInt ∧ x1.toInt ≤ 99)) ∨ (r = 0 ∧ (¬ (0 ≤ x1.toInt ∧ x1.toInt ≤ 99)))))) 0 0 (sgA 52 h sz) := by
  refine sg_ofWz (cc := cX11_fits) (maxL := 2) RX11 (by decide) rfl rfl (Nat.le_of_ble_eq_true rfl) ?_
  intro p e s m below meth c Qz ls hx hb hml hown hts hK hZ hP hS hl hret
  have hA := sgY.self (n := 52) (h := h) (sz := s.heap.size)
  have hl : lv_has ls 2 [(0, .int 10), (1, .int x1)] := hl
  obtain ⟨H, hH⟩ : ∃ z : Heap, z = s.heap := ⟨_, rfl⟩
  obtain ⟨locs, hlo⟩ : ∃ z : List Loc, z = [] := ⟨_, rfl⟩
  have hP : va_P D vwCl (sgw 52 h (eX ca h) f L Q) H := by rw [hH]; exact hP
  have hS : va_S (sgA 52 h s.heap.size) s.heap H locs := by rw [hH, hlo]; exact hS
  suffices hgo : W p l e ({ frames := 0, cells := 0, slots := 0, locals := 0 }) s m ([.int 10, .int x1] : List Value).toArray below meth c H locs 0 0 Qz (F0 m 0 ls []) by rw [hH, hlo] at hgo; exact hgo
  refine lv_iload_n hx hb dX11_fits_0 rfl (lv_at hl 0 rfl) ?_
  refine lv_if_lt (tgt := 34) hx hb dX11_fits_1 (by decide) (fun c => absurd c (by decide)) (fun c => ?_)
  refine lv_iload_n hx hb dX11_fits_4 rfl (lv_at hl 0 rfl) ?_
  refine sg_gets hx hb hZ 1 rfl hS hown (hts (.fieldLink RX11 314 "SetAgain" "MOST" "[I") (by decide +kernel)) (fun _ h9 => h9) dX11_fits_5 ?_
  refine sg_slen hx hb hZ 1 rfl hS (v := 11) (by decide) dX11_fits_8 ?_
  refine lv_icmp_ge (tgt := 34) hx hb dX11_fits_9 (by decide) (fun c => absurd c (by decide)) (fun c => ?_)
  refine lv_iload_n hx hb dX11_fits_12 rfl (lv_at hl 1 rfl) ?_
  refine sg_gets hx hb hZ 0 rfl hS hown (hts (.fieldLink RX11 317 "SetAgain" "LEAST" "[I") (by decide +kernel)) (fun _ h9 => h9) dX11_fits_13 ?_
  refine lv_iload_n hx hb dX11_fits_16 rfl (lv_at hl 0 rfl) ?_
  refine sg_sald hx hb hZ 0 rfl hS (y := 10) (N := 11) (vp_in_iff.mpr (by decide)) dX11_fits_17 ?_
  refine W.eq (g2 := F0 m 18 ls [.int 0, .int x1]) (by rfl) ?_
  refine lv_icmp_lt (tgt := 34) hx hb dX11_fits_18 (by decide) (fun c => ?_) (fun c => ?_)
  · skip
    have c_1 : x1.toInt < 0 := (by have z := bn_lt c; have k1 : (0 : Int32).toInt = 0 := (by decide); omega)
    refine lv_iconst (v := 0) hx hb dX11_fits_34 (by decide) ?_
    exact hret _ _ _ _ (0) f L Q dX11_fits_35 (by decide) hP hS ⟨⟨rfl, rfl, rfl⟩, Or.inr (⟨rfl, by omega⟩)⟩
  · skip
    have c_2 : 0 ≤ x1.toInt := (by have z := bn_nlt c; have k1 : (0 : Int32).toInt = 0 := (by decide); omega)
    refine lv_iload_n hx hb dX11_fits_21 rfl (lv_at hl 1 rfl) ?_
    refine sg_gets hx hb hZ 1 rfl hS hown (hts (.fieldLink RX11 314 "SetAgain" "MOST" "[I") (by decide +kernel)) (fun _ h9 => h9) dX11_fits_22 ?_
    refine lv_iload_n hx hb dX11_fits_25 rfl (lv_at hl 0 rfl) ?_
    refine sg_sald hx hb hZ 1 rfl hS (y := 10) (N := 11) (vp_in_iff.mpr (by decide)) dX11_fits_26 ?_
    refine W.eq (g2 := F0 m 27 ls [.int 99, .int x1]) (by rfl) ?_
    refine lv_icmp_gt (tgt := 34) hx hb dX11_fits_27 (by decide) (fun c => ?_) (fun c => ?_)
    · skip
      have c_3 : 99 < x1.toInt := (by have z := bn_lt c; have k1 : (99 : Int32).toInt = 99 := (by decide); omega)
      refine lv_iconst (v := 0) hx hb dX11_fits_34 (by decide) ?_
      exact hret _ _ _ _ (0) f L Q dX11_fits_35 (by decide) hP hS ⟨⟨rfl, rfl, rfl⟩, Or.inr (⟨rfl, by omega⟩)⟩
    · skip
      have c_4 : x1.toInt ≤ 99 := (by have z := bn_nlt c; have k1 : (99 : Int32).toInt = 99 := (by decide); omega)
      refine lv_iconst (v := 1) hx hb dX11_fits_30 (by decide) ?_
      refine lv_goto (tgt := 35) hx hb dX11_fits_31 (by decide) ?_
      exact hret _ _ _ _ (1) f L Q dX11_fits_35 (by decide) hP hS ⟨⟨rfl, rfl, rfl⟩, Or.inl ⟨rfl, by omega⟩⟩

set_option maxHeartbeats 4000000 in
set_option maxRecDepth 100000 in
theorem cf_X0_has (l : Launch) (D : va_G) (ca : Nat → ClassId) (za h : Nat → Nat) (hh : sgH 52 h) (f : sg_F) (L : sg_L) (Q : sg_Q) (x0 : Int32) (hs : f 1 3 = 0) (sz : Nat) : Met l yX0_has wsX0_has { frames := 0, cells := 0, slots := 0, locals := 0 } (sgP D vwCl (tyX ca) 52 h (eX ca h) zcX za f L Q sz [.ref (h 1), .int x0]) (sgQi D vwCl 52 h (eX ca h) sz (fun r f1 L1 Q1 => (f1 = f ∧ L1 = L ∧ Q1 = Q) ∧ ((r = 0 ∧ (True))))) 0 0 (sgA 52 h sz) := by
  refine sg_ofWz (cc := cX0_has) (maxL := 2) RX0 (by decide) rfl rfl (Nat.le_of_ble_eq_true rfl) ?_
  intro p e s m below meth c Qz ls hx hb hml hown hts hK hZ hP hS hl hret
  have hA := sgY.self (n := 52) (h := h) (sz := s.heap.size)
  have hl : lv_has ls 2 [(0, .ref (h 1)), (1, .int x0)] := hl
  obtain ⟨H, hH⟩ : ∃ z : Heap, z = s.heap := ⟨_, rfl⟩
  obtain ⟨locs, hlo⟩ : ∃ z : List Loc, z = [] := ⟨_, rfl⟩
  have hP : va_P D vwCl (sgw 52 h (eX ca h) f L Q) H := by rw [hH]; exact hP
  have hS : va_S (sgA 52 h s.heap.size) s.heap H locs := by rw [hH, hlo]; exact hS
  suffices hgo : W p l e ({ frames := 0, cells := 0, slots := 0, locals := 0 }) s m ([.ref (h 1), .int x0] : List Value).toArray below meth c H locs 0 0 Qz (F0 m 0 ls []) by rw [hH, hlo] at hgo; exact hgo
  refine lv_iload_n hx hb dX0_has_0 rfl (lv_at hl 1 rfl) ?_
  refine lv_if_lt (tgt := 16) hx hb dX0_has_1 (by decide) (fun c => ?_) (fun c => ?_)
  · skip
    have c_1 : x0.toInt < 0 := (by have z := bn_lt c; have k1 : (0 : Int32).toInt = 0 := (by decide); omega)
    refine lv_iconst (v := 0) hx hb dX0_has_16 (by decide) ?_
    exact hret _ _ _ _ (0) f L Q dX0_has_17 (by decide) hP hS ⟨⟨rfl, rfl, rfl⟩, ⟨rfl, trivial⟩⟩
  · skip
    have c_2 : 0 ≤ x0.toInt := (by have z := bn_nlt c; have k1 : (0 : Int32).toInt = 0 := (by decide); omega)
    refine lv_iload_n hx hb dX0_has_4 rfl (lv_at hl 1 rfl) ?_
    refine lv_aload_n hx hb dX0_has_5 rfl (lv_at hl 0 rfl) ?_
    refine sg_get (ci := 0) (v := .int 0) (C := RX0) (T := TX0) (N := 5) hx hb hts (by decide +kernel) hown hK hP 1 (by decide) rfl rfl 3 (by decide) (hts (.fieldLink RX0 28 "SetAgain$Chair" "sitters" "I") (by decide +kernel)) (fun _ h9 => h9) (congrArg (fun z => some (Value.int z)) (show f 1 3 = 0 from hs)) dX0_has_6 ?_
    refine lv_icmp_ge (tgt := 16) hx hb dX0_has_9 (by decide) (fun c => ?_) (fun c => ?_)
    · skip
      have c_3 : 0 ≤ x0.toInt := (by have z := bn_le c; have k1 : (0 : Int32).toInt = 0 := (by decide); omega)
      refine lv_iconst (v := 0) hx hb dX0_has_16 (by decide) ?_
      exact hret _ _ _ _ (0) f L Q dX0_has_17 (by decide) hP hS ⟨⟨rfl, rfl, rfl⟩, ⟨rfl, trivial⟩⟩
    · skip
      exfalso; have c_4 : x0.toInt < 0 := (by have z := bn_nle c; have k1 : (0 : Int32).toInt = 0 := (by decide); omega); omega

set_option maxHeartbeats 4000000 in
set_option maxRecDepth 100000 in
theorem cf_X11_refusalOf (l : Launch) (D : va_G) (ca : Nat → ClassId) (za h : Nat → Nat) (hh : sgH 52 h) (x0 : Int32) (b0 : 0 ≤ x0.toInt ∧ x0.toInt ≤ 5) (sz : Nat) : Met l yX11_refusalOf wsX11_refusalOf { frames := 0, cells := 0, slots := 0, locals := 0 } (sgP D vwCl (tyX ca) 52 h (eX ca h) zcX za f0X L0 Q0 sz [.ref (h 0), .int x0]) (sgQi D vwCl 52 h (eX ca h) sz (fun r f1 L1 Q1 => (f1 = f0X ∧ L1 = L0 ∧ Q1 = Q0) ∧ ((r = (-11) ∧ (True))))) 0 0 (sgA 52 h sz) := by
  refine sg_ofWi (cc := cX11_refusalOf) (maxL := 2) RX11 (by decide) rfl rfl (Nat.le_of_ble_eq_true rfl) ?_
  intro p e s m below meth c Qz ls hx hb hml hown hts hK hZ hP hS hl hret
  have hA := sgY.self (n := 52) (h := h) (sz := s.heap.size)
  have hl : lv_has ls 2 [(0, .ref (h 0)), (1, .int x0)] := hl
  obtain ⟨H, hH⟩ : ∃ z : Heap, z = s.heap := ⟨_, rfl⟩
  obtain ⟨locs, hlo⟩ : ∃ z : List Loc, z = [] := ⟨_, rfl⟩
  have hP : va_P D vwCl (sgw 52 h (eX ca h) f0X L0 Q0) H := by rw [hH]; exact hP
  have hS : va_S (sgA 52 h s.heap.size) s.heap H locs := by rw [hH, hlo]; exact hS
  suffices hgo : W p l e ({ frames := 0, cells := 0, slots := 0, locals := 0 }) s m ([.ref (h 0), .int x0] : List Value).toArray below meth c H locs 0 0 Qz (F0 m 0 ls []) by rw [hH, hlo] at hgo; exact hgo
  refine lv_aload_n hx hb dX11_refusalOf_0 rfl (lv_at hl 0 rfl) ?_
  refine sg_get (ci := 11) (v := .ref (h 39)) (C := RX11) (T := TX11) (N := 10) hx hb hts (by decide +kernel) hown hK hP 0 (by decide) rfl rfl 9 (by decide) (hts (.fieldLink RX11 80 "SetAgain" "shelves" "[LSetAgain$Shelf;") (by decide +kernel)) (fun _ h9 => h9) rfl dX11_refusalOf_1 ?_
  refine lv_iload_n hx hb dX11_refusalOf_4 rfl (lv_at hl 1 rfl) ?_
  obtain ⟨t_1, et_1⟩ : ∃ z : Nat, z = x0.toNatClampNeg := ⟨_, rfl⟩
  have ht_t_1 : t_1 < 6 := by rw [et_1]; exact bn_kI (by omega) (by omega)
  refine sg_aald hx hb hK hP 39 (by decide) 3 rfl rfl (i := x0) (a := (h (40 + 2 * t_1))) (vp_in_iff.mpr ⟨by omega, by omega⟩) (show (if x0.toNatClampNeg < 6 then some (h (40 + 2 * x0.toNatClampNeg)) else none) = some (h (40 + 2 * t_1)) from by rw [← et_1, if_pos ht_t_1]) dX11_refusalOf_5 ?_
  refine sg_get (ci := 7) (v := .int (-1)) (C := RX7) (T := TX7) (N := 4) hx hb hts (by decide +kernel) hown hK hP (40 + 2 * t_1) (by have := ht_t_1; omega) (eX_sh ca h ht_t_1 _ _ _) rfl 1 (by decide) (hts (.fieldLink RX11 100 "SetAgain$Shelf" "sort" "I") (by decide +kernel)) (fun _ h9 => h9) (congrArg (fun z => some (Value.int z)) (show f0X (40 + 2 * t_1) 1 = (-1) from (by rw [f0X_sh ht_t_1]; rfl))) dX11_refusalOf_6 ?_
  refine lv_iconst (v := (-1)) hx hb dX11_refusalOf_9 (by decide) ?_
  refine lv_icmp_ne (tgt := 16) hx hb dX11_refusalOf_10 (by decide) (fun c => absurd c (by decide)) (fun c => ?_)
  refine lv_bipush (v := (-11)) hx hb dX11_refusalOf_13 (by decide) ?_
  exact hret _ _ _ _ (-11) f0X L0 Q0 dX11_refusalOf_15 hP hS ⟨⟨rfl, rfl, rfl⟩, ⟨rfl, trivial⟩⟩

set_option maxHeartbeats 4000000 in
set_option maxRecDepth 100000 in
theorem cf_X11_readWeek (l : Launch) (D : va_G) (ca : Nat → ClassId) (za h : Nat → Nat) (hh : sgH 52 h) (x0 : Int32) (b0 : 0 ≤ x0.toInt ∧ x0.toInt ≤ 5) (sz : Nat) : Met l yX11_readWeek wsX11_readWeek { frames := 1, cells := 0, slots := 0, locals := 21 } (sgP D vwCl (tyX ca) 52 h (eX ca h) zcX za f0X L0 Q0 sz [.ref (h 0), .int x0]) (sgQi D vwCl 52 h (eX ca h) sz (fun r f1 L1 Q1 => (f1 = f0X ∧ L1 = L0 ∧ Q1 = Q0) ∧ ((r = (-11) ∧ (True))))) 0 0 (sgA 52 h sz) := by
  refine sg_ofWi (cc := cX11_readWeek) (maxL := 3) RX11 (by decide) rfl rfl (Nat.le_of_ble_eq_true rfl) ?_
  intro p e s m below meth c Qz ls hx hb hml hown hts hK hZ hP hS hl hret
  have hA := sgY.self (n := 52) (h := h) (sz := s.heap.size)
  have hl : lv_has ls 3 [(0, .ref (h 0)), (1, .int x0)] := hl
  obtain ⟨H, hH⟩ : ∃ z : Heap, z = s.heap := ⟨_, rfl⟩
  obtain ⟨locs, hlo⟩ : ∃ z : List Loc, z = [] := ⟨_, rfl⟩
  have hP : va_P D vwCl (sgw 52 h (eX ca h) f0X L0 Q0) H := by rw [hH]; exact hP
  have hS : va_S (sgA 52 h s.heap.size) s.heap H locs := by rw [hH, hlo]; exact hS
  suffices hgo : W p l e ({ frames := 1, cells := 0, slots := 0, locals := 21 }) s m ([.ref (h 0), .int x0] : List Value).toArray below meth c H locs 0 0 Qz (F0 m 0 ls []) by rw [hH, hlo] at hgo; exact hgo
  refine lv_aload_n hx hb dX11_readWeek_0 rfl (lv_at hl 0 rfl) ?_
  refine lv_iload_n hx hb dX11_readWeek_1 rfl (lv_at hl 1 rfl) ?_
  refine sg_calli (va_runV (As := [.int x0]) (rest := []) ⟨hx, hb, hml, hown, hts⟩ (cf_X11_refusalOf l D ca za h hh x0 (by first | omega | decide) H.size) (cwV 1 hts gX11_readWeek_X11_refusalOf rfl rfl rfl (by decide +kernel) ⟨Nat.le_of_ble_eq_true rfl, Nat.le_of_ble_eq_true rfl⟩) (sg_preV (ci := 11) (C := RX11) (T := TX11) (N := 10) hA hK hP hS hZ 0 (by decide) rfl rfl) rfl rfl hl.1 rfl (lv_room (Nat.le_of_ble_eq_true rfl)) dX11_readWeek_2 ⟨Nat.le_refl _, Nat.le_refl _⟩) hA hS (fun r_4 f_1 L_2 Q_3 H locs hq hP hS => ?_)
  obtain ⟨⟨ef9, eL9, eQ9⟩, hq⟩ := hq
  rw [ef9, eL9, eQ9] at hP; clear ef9 eL9 eQ9
  obtain ⟨rfl, hq⟩ := hq
  have q_5 := hq
  refine lv_istore_n (lv' := [(2, .int (-11)), (0, .ref (h 0)), (1, .int x0)]) hx hb dX11_readWeek_5 rfl hl (by decide) rfl (fun ls hl => ?_)
  refine lv_iload_n hx hb dX11_readWeek_6 rfl (lv_at hl 0 rfl) ?_
  refine lv_if_ne (tgt := 30) hx hb dX11_readWeek_7 (by decide) (fun c => ?_) (fun c => absurd c (by decide))
  refine lv_iload_n hx hb dX11_readWeek_30 rfl (lv_at hl 0 rfl) ?_
  exact hret _ _ _ _ (-11) f0X L0 Q0 dX11_readWeek_31 hP hS ⟨⟨rfl, rfl, rfl⟩, ⟨rfl, trivial⟩⟩

set_option maxHeartbeats 4000000 in
set_option maxRecDepth 100000 in
theorem cf_X11_loss (l : Launch) (D : va_G) (ca : Nat → ClassId) (za h : Nat → Nat) (hh : sgH 52 h) (x0 : Int32) (x1 : Int32) (x2 : Int32) (sz : Nat) : Met l yX11_loss wsX11_loss { frames := 1, cells := 0, slots := 0, locals := 21 } (sgP D vwCl (tyX ca) 52 h (eX ca h) zcX za f0X L0 Q0 sz [.ref (h 0), .int x0, .int x1, .int x2]) (sgQi D vwCl 52 h (eX ca h) sz (fun r f1 L1 Q1 => True ∧ ((r = (-1) ∧ (True))))) 0 0 (sgA 52 h sz) := by
  refine sg_ofWi (cc := cX11_loss) (maxL := 4) RX11 (by decide) rfl rfl (Nat.le_of_ble_eq_true rfl) ?_
  intro p e s m below meth c Qz ls hx hb hml hown hts hK hZ hP hS hl hret
  have hA := sgY.self (n := 52) (h := h) (sz := s.heap.size)
  have hl : lv_has ls 4 [(0, .ref (h 0)), (1, .int x0), (2, .int x1), (3, .int x2)] := hl
  obtain ⟨H, hH⟩ : ∃ z : Heap, z = s.heap := ⟨_, rfl⟩
  obtain ⟨locs, hlo⟩ : ∃ z : List Loc, z = [] := ⟨_, rfl⟩
  have hP : va_P D vwCl (sgw 52 h (eX ca h) f0X L0 Q0) H := by rw [hH]; exact hP
  have hS : va_S (sgA 52 h s.heap.size) s.heap H locs := by rw [hH, hlo]; exact hS
  suffices hgo : W p l e ({ frames := 1, cells := 0, slots := 0, locals := 21 }) s m ([.ref (h 0), .int x0, .int x1, .int x2] : List Value).toArray below meth c H locs 0 0 Qz (F0 m 0 ls []) by rw [hH, hlo] at hgo; exact hgo
  refine lv_aload_n hx hb dX11_loss_0 rfl (lv_at hl 0 rfl) ?_
  refine sg_get (ci := 11) (v := .ref (h 1)) (C := RX11) (T := TX11) (N := 10) hx hb hts (by decide +kernel) hown hK hP 0 (by decide) rfl rfl 0 (by decide) (hts (.fieldLink RX11 12 "SetAgain" "chair" "LSetAgain$Chair;") (by decide +kernel)) (fun _ h9 => h9) rfl dX11_loss_1 ?_
  refine lv_iload_n hx hb dX11_loss_4 rfl (lv_at hl 1 rfl) ?_
  refine sg_calli (va_runV (As := [.int x0]) (rest := []) ⟨hx, hb, hml, hown, hts⟩ (cf_X0_has l D ca za h hh f0X L0 Q0 x0 rfl H.size) (cwV 1 hts gX11_loss_X0_has rfl rfl rfl (by decide +kernel) ⟨Nat.le_of_ble_eq_true rfl, Nat.le_of_ble_eq_true rfl⟩) (sg_preV (ci := 0) (C := RX0) (T := TX0) (N := 5) hA hK hP hS hZ 1 (by decide) rfl rfl) rfl rfl hl.1 rfl (lv_room (Nat.le_of_ble_eq_true rfl)) dX11_loss_5 ⟨Nat.le_refl _, Nat.le_refl _⟩) hA hS (fun r_4 f_1 L_2 Q_3 H locs hq hP hS => ?_)
  obtain ⟨⟨ef9, eL9, eQ9⟩, hq⟩ := hq
  rw [ef9, eL9, eQ9] at hP; clear ef9 eL9 eQ9
  obtain ⟨rfl, hq⟩ := hq
  have q_5 := hq
  refine lv_if_eq (tgt := 25) hx hb dX11_loss_8 (by decide) (fun c => ?_) (fun c => absurd c (by decide))
  refine lv_iconst (v := (-1)) hx hb dX11_loss_25 (by decide) ?_
  exact hret _ _ _ _ (-1) f0X L0 Q0 dX11_loss_26 hP hS ⟨trivial, ⟨rfl, trivial⟩⟩

set_option maxHeartbeats 4000000 in
set_option maxRecDepth 100000 in
theorem cf_X11_never (l : Launch) (D : va_G) (ca : Nat → ClassId) (za h : Nat → Nat) (hh : sgH 52 h) (x0 : Int32) (x1 : Int32) (x2 : Int32) (sz : Nat) : Met l yX11_never wsX11_never { frames := 2, cells := 0, slots := 0, locals := 43 } (sgP D vwCl (tyX ca) 52 h (eX ca h) zcX za f0X L0 Q0 sz [.ref (h 0), .int x0, .int x1, .int x2]) (sgQi D vwCl 52 h (eX ca h) sz (fun r f1 L1 Q1 => True ∧ ((r = (-11) ∧ ((0 ≤ x0.toInt ∧ x0.toInt ≤ 5) ∧ (0 ≤ x1.toInt ∧ x1.toInt ≤ 2) ∧ (0 ≤ x2.toInt ∧ x2.toInt ≤ 60))) ∨ (r = (-1) ∧ (¬ ((0 ≤ x0.toInt ∧ x0.toInt ≤ 5) ∧ (0 ≤ x1.toInt ∧ x1.toInt ≤ 2) ∧ (0 ≤ x2.toInt ∧ x2.toInt ≤ 60))))))) 0 0 (sgA 52 h sz) := by
  refine sg_ofWi (cc := cX11_never) (maxL := 5) RX11 (by decide) rfl rfl (Nat.le_of_ble_eq_true rfl) ?_
  intro p e s m below meth c Qz ls hx hb hml hown hts hK hZ hP hS hl hret
  have hA := sgY.self (n := 52) (h := h) (sz := s.heap.size)
  have hl : lv_has ls 5 [(0, .ref (h 0)), (1, .int x0), (2, .int x1), (3, .int x2)] := hl
  obtain ⟨H, hH⟩ : ∃ z : Heap, z = s.heap := ⟨_, rfl⟩
  obtain ⟨locs, hlo⟩ : ∃ z : List Loc, z = [] := ⟨_, rfl⟩
  have hP : va_P D vwCl (sgw 52 h (eX ca h) f0X L0 Q0) H := by rw [hH]; exact hP
  have hS : va_S (sgA 52 h s.heap.size) s.heap H locs := by rw [hH, hlo]; exact hS
  suffices hgo : W p l e ({ frames := 2, cells := 0, slots := 0, locals := 43 }) s m ([.ref (h 0), .int x0, .int x1, .int x2] : List Value).toArray below meth c H locs 0 0 Qz (F0 m 0 ls []) by rw [hH, hlo] at hgo; exact hgo
  refine lv_iload_n hx hb dX11_never_0 rfl (lv_at hl 1 rfl) ?_
  refine sg_calli (va_runS (As := [.int x0]) (rest := []) ⟨hx, hb, hml, hown, hts⟩ (cf_X11_isShelf l D ca za h hh f0X L0 Q0 x0 H.size) (va_cwS 1 hts gX11_never_X11_isShelf rfl rfl rfl (by decide +kernel) ⟨Nat.le_of_ble_eq_true rfl, Nat.le_of_ble_eq_true rfl⟩) (sg_preS hA hK hP hS hZ) rfl rfl hl.1 rfl (lv_room (Nat.le_of_ble_eq_true rfl)) dX11_never_1 ⟨Nat.le_refl _, Nat.le_refl _⟩) hA hS (fun r_4 f_1 L_2 Q_3 H locs hq hP hS => ?_)
  obtain ⟨⟨ef9, eL9, eQ9⟩, hq⟩ := hq
  rw [ef9, eL9, eQ9] at hP; clear ef9 eL9 eQ9
  rcases hq with ⟨rfl, hq⟩ | ⟨rfl, hq⟩
  · skip
    have q_5 := hq
    refine lv_if_eq (tgt := 21) hx hb dX11_never_4 (by decide) (fun c => absurd c (by decide)) (fun c => ?_)
    refine lv_iload_n hx hb dX11_never_7 rfl (lv_at hl 2 rfl) ?_
    refine sg_calli (va_runS (As := [.int x1]) (rest := []) ⟨hx, hb, hml, hown, hts⟩ (cf_X11_isPart l D ca za h hh f0X L0 Q0 x1 H.size) (va_cwS 1 hts gX11_never_X11_isPart rfl rfl rfl (by decide +kernel) ⟨Nat.le_of_ble_eq_true rfl, Nat.le_of_ble_eq_true rfl⟩) (sg_preS hA hK hP hS hZ) rfl rfl hl.1 rfl (lv_room (Nat.le_of_ble_eq_true rfl)) dX11_never_8 ⟨Nat.le_refl _, Nat.le_refl _⟩) hA hS (fun r_9 f_6 L_7 Q_8 H locs hq hP hS => ?_)
    obtain ⟨⟨ef9, eL9, eQ9⟩, hq⟩ := hq
    rw [ef9, eL9, eQ9] at hP; clear ef9 eL9 eQ9
    rcases hq with ⟨rfl, hq⟩ | ⟨rfl, hq⟩
    · skip
      have q_10 := hq
      refine lv_if_eq (tgt := 21) hx hb dX11_never_11 (by decide) (fun c => absurd c (by decide)) (fun c => ?_)
      refine lv_iload_n hx hb dX11_never_14 rfl (lv_at hl 3 rfl) ?_
      refine sg_calli (va_runS (As := [.int x2]) (rest := []) ⟨hx, hb, hml, hown, hts⟩ (cf_X11_isSetting l D ca za h hh f0X L0 Q0 x2 H.size) (va_cwS 1 hts gX11_never_X11_isSetting rfl rfl rfl (by decide +kernel) ⟨Nat.le_of_ble_eq_true rfl, Nat.le_of_ble_eq_true rfl⟩) (sg_preS hA hK hP hS hZ) rfl rfl hl.1 rfl (lv_room (Nat.le_of_ble_eq_true rfl)) dX11_never_15 ⟨Nat.le_refl _, Nat.le_refl _⟩) hA hS (fun r_14 f_11 L_12 Q_13 H locs hq hP hS => ?_)
      obtain ⟨⟨ef9, eL9, eQ9⟩, hq⟩ := hq
      rw [ef9, eL9, eQ9] at hP; clear ef9 eL9 eQ9
      rcases hq with ⟨rfl, hq⟩ | ⟨rfl, hq⟩
      · skip
        have q_15 := hq
        refine lv_if_ne (tgt := 23) hx hb dX11_never_18 (by decide) (fun c => ?_) (fun c => absurd c (by decide))
        refine lv_aload_n hx hb dX11_never_23 rfl (lv_at hl 0 rfl) ?_
        refine lv_iload_n hx hb dX11_never_24 rfl (lv_at hl 1 rfl) ?_
        refine sg_calli (va_runV (As := [.int x0]) (rest := []) ⟨hx, hb, hml, hown, hts⟩ (cf_X11_readWeek l D ca za h hh x0 (by first | omega | decide) H.size) (cwV 1 hts gX11_never_X11_readWeek rfl rfl rfl (by decide +kernel) ⟨Nat.le_of_ble_eq_true rfl, Nat.le_of_ble_eq_true rfl⟩) (sg_preV (ci := 11) (C := RX11) (T := TX11) (N := 10) hA hK hP hS hZ 0 (by decide) rfl rfl) rfl rfl hl.1 rfl (lv_room (Nat.le_of_ble_eq_true rfl)) dX11_never_25 ⟨Nat.le_refl _, Nat.le_refl _⟩) hA hS (fun r_19 f_16 L_17 Q_18 H locs hq hP hS => ?_)
        obtain ⟨⟨ef9, eL9, eQ9⟩, hq⟩ := hq
        rw [ef9, eL9, eQ9] at hP; clear ef9 eL9 eQ9
        obtain ⟨rfl, hq⟩ := hq
        have q_20 := hq
        refine lv_istore (lv' := [(4, .int (-11)), (0, .ref (h 0)), (1, .int x0), (2, .int x1), (3, .int x2)]) hx hb dX11_never_28 hl (by decide) rfl (fun ls hl => ?_)
        refine lv_iload hx hb dX11_never_30 (lv_at hl 0 rfl) ?_
        refine lv_if_eq (tgt := 40) hx hb dX11_never_32 (by decide) (fun c => absurd c (by decide)) (fun c => ?_)
        refine lv_iload hx hb dX11_never_35 (lv_at hl 0 rfl) ?_
        refine lv_goto (tgt := 49) hx hb dX11_never_37 (by decide) ?_
        exact hret _ _ _ _ (-11) f0X L0 Q0 dX11_never_49 hP hS ⟨trivial, Or.inl ⟨rfl, by omega⟩⟩
      · skip
        have q_21 := hq
        refine lv_if_ne (tgt := 23) hx hb dX11_never_18 (by decide) (fun c => absurd c (by decide)) (fun c => ?_)
        refine lv_iconst (v := (-1)) hx hb dX11_never_21 (by decide) ?_
        exact hret _ _ _ _ (-1) f0X L0 Q0 dX11_never_22 hP hS ⟨trivial, Or.inr (⟨rfl, by omega⟩)⟩
    · skip
      have q_22 := hq
      refine lv_if_eq (tgt := 21) hx hb dX11_never_11 (by decide) (fun c => ?_) (fun c => absurd c (by decide))
      refine lv_iconst (v := (-1)) hx hb dX11_never_21 (by decide) ?_
      exact hret _ _ _ _ (-1) f0X L0 Q0 dX11_never_22 hP hS ⟨trivial, Or.inr (⟨rfl, by omega⟩)⟩
  · skip
    have q_23 := hq
    refine lv_if_eq (tgt := 21) hx hb dX11_never_4 (by decide) (fun c => ?_) (fun c => absurd c (by decide))
    refine lv_iconst (v := (-1)) hx hb dX11_never_21 (by decide) ?_
    exact hret _ _ _ _ (-1) f0X L0 Q0 dX11_never_22 hP hS ⟨trivial, Or.inr (⟨rfl, by omega⟩)⟩

set_option maxHeartbeats 4000000 in
set_option maxRecDepth 100000 in
theorem cf_X11_best (l : Launch) (D : va_G) (ca : Nat → ClassId) (za h : Nat → Nat) (hh : sgH 52 h) (x0 : Int32) (x1 : Int32) (x2 : Int32) (sz : Nat) : Met l yX11_best wsX11_best { frames := 2, cells := 0, slots := 0, locals := 43 } (sgP D vwCl (tyX ca) 52 h (eX ca h) zcX za f0X L0 Q0 sz [.ref (h 0), .int x0, .int x1, .int x2]) (sgQi D vwCl 52 h (eX ca h) sz (fun r f1 L1 Q1 => True ∧ ((r = (-11) ∧ ((0 ≤ x0.toInt ∧ x0.toInt ≤ 5) ∧ (0 ≤ x1.toInt ∧ x1.toInt ≤ 2) ∧ (0 ≤ x2.toInt ∧ x2.toInt ≤ 3))) ∨ (r = (-1) ∧ (¬ ((0 ≤ x0.toInt ∧ x0.toInt ≤ 5) ∧ (0 ≤ x1.toInt ∧ x1.toInt ≤ 2) ∧ (0 ≤ x2.toInt ∧ x2.toInt ≤ 3))))))) 0 0 (sgA 52 h sz) := by
  refine sg_ofWi (cc := cX11_best) (maxL := 5) RX11 (by decide) rfl rfl (Nat.le_of_ble_eq_true rfl) ?_
  intro p e s m below meth c Qz ls hx hb hml hown hts hK hZ hP hS hl hret
  have hA := sgY.self (n := 52) (h := h) (sz := s.heap.size)
  have hl : lv_has ls 5 [(0, .ref (h 0)), (1, .int x0), (2, .int x1), (3, .int x2)] := hl
  obtain ⟨H, hH⟩ : ∃ z : Heap, z = s.heap := ⟨_, rfl⟩
  obtain ⟨locs, hlo⟩ : ∃ z : List Loc, z = [] := ⟨_, rfl⟩
  have hP : va_P D vwCl (sgw 52 h (eX ca h) f0X L0 Q0) H := by rw [hH]; exact hP
  have hS : va_S (sgA 52 h s.heap.size) s.heap H locs := by rw [hH, hlo]; exact hS
  suffices hgo : W p l e ({ frames := 2, cells := 0, slots := 0, locals := 43 }) s m ([.ref (h 0), .int x0, .int x1, .int x2] : List Value).toArray below meth c H locs 0 0 Qz (F0 m 0 ls []) by rw [hH, hlo] at hgo; exact hgo
  refine lv_iload_n hx hb dX11_best_0 rfl (lv_at hl 1 rfl) ?_
  refine sg_calli (va_runS (As := [.int x0]) (rest := []) ⟨hx, hb, hml, hown, hts⟩ (cf_X11_isShelf l D ca za h hh f0X L0 Q0 x0 H.size) (va_cwS 1 hts gX11_best_X11_isShelf rfl rfl rfl (by decide +kernel) ⟨Nat.le_of_ble_eq_true rfl, Nat.le_of_ble_eq_true rfl⟩) (sg_preS hA hK hP hS hZ) rfl rfl hl.1 rfl (lv_room (Nat.le_of_ble_eq_true rfl)) dX11_best_1 ⟨Nat.le_refl _, Nat.le_refl _⟩) hA hS (fun r_4 f_1 L_2 Q_3 H locs hq hP hS => ?_)
  obtain ⟨⟨ef9, eL9, eQ9⟩, hq⟩ := hq
  rw [ef9, eL9, eQ9] at hP; clear ef9 eL9 eQ9
  rcases hq with ⟨rfl, hq⟩ | ⟨rfl, hq⟩
  · skip
    have q_5 := hq
    refine lv_if_eq (tgt := 23) hx hb dX11_best_4 (by decide) (fun c => absurd c (by decide)) (fun c => ?_)
    refine lv_iload_n hx hb dX11_best_7 rfl (lv_at hl 2 rfl) ?_
    refine sg_calli (va_runS (As := [.int x1]) (rest := []) ⟨hx, hb, hml, hown, hts⟩ (cf_X11_isPart l D ca za h hh f0X L0 Q0 x1 H.size) (va_cwS 1 hts gX11_best_X11_isPart rfl rfl rfl (by decide +kernel) ⟨Nat.le_of_ble_eq_true rfl, Nat.le_of_ble_eq_true rfl⟩) (sg_preS hA hK hP hS hZ) rfl rfl hl.1 rfl (lv_room (Nat.le_of_ble_eq_true rfl)) dX11_best_8 ⟨Nat.le_refl _, Nat.le_refl _⟩) hA hS (fun r_9 f_6 L_7 Q_8 H locs hq hP hS => ?_)
    obtain ⟨⟨ef9, eL9, eQ9⟩, hq⟩ := hq
    rw [ef9, eL9, eQ9] at hP; clear ef9 eL9 eQ9
    rcases hq with ⟨rfl, hq⟩ | ⟨rfl, hq⟩
    · skip
      have q_10 := hq
      refine lv_if_eq (tgt := 23) hx hb dX11_best_11 (by decide) (fun c => absurd c (by decide)) (fun c => ?_)
      refine lv_iload_n hx hb dX11_best_14 rfl (lv_at hl 3 rfl) ?_
      refine lv_if_lt (tgt := 23) hx hb dX11_best_15 (by decide) (fun c => ?_) (fun c => ?_)
      · skip
        have c_11 : x2.toInt < 0 := (by have z := bn_lt c; have k1 : (0 : Int32).toInt = 0 := (by decide); omega)
        refine lv_iconst (v := (-1)) hx hb dX11_best_23 (by decide) ?_
        exact hret _ _ _ _ (-1) f0X L0 Q0 dX11_best_24 hP hS ⟨trivial, Or.inr (⟨rfl, by omega⟩)⟩
      · skip
        have c_12 : 0 ≤ x2.toInt := (by have z := bn_nlt c; have k1 : (0 : Int32).toInt = 0 := (by decide); omega)
        refine lv_iload_n hx hb dX11_best_18 rfl (lv_at hl 3 rfl) ?_
        refine lv_iconst (v := 3) hx hb dX11_best_19 (by decide) ?_
        refine lv_icmp_le (tgt := 25) hx hb dX11_best_20 (by decide) (fun c => ?_) (fun c => ?_)
        · skip
          have c_13 : x2.toInt ≤ 3 := (by have z := bn_le c; have k1 : (3 : Int32).toInt = 3 := (by decide); omega)
          refine lv_aload_n hx hb dX11_best_25 rfl (lv_at hl 0 rfl) ?_
          refine lv_iload_n hx hb dX11_best_26 rfl (lv_at hl 1 rfl) ?_
          refine sg_calli (va_runV (As := [.int x0]) (rest := []) ⟨hx, hb, hml, hown, hts⟩ (cf_X11_readWeek l D ca za h hh x0 (by first | omega | decide) H.size) (cwV 1 hts gX11_best_X11_readWeek rfl rfl rfl (by decide +kernel) ⟨Nat.le_of_ble_eq_true rfl, Nat.le_of_ble_eq_true rfl⟩) (sg_preV (ci := 11) (C := RX11) (T := TX11) (N := 10) hA hK hP hS hZ 0 (by decide) rfl rfl) rfl rfl hl.1 rfl (lv_room (Nat.le_of_ble_eq_true rfl)) dX11_best_27 ⟨Nat.le_refl _, Nat.le_refl _⟩) hA hS (fun r_18 f_15 L_16 Q_17 H locs hq hP hS => ?_)
          obtain ⟨⟨ef9, eL9, eQ9⟩, hq⟩ := hq
          rw [ef9, eL9, eQ9] at hP; clear ef9 eL9 eQ9
          obtain ⟨rfl, hq⟩ := hq
          have q_19 := hq
          refine lv_istore (lv' := [(4, .int (-11)), (0, .ref (h 0)), (1, .int x0), (2, .int x1), (3, .int x2)]) hx hb dX11_best_30 hl (by decide) rfl (fun ls hl => ?_)
          refine lv_iload hx hb dX11_best_32 (lv_at hl 0 rfl) ?_
          refine lv_if_eq (tgt := 40) hx hb dX11_best_34 (by decide) (fun c => absurd c (by decide)) (fun c => ?_)
          refine lv_iload hx hb dX11_best_37 (lv_at hl 0 rfl) ?_
          exact hret _ _ _ _ (-11) f0X L0 Q0 dX11_best_39 hP hS ⟨trivial, Or.inl ⟨rfl, by omega⟩⟩
        · skip
          have c_14 : 3 < x2.toInt := (by have z := bn_nle c; have k1 : (3 : Int32).toInt = 3 := (by decide); omega)
          refine lv_iconst (v := (-1)) hx hb dX11_best_23 (by decide) ?_
          exact hret _ _ _ _ (-1) f0X L0 Q0 dX11_best_24 hP hS ⟨trivial, Or.inr (⟨rfl, by omega⟩)⟩
    · skip
      have q_20 := hq
      refine lv_if_eq (tgt := 23) hx hb dX11_best_11 (by decide) (fun c => ?_) (fun c => absurd c (by decide))
      refine lv_iconst (v := (-1)) hx hb dX11_best_23 (by decide) ?_
      exact hret _ _ _ _ (-1) f0X L0 Q0 dX11_best_24 hP hS ⟨trivial, Or.inr (⟨rfl, by omega⟩)⟩
  · skip
    have q_21 := hq
    refine lv_if_eq (tgt := 23) hx hb dX11_best_4 (by decide) (fun c => ?_) (fun c => absurd c (by decide))
    refine lv_iconst (v := (-1)) hx hb dX11_best_23 (by decide) ?_
    exact hret _ _ _ _ (-1) f0X L0 Q0 dX11_best_24 hP hS ⟨trivial, Or.inr (⟨rfl, by omega⟩)⟩

set_option maxHeartbeats 4000000 in
set_option maxRecDepth 100000 in
theorem cf_X11_middle (l : Launch) (D : va_G) (ca : Nat → ClassId) (za h : Nat → Nat) (hh : sgH 52 h) (x0 : Int32) (x1 : Int32) (sz : Nat) : Met l yX11_middle wsX11_middle { frames := 2, cells := 0, slots := 0, locals := 43 } (sgP D vwCl (tyX ca) 52 h (eX ca h) zcX za f0X L0 Q0 sz [.ref (h 0), .int x0, .int x1]) (sgQi D vwCl 52 h (eX ca h) sz (fun r f1 L1 Q1 => True ∧ ((r = (-11) ∧ ((0 ≤ x0.toInt ∧ x0.toInt ≤ 5) ∧ (0 ≤ x1.toInt ∧ x1.toInt ≤ 2))) ∨ (r = (-1) ∧ (¬ ((0 ≤ x0.toInt ∧ x0.toInt ≤ 5) ∧ (0 ≤ x1.toInt ∧ x1.toInt ≤ 2))))))) 0 0 (sgA 52 h sz) := by
  refine sg_ofWi (cc := cX11_middle) (maxL := 4) RX11 (by decide) rfl rfl (Nat.le_of_ble_eq_true rfl) ?_
  intro p e s m below meth c Qz ls hx hb hml hown hts hK hZ hP hS hl hret
  have hA := sgY.self (n := 52) (h := h) (sz := s.heap.size)
  have hl : lv_has ls 4 [(0, .ref (h 0)), (1, .int x0), (2, .int x1)] := hl
  obtain ⟨H, hH⟩ : ∃ z : Heap, z = s.heap := ⟨_, rfl⟩
  obtain ⟨locs, hlo⟩ : ∃ z : List Loc, z = [] := ⟨_, rfl⟩
  have hP : va_P D vwCl (sgw 52 h (eX ca h) f0X L0 Q0) H := by rw [hH]; exact hP
  have hS : va_S (sgA 52 h s.heap.size) s.heap H locs := by rw [hH, hlo]; exact hS
  suffices hgo : W p l e ({ frames := 2, cells := 0, slots := 0, locals := 43 }) s m ([.ref (h 0), .int x0, .int x1] : List Value).toArray below meth c H locs 0 0 Qz (F0 m 0 ls []) by rw [hH, hlo] at hgo; exact hgo
  refine lv_iload_n hx hb dX11_middle_0 rfl (lv_at hl 1 rfl) ?_
  refine sg_calli (va_runS (As := [.int x0]) (rest := []) ⟨hx, hb, hml, hown, hts⟩ (cf_X11_isShelf l D ca za h hh f0X L0 Q0 x0 H.size) (va_cwS 1 hts gX11_middle_X11_isShelf rfl rfl rfl (by decide +kernel) ⟨Nat.le_of_ble_eq_true rfl, Nat.le_of_ble_eq_true rfl⟩) (sg_preS hA hK hP hS hZ) rfl rfl hl.1 rfl (lv_room (Nat.le_of_ble_eq_true rfl)) dX11_middle_1 ⟨Nat.le_refl _, Nat.le_refl _⟩) hA hS (fun r_4 f_1 L_2 Q_3 H locs hq hP hS => ?_)
  obtain ⟨⟨ef9, eL9, eQ9⟩, hq⟩ := hq
  rw [ef9, eL9, eQ9] at hP; clear ef9 eL9 eQ9
  rcases hq with ⟨rfl, hq⟩ | ⟨rfl, hq⟩
  · skip
    have q_5 := hq
    refine lv_if_eq (tgt := 14) hx hb dX11_middle_4 (by decide) (fun c => absurd c (by decide)) (fun c => ?_)
    refine lv_iload_n hx hb dX11_middle_7 rfl (lv_at hl 2 rfl) ?_
    refine sg_calli (va_runS (As := [.int x1]) (rest := []) ⟨hx, hb, hml, hown, hts⟩ (cf_X11_isPart l D ca za h hh f0X L0 Q0 x1 H.size) (va_cwS 1 hts gX11_middle_X11_isPart rfl rfl rfl (by decide +kernel) ⟨Nat.le_of_ble_eq_true rfl, Nat.le_of_ble_eq_true rfl⟩) (sg_preS hA hK hP hS hZ) rfl rfl hl.1 rfl (lv_room (Nat.le_of_ble_eq_true rfl)) dX11_middle_8 ⟨Nat.le_refl _, Nat.le_refl _⟩) hA hS (fun r_9 f_6 L_7 Q_8 H locs hq hP hS => ?_)
    obtain ⟨⟨ef9, eL9, eQ9⟩, hq⟩ := hq
    rw [ef9, eL9, eQ9] at hP; clear ef9 eL9 eQ9
    rcases hq with ⟨rfl, hq⟩ | ⟨rfl, hq⟩
    · skip
      have q_10 := hq
      refine lv_if_ne (tgt := 16) hx hb dX11_middle_11 (by decide) (fun c => ?_) (fun c => absurd c (by decide))
      refine lv_aload_n hx hb dX11_middle_16 rfl (lv_at hl 0 rfl) ?_
      refine lv_iload_n hx hb dX11_middle_17 rfl (lv_at hl 1 rfl) ?_
      refine sg_calli (va_runV (As := [.int x0]) (rest := []) ⟨hx, hb, hml, hown, hts⟩ (cf_X11_readWeek l D ca za h hh x0 (by first | omega | decide) H.size) (cwV 1 hts gX11_middle_X11_readWeek rfl rfl rfl (by decide +kernel) ⟨Nat.le_of_ble_eq_true rfl, Nat.le_of_ble_eq_true rfl⟩) (sg_preV (ci := 11) (C := RX11) (T := TX11) (N := 10) hA hK hP hS hZ 0 (by decide) rfl rfl) rfl rfl hl.1 rfl (lv_room (Nat.le_of_ble_eq_true rfl)) dX11_middle_18 ⟨Nat.le_refl _, Nat.le_refl _⟩) hA hS (fun r_14 f_11 L_12 Q_13 H locs hq hP hS => ?_)
      obtain ⟨⟨ef9, eL9, eQ9⟩, hq⟩ := hq
      rw [ef9, eL9, eQ9] at hP; clear ef9 eL9 eQ9
      obtain ⟨rfl, hq⟩ := hq
      have q_15 := hq
      refine lv_istore_n (lv' := [(3, .int (-11)), (0, .ref (h 0)), (1, .int x0), (2, .int x1)]) hx hb dX11_middle_21 rfl hl (by decide) rfl (fun ls hl => ?_)
      refine lv_iload_n hx hb dX11_middle_22 rfl (lv_at hl 0 rfl) ?_
      refine lv_if_eq (tgt := 28) hx hb dX11_middle_23 (by decide) (fun c => absurd c (by decide)) (fun c => ?_)
      refine lv_iload_n hx hb dX11_middle_26 rfl (lv_at hl 0 rfl) ?_
      exact hret _ _ _ _ (-11) f0X L0 Q0 dX11_middle_27 hP hS ⟨trivial, Or.inl ⟨rfl, by omega⟩⟩
    · skip
      have q_16 := hq
      refine lv_if_ne (tgt := 16) hx hb dX11_middle_11 (by decide) (fun c => absurd c (by decide)) (fun c => ?_)
      refine lv_iconst (v := (-1)) hx hb dX11_middle_14 (by decide) ?_
      exact hret _ _ _ _ (-1) f0X L0 Q0 dX11_middle_15 hP hS ⟨trivial, Or.inr (⟨rfl, by omega⟩)⟩
  · skip
    have q_17 := hq
    refine lv_if_eq (tgt := 14) hx hb dX11_middle_4 (by decide) (fun c => ?_) (fun c => absurd c (by decide))
    refine lv_iconst (v := (-1)) hx hb dX11_middle_14 (by decide) ?_
    exact hret _ _ _ _ (-1) f0X L0 Q0 dX11_middle_15 hP hS ⟨trivial, Or.inr (⟨rfl, by omega⟩)⟩

set_option maxHeartbeats 4000000 in
set_option maxRecDepth 100000 in
theorem cf_X11_shifts (l : Launch) (D : va_G) (ca : Nat → ClassId) (za h : Nat → Nat) (hh : sgH 52 h) (x0 : Int32) (x1 : Int32) (x2 : Int32) (sz : Nat) : Met l yX11_shifts wsX11_shifts { frames := 2, cells := 0, slots := 0, locals := 43 } (sgP D vwCl (tyX ca) 52 h (eX ca h) zcX za f0X L0 Q0 sz [.ref (h 0), .int x0, .int x1, .int x2]) (sgQi D vwCl 52 h (eX ca h) sz (fun r f1 L1 Q1 => True ∧ ((r = (-11) ∧ ((0 ≤ x0.toInt ∧ x0.toInt ≤ 5) ∧ (0 ≤ x1.toInt ∧ x1.toInt ≤ 2) ∧ -1 ≤ x2.toInt)) ∨ (r = (-1) ∧ (¬ ((0 ≤ x0.toInt ∧ x0.toInt ≤ 5) ∧ (0 ≤ x1.toInt ∧ x1.toInt ≤ 2) ∧ -1 ≤ x2.toInt)))))) 0 0 (sgA 52 h sz) := by
  refine sg_ofWi (cc := cX11_shifts) (maxL := 5) RX11 (by decide) rfl rfl (Nat.le_of_ble_eq_true rfl) ?_
  intro p e s m below meth c Qz ls hx hb hml hown hts hK hZ hP hS hl hret
  have hA := sgY.self (n := 52) (h := h) (sz := s.heap.size)
  have hl : lv_has ls 5 [(0, .ref (h 0)), (1, .int x0), (2, .int x1), (3, .int x2)] := hl
  obtain ⟨H, hH⟩ : ∃ z : Heap, z = s.heap := ⟨_, rfl⟩
  obtain ⟨locs, hlo⟩ : ∃ z : List Loc, z = [] := ⟨_, rfl⟩
  have hP : va_P D vwCl (sgw 52 h (eX ca h) f0X L0 Q0) H := by rw [hH]; exact hP
  have hS : va_S (sgA 52 h s.heap.size) s.heap H locs := by rw [hH, hlo]; exact hS
  suffices hgo : W p l e ({ frames := 2, cells := 0, slots := 0, locals := 43 }) s m ([.ref (h 0), .int x0, .int x1, .int x2] : List Value).toArray below meth c H locs 0 0 Qz (F0 m 0 ls []) by rw [hH, hlo] at hgo; exact hgo
  refine lv_iload_n hx hb dX11_shifts_0 rfl (lv_at hl 1 rfl) ?_
  refine sg_calli (va_runS (As := [.int x0]) (rest := []) ⟨hx, hb, hml, hown, hts⟩ (cf_X11_isShelf l D ca za h hh f0X L0 Q0 x0 H.size) (va_cwS 1 hts gX11_shifts_X11_isShelf rfl rfl rfl (by decide +kernel) ⟨Nat.le_of_ble_eq_true rfl, Nat.le_of_ble_eq_true rfl⟩) (sg_preS hA hK hP hS hZ) rfl rfl hl.1 rfl (lv_room (Nat.le_of_ble_eq_true rfl)) dX11_shifts_1 ⟨Nat.le_refl _, Nat.le_refl _⟩) hA hS (fun r_4 f_1 L_2 Q_3 H locs hq hP hS => ?_)
  obtain ⟨⟨ef9, eL9, eQ9⟩, hq⟩ := hq
  rw [ef9, eL9, eQ9] at hP; clear ef9 eL9 eQ9
  rcases hq with ⟨rfl, hq⟩ | ⟨rfl, hq⟩
  · skip
    have q_5 := hq
    refine lv_if_eq (tgt := 19) hx hb dX11_shifts_4 (by decide) (fun c => absurd c (by decide)) (fun c => ?_)
    refine lv_iload_n hx hb dX11_shifts_7 rfl (lv_at hl 2 rfl) ?_
    refine sg_calli (va_runS (As := [.int x1]) (rest := []) ⟨hx, hb, hml, hown, hts⟩ (cf_X11_isPart l D ca za h hh f0X L0 Q0 x1 H.size) (va_cwS 1 hts gX11_shifts_X11_isPart rfl rfl rfl (by decide +kernel) ⟨Nat.le_of_ble_eq_true rfl, Nat.le_of_ble_eq_true rfl⟩) (sg_preS hA hK hP hS hZ) rfl rfl hl.1 rfl (lv_room (Nat.le_of_ble_eq_true rfl)) dX11_shifts_8 ⟨Nat.le_refl _, Nat.le_refl _⟩) hA hS (fun r_9 f_6 L_7 Q_8 H locs hq hP hS => ?_)
    obtain ⟨⟨ef9, eL9, eQ9⟩, hq⟩ := hq
    rw [ef9, eL9, eQ9] at hP; clear ef9 eL9 eQ9
    rcases hq with ⟨rfl, hq⟩ | ⟨rfl, hq⟩
    · skip
      have q_10 := hq
      refine lv_if_eq (tgt := 19) hx hb dX11_shifts_11 (by decide) (fun c => absurd c (by decide)) (fun c => ?_)
      refine lv_iload_n hx hb dX11_shifts_14 rfl (lv_at hl 3 rfl) ?_
      refine lv_iconst (v := (-1)) hx hb dX11_shifts_15 (by decide) ?_
      refine lv_icmp_ge (tgt := 21) hx hb dX11_shifts_16 (by decide) (fun c => ?_) (fun c => ?_)
      · skip
        have c_11 : (-1) ≤ x2.toInt := (by have z := bn_le c; have k1 : ((-1) : Int32).toInt = (-1) := (by decide); omega)
        refine lv_aload_n hx hb dX11_shifts_21 rfl (lv_at hl 0 rfl) ?_
        refine lv_iload_n hx hb dX11_shifts_22 rfl (lv_at hl 1 rfl) ?_
        refine sg_calli (va_runV (As := [.int x0]) (rest := []) ⟨hx, hb, hml, hown, hts⟩ (cf_X11_readWeek l D ca za h hh x0 (by first | omega | decide) H.size) (cwV 1 hts gX11_shifts_X11_readWeek rfl rfl rfl (by decide +kernel) ⟨Nat.le_of_ble_eq_true rfl, Nat.le_of_ble_eq_true rfl⟩) (sg_preV (ci := 11) (C := RX11) (T := TX11) (N := 10) hA hK hP hS hZ 0 (by decide) rfl rfl) rfl rfl hl.1 rfl (lv_room (Nat.le_of_ble_eq_true rfl)) dX11_shifts_23 ⟨Nat.le_refl _, Nat.le_refl _⟩) hA hS (fun r_16 f_13 L_14 Q_15 H locs hq hP hS => ?_)
        obtain ⟨⟨ef9, eL9, eQ9⟩, hq⟩ := hq
        rw [ef9, eL9, eQ9] at hP; clear ef9 eL9 eQ9
        obtain ⟨rfl, hq⟩ := hq
        have q_17 := hq
        refine lv_istore (lv' := [(4, .int (-11)), (0, .ref (h 0)), (1, .int x0), (2, .int x1), (3, .int x2)]) hx hb dX11_shifts_26 hl (by decide) rfl (fun ls hl => ?_)
        refine lv_iload hx hb dX11_shifts_28 (lv_at hl 0 rfl) ?_
        refine lv_if_eq (tgt := 36) hx hb dX11_shifts_30 (by decide) (fun c => absurd c (by decide)) (fun c => ?_)
        refine lv_iload hx hb dX11_shifts_33 (lv_at hl 0 rfl) ?_
        exact hret _ _ _ _ (-11) f0X L0 Q0 dX11_shifts_35 hP hS ⟨trivial, Or.inl ⟨rfl, by omega⟩⟩
      · skip
        have c_12 : x2.toInt < (-1) := (by have z := bn_nle c; have k1 : ((-1) : Int32).toInt = (-1) := (by decide); omega)
        refine lv_iconst (v := (-1)) hx hb dX11_shifts_19 (by decide) ?_
        exact hret _ _ _ _ (-1) f0X L0 Q0 dX11_shifts_20 hP hS ⟨trivial, Or.inr (⟨rfl, by omega⟩)⟩
    · skip
      have q_18 := hq
      refine lv_if_eq (tgt := 19) hx hb dX11_shifts_11 (by decide) (fun c => ?_) (fun c => absurd c (by decide))
      refine lv_iconst (v := (-1)) hx hb dX11_shifts_19 (by decide) ?_
      exact hret _ _ _ _ (-1) f0X L0 Q0 dX11_shifts_20 hP hS ⟨trivial, Or.inr (⟨rfl, by omega⟩)⟩
  · skip
    have q_19 := hq
    refine lv_if_eq (tgt := 19) hx hb dX11_shifts_4 (by decide) (fun c => ?_) (fun c => absurd c (by decide))
    refine lv_iconst (v := (-1)) hx hb dX11_shifts_19 (by decide) ?_
    exact hret _ _ _ _ (-1) f0X L0 Q0 dX11_shifts_20 hP hS ⟨trivial, Or.inr (⟨rfl, by omega⟩)⟩

set_option maxHeartbeats 4000000 in
set_option maxRecDepth 100000 in
theorem cf_X11_once (l : Launch) (D : va_G) (ca : Nat → ClassId) (za h : Nat → Nat) (hh : sgH 52 h) (x0 : Int32) (x1 : Int32) (x2 : Int32) (sz : Nat) : Met l yX11_once wsX11_once { frames := 2, cells := 0, slots := 0, locals := 43 } (sgP D vwCl (tyX ca) 52 h (eX ca h) zcX za f0X L0 Q0 sz [.ref (h 0), .int x0, .int x1, .int x2]) (sgQi D vwCl 52 h (eX ca h) sz (fun r f1 L1 Q1 => True ∧ ((r = (-11) ∧ ((0 ≤ x0.toInt ∧ x0.toInt ≤ 5) ∧ (0 ≤ x1.toInt ∧ x1.toInt ≤ 2) ∧ (0 ≤ x2.toInt ∧ x2.toInt ≤ 2))) ∨ (r = (-1) ∧ (¬ ((0 ≤ x0.toInt ∧ x0.toInt ≤ 5) ∧ (0 ≤ x1.toInt ∧ x1.toInt ≤ 2) ∧ (0 ≤ x2.toInt ∧ x2.toInt ≤ 2))))))) 0 0 (sgA 52 h sz) := by
  refine sg_ofWi (cc := cX11_once) (maxL := 5) RX11 (by decide) rfl rfl (Nat.le_of_ble_eq_true rfl) ?_
  intro p e s m below meth c Qz ls hx hb hml hown hts hK hZ hP hS hl hret
  have hA := sgY.self (n := 52) (h := h) (sz := s.heap.size)
  have hl : lv_has ls 5 [(0, .ref (h 0)), (1, .int x0), (2, .int x1), (3, .int x2)] := hl
  obtain ⟨H, hH⟩ : ∃ z : Heap, z = s.heap := ⟨_, rfl⟩
  obtain ⟨locs, hlo⟩ : ∃ z : List Loc, z = [] := ⟨_, rfl⟩
  have hP : va_P D vwCl (sgw 52 h (eX ca h) f0X L0 Q0) H := by rw [hH]; exact hP
  have hS : va_S (sgA 52 h s.heap.size) s.heap H locs := by rw [hH, hlo]; exact hS
  suffices hgo : W p l e ({ frames := 2, cells := 0, slots := 0, locals := 43 }) s m ([.ref (h 0), .int x0, .int x1, .int x2] : List Value).toArray below meth c H locs 0 0 Qz (F0 m 0 ls []) by rw [hH, hlo] at hgo; exact hgo
  refine lv_iload_n hx hb dX11_once_0 rfl (lv_at hl 1 rfl) ?_
  refine sg_calli (va_runS (As := [.int x0]) (rest := []) ⟨hx, hb, hml, hown, hts⟩ (cf_X11_isShelf l D ca za h hh f0X L0 Q0 x0 H.size) (va_cwS 1 hts gX11_once_X11_isShelf rfl rfl rfl (by decide +kernel) ⟨Nat.le_of_ble_eq_true rfl, Nat.le_of_ble_eq_true rfl⟩) (sg_preS hA hK hP hS hZ) rfl rfl hl.1 rfl (lv_room (Nat.le_of_ble_eq_true rfl)) dX11_once_1 ⟨Nat.le_refl _, Nat.le_refl _⟩) hA hS (fun r_4 f_1 L_2 Q_3 H locs hq hP hS => ?_)
  obtain ⟨⟨ef9, eL9, eQ9⟩, hq⟩ := hq
  rw [ef9, eL9, eQ9] at hP; clear ef9 eL9 eQ9
  rcases hq with ⟨rfl, hq⟩ | ⟨rfl, hq⟩
  · skip
    have q_5 := hq
    refine lv_if_eq (tgt := 23) hx hb dX11_once_4 (by decide) (fun c => absurd c (by decide)) (fun c => ?_)
    refine lv_iload_n hx hb dX11_once_7 rfl (lv_at hl 2 rfl) ?_
    refine sg_calli (va_runS (As := [.int x1]) (rest := []) ⟨hx, hb, hml, hown, hts⟩ (cf_X11_isPart l D ca za h hh f0X L0 Q0 x1 H.size) (va_cwS 1 hts gX11_once_X11_isPart rfl rfl rfl (by decide +kernel) ⟨Nat.le_of_ble_eq_true rfl, Nat.le_of_ble_eq_true rfl⟩) (sg_preS hA hK hP hS hZ) rfl rfl hl.1 rfl (lv_room (Nat.le_of_ble_eq_true rfl)) dX11_once_8 ⟨Nat.le_refl _, Nat.le_refl _⟩) hA hS (fun r_9 f_6 L_7 Q_8 H locs hq hP hS => ?_)
    obtain ⟨⟨ef9, eL9, eQ9⟩, hq⟩ := hq
    rw [ef9, eL9, eQ9] at hP; clear ef9 eL9 eQ9
    rcases hq with ⟨rfl, hq⟩ | ⟨rfl, hq⟩
    · skip
      have q_10 := hq
      refine lv_if_eq (tgt := 23) hx hb dX11_once_11 (by decide) (fun c => absurd c (by decide)) (fun c => ?_)
      refine lv_iload_n hx hb dX11_once_14 rfl (lv_at hl 3 rfl) ?_
      refine lv_if_lt (tgt := 23) hx hb dX11_once_15 (by decide) (fun c => ?_) (fun c => ?_)
      · skip
        have c_11 : x2.toInt < 0 := (by have z := bn_lt c; have k1 : (0 : Int32).toInt = 0 := (by decide); omega)
        refine lv_iconst (v := (-1)) hx hb dX11_once_23 (by decide) ?_
        exact hret _ _ _ _ (-1) f0X L0 Q0 dX11_once_24 hP hS ⟨trivial, Or.inr (⟨rfl, by omega⟩)⟩
      · skip
        have c_12 : 0 ≤ x2.toInt := (by have z := bn_nlt c; have k1 : (0 : Int32).toInt = 0 := (by decide); omega)
        refine lv_iload_n hx hb dX11_once_18 rfl (lv_at hl 3 rfl) ?_
        refine lv_iconst (v := 2) hx hb dX11_once_19 (by decide) ?_
        refine lv_icmp_le (tgt := 25) hx hb dX11_once_20 (by decide) (fun c => ?_) (fun c => ?_)
        · skip
          have c_13 : x2.toInt ≤ 2 := (by have z := bn_le c; have k1 : (2 : Int32).toInt = 2 := (by decide); omega)
          refine lv_aload_n hx hb dX11_once_25 rfl (lv_at hl 0 rfl) ?_
          refine lv_iload_n hx hb dX11_once_26 rfl (lv_at hl 1 rfl) ?_
          refine sg_calli (va_runV (As := [.int x0]) (rest := []) ⟨hx, hb, hml, hown, hts⟩ (cf_X11_readWeek l D ca za h hh x0 (by first | omega | decide) H.size) (cwV 1 hts gX11_once_X11_readWeek rfl rfl rfl (by decide +kernel) ⟨Nat.le_of_ble_eq_true rfl, Nat.le_of_ble_eq_true rfl⟩) (sg_preV (ci := 11) (C := RX11) (T := TX11) (N := 10) hA hK hP hS hZ 0 (by decide) rfl rfl) rfl rfl hl.1 rfl (lv_room (Nat.le_of_ble_eq_true rfl)) dX11_once_27 ⟨Nat.le_refl _, Nat.le_refl _⟩) hA hS (fun r_18 f_15 L_16 Q_17 H locs hq hP hS => ?_)
          obtain ⟨⟨ef9, eL9, eQ9⟩, hq⟩ := hq
          rw [ef9, eL9, eQ9] at hP; clear ef9 eL9 eQ9
          obtain ⟨rfl, hq⟩ := hq
          have q_19 := hq
          refine lv_istore (lv' := [(4, .int (-11)), (0, .ref (h 0)), (1, .int x0), (2, .int x1), (3, .int x2)]) hx hb dX11_once_30 hl (by decide) rfl (fun ls hl => ?_)
          refine lv_iload hx hb dX11_once_32 (lv_at hl 0 rfl) ?_
          refine lv_if_eq (tgt := 42) hx hb dX11_once_34 (by decide) (fun c => absurd c (by decide)) (fun c => ?_)
          refine lv_iload hx hb dX11_once_37 (lv_at hl 0 rfl) ?_
          refine lv_goto (tgt := 51) hx hb dX11_once_39 (by decide) ?_
          exact hret _ _ _ _ (-11) f0X L0 Q0 dX11_once_51 hP hS ⟨trivial, Or.inl ⟨rfl, by omega⟩⟩
        · skip
          have c_14 : 2 < x2.toInt := (by have z := bn_nle c; have k1 : (2 : Int32).toInt = 2 := (by decide); omega)
          refine lv_iconst (v := (-1)) hx hb dX11_once_23 (by decide) ?_
          exact hret _ _ _ _ (-1) f0X L0 Q0 dX11_once_24 hP hS ⟨trivial, Or.inr (⟨rfl, by omega⟩)⟩
    · skip
      have q_20 := hq
      refine lv_if_eq (tgt := 23) hx hb dX11_once_11 (by decide) (fun c => ?_) (fun c => absurd c (by decide))
      refine lv_iconst (v := (-1)) hx hb dX11_once_23 (by decide) ?_
      exact hret _ _ _ _ (-1) f0X L0 Q0 dX11_once_24 hP hS ⟨trivial, Or.inr (⟨rfl, by omega⟩)⟩
  · skip
    have q_21 := hq
    refine lv_if_eq (tgt := 23) hx hb dX11_once_4 (by decide) (fun c => ?_) (fun c => absurd c (by decide))
    refine lv_iconst (v := (-1)) hx hb dX11_once_23 (by decide) ?_
    exact hret _ _ _ _ (-1) f0X L0 Q0 dX11_once_24 hP hS ⟨trivial, Or.inr (⟨rfl, by omega⟩)⟩

set_option maxHeartbeats 4000000 in
set_option maxRecDepth 100000 in
theorem cf_X11_week (l : Launch) (D : va_G) (ca : Nat → ClassId) (za h : Nat → Nat) (hh : sgH 52 h) (x0 : Int32) (x1 : Int32) (sz : Nat) : Met l yX11_week wsX11_week { frames := 2, cells := 0, slots := 0, locals := 43 } (sgP D vwCl (tyX ca) 52 h (eX ca h) zcX za f0X L0 Q0 sz [.ref (h 0), .int x0, .int x1]) (sgQi D vwCl 52 h (eX ca h) sz (fun r f1 L1 Q1 => True ∧ ((r = (-11) ∧ ((0 ≤ x0.toInt ∧ x0.toInt ≤ 5) ∧ (0 ≤ x1.toInt ∧ x1.toInt ≤ 2))) ∨ (r = (-1) ∧ (¬ ((0 ≤ x0.toInt ∧ x0.toInt ≤ 5) ∧ (0 ≤ x1.toInt ∧ x1.toInt ≤ 2))))))) 0 0 (sgA 52 h sz) := by
  refine sg_ofWi (cc := cX11_week) (maxL := 4) RX11 (by decide) rfl rfl (Nat.le_of_ble_eq_true rfl) ?_
  intro p e s m below meth c Qz ls hx hb hml hown hts hK hZ hP hS hl hret
  have hA := sgY.self (n := 52) (h := h) (sz := s.heap.size)
  have hl : lv_has ls 4 [(0, .ref (h 0)), (1, .int x0), (2, .int x1)] := hl
  obtain ⟨H, hH⟩ : ∃ z : Heap, z = s.heap := ⟨_, rfl⟩
  obtain ⟨locs, hlo⟩ : ∃ z : List Loc, z = [] := ⟨_, rfl⟩
  have hP : va_P D vwCl (sgw 52 h (eX ca h) f0X L0 Q0) H := by rw [hH]; exact hP
  have hS : va_S (sgA 52 h s.heap.size) s.heap H locs := by rw [hH, hlo]; exact hS
  suffices hgo : W p l e ({ frames := 2, cells := 0, slots := 0, locals := 43 }) s m ([.ref (h 0), .int x0, .int x1] : List Value).toArray below meth c H locs 0 0 Qz (F0 m 0 ls []) by rw [hH, hlo] at hgo; exact hgo
  refine lv_iload_n hx hb dX11_week_0 rfl (lv_at hl 1 rfl) ?_
  refine sg_calli (va_runS (As := [.int x0]) (rest := []) ⟨hx, hb, hml, hown, hts⟩ (cf_X11_isShelf l D ca za h hh f0X L0 Q0 x0 H.size) (va_cwS 1 hts gX11_week_X11_isShelf rfl rfl rfl (by decide +kernel) ⟨Nat.le_of_ble_eq_true rfl, Nat.le_of_ble_eq_true rfl⟩) (sg_preS hA hK hP hS hZ) rfl rfl hl.1 rfl (lv_room (Nat.le_of_ble_eq_true rfl)) dX11_week_1 ⟨Nat.le_refl _, Nat.le_refl _⟩) hA hS (fun r_4 f_1 L_2 Q_3 H locs hq hP hS => ?_)
  obtain ⟨⟨ef9, eL9, eQ9⟩, hq⟩ := hq
  rw [ef9, eL9, eQ9] at hP; clear ef9 eL9 eQ9
  rcases hq with ⟨rfl, hq⟩ | ⟨rfl, hq⟩
  · skip
    have q_5 := hq
    refine lv_if_eq (tgt := 16) hx hb dX11_week_4 (by decide) (fun c => absurd c (by decide)) (fun c => ?_)
    refine lv_iload_n hx hb dX11_week_7 rfl (lv_at hl 2 rfl) ?_
    refine lv_if_lt (tgt := 16) hx hb dX11_week_8 (by decide) (fun c => ?_) (fun c => ?_)
    · skip
      have c_6 : x1.toInt < 0 := (by have z := bn_lt c; have k1 : (0 : Int32).toInt = 0 := (by decide); omega)
      refine lv_iconst (v := (-1)) hx hb dX11_week_16 (by decide) ?_
      exact hret _ _ _ _ (-1) f0X L0 Q0 dX11_week_17 hP hS ⟨trivial, Or.inr (⟨rfl, by omega⟩)⟩
    · skip
      have c_7 : 0 ≤ x1.toInt := (by have z := bn_nlt c; have k1 : (0 : Int32).toInt = 0 := (by decide); omega)
      refine lv_iload_n hx hb dX11_week_11 rfl (lv_at hl 2 rfl) ?_
      refine lv_iconst (v := 2) hx hb dX11_week_12 (by decide) ?_
      refine lv_icmp_le (tgt := 18) hx hb dX11_week_13 (by decide) (fun c => ?_) (fun c => ?_)
      · skip
        have c_8 : x1.toInt ≤ 2 := (by have z := bn_le c; have k1 : (2 : Int32).toInt = 2 := (by decide); omega)
        refine lv_aload_n hx hb dX11_week_18 rfl (lv_at hl 0 rfl) ?_
        refine lv_iload_n hx hb dX11_week_19 rfl (lv_at hl 1 rfl) ?_
        refine sg_calli (va_runV (As := [.int x0]) (rest := []) ⟨hx, hb, hml, hown, hts⟩ (cf_X11_readWeek l D ca za h hh x0 (by first | omega | decide) H.size) (cwV 1 hts gX11_week_X11_readWeek rfl rfl rfl (by decide +kernel) ⟨Nat.le_of_ble_eq_true rfl, Nat.le_of_ble_eq_true rfl⟩) (sg_preV (ci := 11) (C := RX11) (T := TX11) (N := 10) hA hK hP hS hZ 0 (by decide) rfl rfl) rfl rfl hl.1 rfl (lv_room (Nat.le_of_ble_eq_true rfl)) dX11_week_20 ⟨Nat.le_refl _, Nat.le_refl _⟩) hA hS (fun r_13 f_10 L_11 Q_12 H locs hq hP hS => ?_)
        obtain ⟨⟨ef9, eL9, eQ9⟩, hq⟩ := hq
        rw [ef9, eL9, eQ9] at hP; clear ef9 eL9 eQ9
        obtain ⟨rfl, hq⟩ := hq
        have q_14 := hq
        refine lv_istore_n (lv' := [(3, .int (-11)), (0, .ref (h 0)), (1, .int x0), (2, .int x1)]) hx hb dX11_week_23 rfl hl (by decide) rfl (fun ls hl => ?_)
        refine lv_iload_n hx hb dX11_week_24 rfl (lv_at hl 0 rfl) ?_
        refine lv_if_eq (tgt := 30) hx hb dX11_week_25 (by decide) (fun c => absurd c (by decide)) (fun c => ?_)
        refine lv_iload_n hx hb dX11_week_28 rfl (lv_at hl 0 rfl) ?_
        exact hret _ _ _ _ (-11) f0X L0 Q0 dX11_week_29 hP hS ⟨trivial, Or.inl ⟨rfl, by omega⟩⟩
      · skip
        have c_9 : 2 < x1.toInt := (by have z := bn_nle c; have k1 : (2 : Int32).toInt = 2 := (by decide); omega)
        refine lv_iconst (v := (-1)) hx hb dX11_week_16 (by decide) ?_
        exact hret _ _ _ _ (-1) f0X L0 Q0 dX11_week_17 hP hS ⟨trivial, Or.inr (⟨rfl, by omega⟩)⟩
  · skip
    have q_15 := hq
    refine lv_if_eq (tgt := 16) hx hb dX11_week_4 (by decide) (fun c => ?_) (fun c => absurd c (by decide))
    refine lv_iconst (v := (-1)) hx hb dX11_week_16 (by decide) ?_
    exact hret _ _ _ _ (-1) f0X L0 Q0 dX11_week_17 hP hS ⟨trivial, Or.inr (⟨rfl, by omega⟩)⟩

set_option maxHeartbeats 4000000 in
set_option maxRecDepth 100000 in
theorem cf_X11_stands (l : Launch) (D : va_G) (ca : Nat → ClassId) (za h : Nat → Nat) (hh : sgH 52 h) (x0 : Int32) (x1 : Int32) (x2 : Int32) (sz : Nat) : Met l yX11_stands wsX11_stands { frames := 2, cells := 0, slots := 0, locals := 43 } (sgP D vwCl (tyX ca) 52 h (eX ca h) zcX za f0X L0 Q0 sz [.ref (h 0), .int x0, .int x1, .int x2]) (sgQi D vwCl 52 h (eX ca h) sz (fun r f1 L1 Q1 => True ∧ ((r = (-11) ∧ ((0 ≤ x0.toInt ∧ x0.toInt ≤ 5) ∧ (0 ≤ x1.toInt ∧ x1.toInt ≤ 2) ∧ 0 ≤ x2.toInt)) ∨ (r = (-1) ∧ (¬ ((0 ≤ x0.toInt ∧ x0.toInt ≤ 5) ∧ (0 ≤ x1.toInt ∧ x1.toInt ≤ 2) ∧ 0 ≤ x2.toInt)))))) 0 0 (sgA 52 h sz) := by
  refine sg_ofWi (cc := cX11_stands) (maxL := 5) RX11 (by decide) rfl rfl (Nat.le_of_ble_eq_true rfl) ?_
  intro p e s m below meth c Qz ls hx hb hml hown hts hK hZ hP hS hl hret
  have hA := sgY.self (n := 52) (h := h) (sz := s.heap.size)
  have hl : lv_has ls 5 [(0, .ref (h 0)), (1, .int x0), (2, .int x1), (3, .int x2)] := hl
  obtain ⟨H, hH⟩ : ∃ z : Heap, z = s.heap := ⟨_, rfl⟩
  obtain ⟨locs, hlo⟩ : ∃ z : List Loc, z = [] := ⟨_, rfl⟩
  have hP : va_P D vwCl (sgw 52 h (eX ca h) f0X L0 Q0) H := by rw [hH]; exact hP
  have hS : va_S (sgA 52 h s.heap.size) s.heap H locs := by rw [hH, hlo]; exact hS
  suffices hgo : W p l e ({ frames := 2, cells := 0, slots := 0, locals := 43 }) s m ([.ref (h 0), .int x0, .int x1, .int x2] : List Value).toArray below meth c H locs 0 0 Qz (F0 m 0 ls []) by rw [hH, hlo] at hgo; exact hgo
  refine lv_iload_n hx hb dX11_stands_0 rfl (lv_at hl 1 rfl) ?_
  refine sg_calli (va_runS (As := [.int x0]) (rest := []) ⟨hx, hb, hml, hown, hts⟩ (cf_X11_isShelf l D ca za h hh f0X L0 Q0 x0 H.size) (va_cwS 1 hts gX11_stands_X11_isShelf rfl rfl rfl (by decide +kernel) ⟨Nat.le_of_ble_eq_true rfl, Nat.le_of_ble_eq_true rfl⟩) (sg_preS hA hK hP hS hZ) rfl rfl hl.1 rfl (lv_room (Nat.le_of_ble_eq_true rfl)) dX11_stands_1 ⟨Nat.le_refl _, Nat.le_refl _⟩) hA hS (fun r_4 f_1 L_2 Q_3 H locs hq hP hS => ?_)
  obtain ⟨⟨ef9, eL9, eQ9⟩, hq⟩ := hq
  rw [ef9, eL9, eQ9] at hP; clear ef9 eL9 eQ9
  rcases hq with ⟨rfl, hq⟩ | ⟨rfl, hq⟩
  · skip
    have q_5 := hq
    refine lv_if_eq (tgt := 18) hx hb dX11_stands_4 (by decide) (fun c => absurd c (by decide)) (fun c => ?_)
    refine lv_iload_n hx hb dX11_stands_7 rfl (lv_at hl 2 rfl) ?_
    refine sg_calli (va_runS (As := [.int x1]) (rest := []) ⟨hx, hb, hml, hown, hts⟩ (cf_X11_isPart l D ca za h hh f0X L0 Q0 x1 H.size) (va_cwS 1 hts gX11_stands_X11_isPart rfl rfl rfl (by decide +kernel) ⟨Nat.le_of_ble_eq_true rfl, Nat.le_of_ble_eq_true rfl⟩) (sg_preS hA hK hP hS hZ) rfl rfl hl.1 rfl (lv_room (Nat.le_of_ble_eq_true rfl)) dX11_stands_8 ⟨Nat.le_refl _, Nat.le_refl _⟩) hA hS (fun r_9 f_6 L_7 Q_8 H locs hq hP hS => ?_)
    obtain ⟨⟨ef9, eL9, eQ9⟩, hq⟩ := hq
    rw [ef9, eL9, eQ9] at hP; clear ef9 eL9 eQ9
    rcases hq with ⟨rfl, hq⟩ | ⟨rfl, hq⟩
    · skip
      have q_10 := hq
      refine lv_if_eq (tgt := 18) hx hb dX11_stands_11 (by decide) (fun c => absurd c (by decide)) (fun c => ?_)
      refine lv_iload_n hx hb dX11_stands_14 rfl (lv_at hl 3 rfl) ?_
      refine lv_if_ge (tgt := 20) hx hb dX11_stands_15 (by decide) (fun c => ?_) (fun c => ?_)
      · skip
        have c_11 : 0 ≤ x2.toInt := (by have z := bn_le c; have k1 : (0 : Int32).toInt = 0 := (by decide); omega)
        refine lv_aload_n hx hb dX11_stands_20 rfl (lv_at hl 0 rfl) ?_
        refine lv_iload_n hx hb dX11_stands_21 rfl (lv_at hl 1 rfl) ?_
        refine sg_calli (va_runV (As := [.int x0]) (rest := []) ⟨hx, hb, hml, hown, hts⟩ (cf_X11_readWeek l D ca za h hh x0 (by first | omega | decide) H.size) (cwV 1 hts gX11_stands_X11_readWeek rfl rfl rfl (by decide +kernel) ⟨Nat.le_of_ble_eq_true rfl, Nat.le_of_ble_eq_true rfl⟩) (sg_preV (ci := 11) (C := RX11) (T := TX11) (N := 10) hA hK hP hS hZ 0 (by decide) rfl rfl) rfl rfl hl.1 rfl (lv_room (Nat.le_of_ble_eq_true rfl)) dX11_stands_22 ⟨Nat.le_refl _, Nat.le_refl _⟩) hA hS (fun r_16 f_13 L_14 Q_15 H locs hq hP hS => ?_)
        obtain ⟨⟨ef9, eL9, eQ9⟩, hq⟩ := hq
        rw [ef9, eL9, eQ9] at hP; clear ef9 eL9 eQ9
        obtain ⟨rfl, hq⟩ := hq
        have q_17 := hq
        refine lv_istore (lv' := [(4, .int (-11)), (0, .ref (h 0)), (1, .int x0), (2, .int x1), (3, .int x2)]) hx hb dX11_stands_25 hl (by decide) rfl (fun ls hl => ?_)
        refine lv_iload hx hb dX11_stands_27 (lv_at hl 0 rfl) ?_
        refine lv_if_eq (tgt := 35) hx hb dX11_stands_29 (by decide) (fun c => absurd c (by decide)) (fun c => ?_)
        refine lv_iload hx hb dX11_stands_32 (lv_at hl 0 rfl) ?_
        exact hret _ _ _ _ (-11) f0X L0 Q0 dX11_stands_34 hP hS ⟨trivial, Or.inl ⟨rfl, by omega⟩⟩
      · skip
        have c_12 : x2.toInt < 0 := (by have z := bn_nle c; have k1 : (0 : Int32).toInt = 0 := (by decide); omega)
        refine lv_iconst (v := (-1)) hx hb dX11_stands_18 (by decide) ?_
        exact hret _ _ _ _ (-1) f0X L0 Q0 dX11_stands_19 hP hS ⟨trivial, Or.inr (⟨rfl, by omega⟩)⟩
    · skip
      have q_18 := hq
      refine lv_if_eq (tgt := 18) hx hb dX11_stands_11 (by decide) (fun c => ?_) (fun c => absurd c (by decide))
      refine lv_iconst (v := (-1)) hx hb dX11_stands_18 (by decide) ?_
      exact hret _ _ _ _ (-1) f0X L0 Q0 dX11_stands_19 hP hS ⟨trivial, Or.inr (⟨rfl, by omega⟩)⟩
  · skip
    have q_19 := hq
    refine lv_if_eq (tgt := 18) hx hb dX11_stands_4 (by decide) (fun c => ?_) (fun c => absurd c (by decide))
    refine lv_iconst (v := (-1)) hx hb dX11_stands_18 (by decide) ?_
    exact hret _ _ _ _ (-1) f0X L0 Q0 dX11_stands_19 hP hS ⟨trivial, Or.inr (⟨rfl, by omega⟩)⟩

set_option maxHeartbeats 4000000 in
set_option maxRecDepth 100000 in
theorem cf_X11_pays (l : Launch) (D : va_G) (ca : Nat → ClassId) (za h : Nat → Nat) (hh : sgH 52 h) (x0 : Int32) (x1 : Int32) (x2 : Int32) (sz : Nat) : Met l yX11_pays wsX11_pays { frames := 1, cells := 0, slots := 0, locals := 21 } (sgP D vwCl (tyX ca) 52 h (eX ca h) zcX za f0X L0 Q0 sz [.ref (h 0), .int x0, .int x1, .int x2]) (sgQi D vwCl 52 h (eX ca h) sz (fun r f1 L1 Q1 => True ∧ ((r = (-1) ∧ (True))))) 0 0 (sgA 52 h sz) := by
  refine sg_ofWi (cc := cX11_pays) (maxL := 5) RX11 (by decide) rfl rfl (Nat.le_of_ble_eq_true rfl) ?_
  intro p e s m below meth c Qz ls hx hb hml hown hts hK hZ hP hS hl hret
  have hA := sgY.self (n := 52) (h := h) (sz := s.heap.size)
  have hl : lv_has ls 5 [(0, .ref (h 0)), (1, .int x0), (2, .int x1), (3, .int x2)] := hl
  obtain ⟨H, hH⟩ : ∃ z : Heap, z = s.heap := ⟨_, rfl⟩
  obtain ⟨locs, hlo⟩ : ∃ z : List Loc, z = [] := ⟨_, rfl⟩
  have hP : va_P D vwCl (sgw 52 h (eX ca h) f0X L0 Q0) H := by rw [hH]; exact hP
  have hS : va_S (sgA 52 h s.heap.size) s.heap H locs := by rw [hH, hlo]; exact hS
  suffices hgo : W p l e ({ frames := 1, cells := 0, slots := 0, locals := 21 }) s m ([.ref (h 0), .int x0, .int x1, .int x2] : List Value).toArray below meth c H locs 0 0 Qz (F0 m 0 ls []) by rw [hH, hlo] at hgo; exact hgo
  refine lv_iload_n hx hb dX11_pays_0 rfl (lv_at hl 1 rfl) ?_
  refine sg_calli (va_runS (As := [.int x0]) (rest := []) ⟨hx, hb, hml, hown, hts⟩ (cf_X11_isShelf l D ca za h hh f0X L0 Q0 x0 H.size) (va_cwS 1 hts gX11_pays_X11_isShelf rfl rfl rfl (by decide +kernel) ⟨Nat.le_of_ble_eq_true rfl, Nat.le_of_ble_eq_true rfl⟩) (sg_preS hA hK hP hS hZ) rfl rfl hl.1 rfl (lv_room (Nat.le_of_ble_eq_true rfl)) dX11_pays_1 ⟨Nat.le_refl _, Nat.le_refl _⟩) hA hS (fun r_4 f_1 L_2 Q_3 H locs hq hP hS => ?_)
  obtain ⟨⟨ef9, eL9, eQ9⟩, hq⟩ := hq
  rw [ef9, eL9, eQ9] at hP; clear ef9 eL9 eQ9
  rcases hq with ⟨rfl, hq⟩ | ⟨rfl, hq⟩
  · skip
    have q_5 := hq
    refine lv_if_eq (tgt := 27) hx hb dX11_pays_4 (by decide) (fun c => absurd c (by decide)) (fun c => ?_)
    refine lv_aload_n hx hb dX11_pays_7 rfl (lv_at hl 0 rfl) ?_
    refine sg_get (ci := 11) (v := .ref (h 1)) (C := RX11) (T := TX11) (N := 10) hx hb hts (by decide +kernel) hown hK hP 0 (by decide) rfl rfl 0 (by decide) (hts (.fieldLink RX11 12 "SetAgain" "chair" "LSetAgain$Chair;") (by decide +kernel)) (fun _ h9 => h9) rfl dX11_pays_8 ?_
    refine lv_iload_n hx hb dX11_pays_11 rfl (lv_at hl 2 rfl) ?_
    refine sg_calli (va_runV (As := [.int x1]) (rest := []) ⟨hx, hb, hml, hown, hts⟩ (cf_X0_has l D ca za h hh f0X L0 Q0 x1 rfl H.size) (cwV 1 hts gX11_pays_X0_has rfl rfl rfl (by decide +kernel) ⟨Nat.le_of_ble_eq_true rfl, Nat.le_of_ble_eq_true rfl⟩) (sg_preV (ci := 0) (C := RX0) (T := TX0) (N := 5) hA hK hP hS hZ 1 (by decide) rfl rfl) rfl rfl hl.1 rfl (lv_room (Nat.le_of_ble_eq_true rfl)) dX11_pays_12 ⟨Nat.le_refl _, Nat.le_refl _⟩) hA hS (fun r_9 f_6 L_7 Q_8 H locs hq hP hS => ?_)
    obtain ⟨⟨ef9, eL9, eQ9⟩, hq⟩ := hq
    rw [ef9, eL9, eQ9] at hP; clear ef9 eL9 eQ9
    obtain ⟨rfl, hq⟩ := hq
    have q_10 := hq
    refine lv_if_eq (tgt := 27) hx hb dX11_pays_15 (by decide) (fun c => ?_) (fun c => absurd c (by decide))
    refine lv_iconst (v := (-1)) hx hb dX11_pays_27 (by decide) ?_
    exact hret _ _ _ _ (-1) f0X L0 Q0 dX11_pays_28 hP hS ⟨trivial, ⟨rfl, trivial⟩⟩
  · skip
    have q_11 := hq
    refine lv_if_eq (tgt := 27) hx hb dX11_pays_4 (by decide) (fun c => ?_) (fun c => absurd c (by decide))
    refine lv_iconst (v := (-1)) hx hb dX11_pays_27 (by decide) ?_
    exact hret _ _ _ _ (-1) f0X L0 Q0 dX11_pays_28 hP hS ⟨trivial, ⟨rfl, trivial⟩⟩

set_option maxHeartbeats 4000000 in
set_option maxRecDepth 100000 in
theorem cf_X11_memories (l : Launch) (D : va_G) (ca : Nat → ClassId) (za h : Nat → Nat) (hh : sgH 52 h) (x0 : Int32) (x1 : Int32) (x2 : Int32) (sz : Nat) : Met l yX11_memories wsX11_memories { frames := 2, cells := 0, slots := 0, locals := 43 } (sgP D vwCl (tyX ca) 52 h (eX ca h) zcX za f0X L0 Q0 sz [.ref (h 0), .int x0, .int x1, .int x2]) (sgQi D vwCl 52 h (eX ca h) sz (fun r f1 L1 Q1 => True ∧ ((r = (-11) ∧ ((0 ≤ x0.toInt ∧ x0.toInt ≤ 5) ∧ (0 ≤ x1.toInt ∧ x1.toInt ≤ 3) ∧ (0 ≤ x2.toInt ∧ x2.toInt ≤ 1))) ∨ (r = (-1) ∧ (¬ ((0 ≤ x0.toInt ∧ x0.toInt ≤ 5) ∧ (0 ≤ x1.toInt ∧ x1.toInt ≤ 3) ∧ (0 ≤ x2.toInt ∧ x2.toInt ≤ 1))))))) 0 0 (sgA 52 h sz) := by
  refine sg_ofWi (cc := cX11_memories) (maxL := 5) RX11 (by decide) rfl rfl (Nat.le_of_ble_eq_true rfl) ?_
  intro p e s m below meth c Qz ls hx hb hml hown hts hK hZ hP hS hl hret
  have hA := sgY.self (n := 52) (h := h) (sz := s.heap.size)
  have hl : lv_has ls 5 [(0, .ref (h 0)), (1, .int x0), (2, .int x1), (3, .int x2)] := hl
  obtain ⟨H, hH⟩ : ∃ z : Heap, z = s.heap := ⟨_, rfl⟩
  obtain ⟨locs, hlo⟩ : ∃ z : List Loc, z = [] := ⟨_, rfl⟩
  have hP : va_P D vwCl (sgw 52 h (eX ca h) f0X L0 Q0) H := by rw [hH]; exact hP
  have hS : va_S (sgA 52 h s.heap.size) s.heap H locs := by rw [hH, hlo]; exact hS
  suffices hgo : W p l e ({ frames := 2, cells := 0, slots := 0, locals := 43 }) s m ([.ref (h 0), .int x0, .int x1, .int x2] : List Value).toArray below meth c H locs 0 0 Qz (F0 m 0 ls []) by rw [hH, hlo] at hgo; exact hgo
  refine lv_iload_n hx hb dX11_memories_0 rfl (lv_at hl 1 rfl) ?_
  refine sg_calli (va_runS (As := [.int x0]) (rest := []) ⟨hx, hb, hml, hown, hts⟩ (cf_X11_isShelf l D ca za h hh f0X L0 Q0 x0 H.size) (va_cwS 1 hts gX11_memories_X11_isShelf rfl rfl rfl (by decide +kernel) ⟨Nat.le_of_ble_eq_true rfl, Nat.le_of_ble_eq_true rfl⟩) (sg_preS hA hK hP hS hZ) rfl rfl hl.1 rfl (lv_room (Nat.le_of_ble_eq_true rfl)) dX11_memories_1 ⟨Nat.le_refl _, Nat.le_refl _⟩) hA hS (fun r_4 f_1 L_2 Q_3 H locs hq hP hS => ?_)
  obtain ⟨⟨ef9, eL9, eQ9⟩, hq⟩ := hq
  rw [ef9, eL9, eQ9] at hP; clear ef9 eL9 eQ9
  rcases hq with ⟨rfl, hq⟩ | ⟨rfl, hq⟩
  · skip
    have q_5 := hq
    refine lv_if_eq (tgt := 25) hx hb dX11_memories_4 (by decide) (fun c => absurd c (by decide)) (fun c => ?_)
    refine lv_iload_n hx hb dX11_memories_7 rfl (lv_at hl 2 rfl) ?_
    refine lv_if_lt (tgt := 25) hx hb dX11_memories_8 (by decide) (fun c => ?_) (fun c => ?_)
    · skip
      have c_6 : x1.toInt < 0 := (by have z := bn_lt c; have k1 : (0 : Int32).toInt = 0 := (by decide); omega)
      refine lv_iconst (v := (-1)) hx hb dX11_memories_25 (by decide) ?_
      exact hret _ _ _ _ (-1) f0X L0 Q0 dX11_memories_26 hP hS ⟨trivial, Or.inr (⟨rfl, by omega⟩)⟩
    · skip
      have c_7 : 0 ≤ x1.toInt := (by have z := bn_nlt c; have k1 : (0 : Int32).toInt = 0 := (by decide); omega)
      refine lv_iload_n hx hb dX11_memories_11 rfl (lv_at hl 2 rfl) ?_
      refine lv_iconst (v := 3) hx hb dX11_memories_12 (by decide) ?_
      refine lv_icmp_gt (tgt := 25) hx hb dX11_memories_13 (by decide) (fun c => ?_) (fun c => ?_)
      · skip
        have c_8 : 3 < x1.toInt := (by have z := bn_lt c; have k1 : (3 : Int32).toInt = 3 := (by decide); omega)
        refine lv_iconst (v := (-1)) hx hb dX11_memories_25 (by decide) ?_
        exact hret _ _ _ _ (-1) f0X L0 Q0 dX11_memories_26 hP hS ⟨trivial, Or.inr (⟨rfl, by omega⟩)⟩
      · skip
        have c_9 : x1.toInt ≤ 3 := (by have z := bn_nlt c; have k1 : (3 : Int32).toInt = 3 := (by decide); omega)
        refine lv_iload_n hx hb dX11_memories_16 rfl (lv_at hl 3 rfl) ?_
        refine lv_if_lt (tgt := 25) hx hb dX11_memories_17 (by decide) (fun c => ?_) (fun c => ?_)
        · skip
          have c_10 : x2.toInt < 0 := (by have z := bn_lt c; have k1 : (0 : Int32).toInt = 0 := (by decide); omega)
          refine lv_iconst (v := (-1)) hx hb dX11_memories_25 (by decide) ?_
          exact hret _ _ _ _ (-1) f0X L0 Q0 dX11_memories_26 hP hS ⟨trivial, Or.inr (⟨rfl, by omega⟩)⟩
        · skip
          have c_11 : 0 ≤ x2.toInt := (by have z := bn_nlt c; have k1 : (0 : Int32).toInt = 0 := (by decide); omega)
          refine lv_iload_n hx hb dX11_memories_20 rfl (lv_at hl 3 rfl) ?_
          refine lv_iconst (v := 1) hx hb dX11_memories_21 (by decide) ?_
          refine lv_icmp_le (tgt := 27) hx hb dX11_memories_22 (by decide) (fun c => ?_) (fun c => ?_)
          · skip
            have c_12 : x2.toInt ≤ 1 := (by have z := bn_le c; have k1 : (1 : Int32).toInt = 1 := (by decide); omega)
            refine lv_aload_n hx hb dX11_memories_27 rfl (lv_at hl 0 rfl) ?_
            refine lv_iload_n hx hb dX11_memories_28 rfl (lv_at hl 1 rfl) ?_
            refine sg_calli (va_runV (As := [.int x0]) (rest := []) ⟨hx, hb, hml, hown, hts⟩ (cf_X11_readWeek l D ca za h hh x0 (by first | omega | decide) H.size) (cwV 1 hts gX11_memories_X11_readWeek rfl rfl rfl (by decide +kernel) ⟨Nat.le_of_ble_eq_true rfl, Nat.le_of_ble_eq_true rfl⟩) (sg_preV (ci := 11) (C := RX11) (T := TX11) (N := 10) hA hK hP hS hZ 0 (by decide) rfl rfl) rfl rfl hl.1 rfl (lv_room (Nat.le_of_ble_eq_true rfl)) dX11_memories_29 ⟨Nat.le_refl _, Nat.le_refl _⟩) hA hS (fun r_17 f_14 L_15 Q_16 H locs hq hP hS => ?_)
            obtain ⟨⟨ef9, eL9, eQ9⟩, hq⟩ := hq
            rw [ef9, eL9, eQ9] at hP; clear ef9 eL9 eQ9
            obtain ⟨rfl, hq⟩ := hq
            have q_18 := hq
            refine lv_istore (lv' := [(4, .int (-11)), (0, .ref (h 0)), (1, .int x0), (2, .int x1), (3, .int x2)]) hx hb dX11_memories_32 hl (by decide) rfl (fun ls hl => ?_)
            refine lv_iload hx hb dX11_memories_34 (lv_at hl 0 rfl) ?_
            refine lv_if_eq (tgt := 44) hx hb dX11_memories_36 (by decide) (fun c => absurd c (by decide)) (fun c => ?_)
            refine lv_iload hx hb dX11_memories_39 (lv_at hl 0 rfl) ?_
            refine lv_goto (tgt := 53) hx hb dX11_memories_41 (by decide) ?_
            exact hret _ _ _ _ (-11) f0X L0 Q0 dX11_memories_53 hP hS ⟨trivial, Or.inl ⟨rfl, by omega⟩⟩
          · skip
            have c_13 : 1 < x2.toInt := (by have z := bn_nle c; have k1 : (1 : Int32).toInt = 1 := (by decide); omega)
            refine lv_iconst (v := (-1)) hx hb dX11_memories_25 (by decide) ?_
            exact hret _ _ _ _ (-1) f0X L0 Q0 dX11_memories_26 hP hS ⟨trivial, Or.inr (⟨rfl, by omega⟩)⟩
  · skip
    have q_19 := hq
    refine lv_if_eq (tgt := 25) hx hb dX11_memories_4 (by decide) (fun c => ?_) (fun c => absurd c (by decide))
    refine lv_iconst (v := (-1)) hx hb dX11_memories_25 (by decide) ?_
    exact hret _ _ _ _ (-1) f0X L0 Q0 dX11_memories_26 hP hS ⟨trivial, Or.inr (⟨rfl, by omega⟩)⟩

set_option maxHeartbeats 4000000 in
set_option maxRecDepth 100000 in
theorem cf_X11_marked (l : Launch) (D : va_G) (ca : Nat → ClassId) (za h : Nat → Nat) (hh : sgH 52 h) (x0 : Int32) (sz : Nat) : Met l yX11_marked wsX11_marked { frames := 2, cells := 0, slots := 0, locals := 43 } (sgP D vwCl (tyX ca) 52 h (eX ca h) zcX za f0X L0 Q0 sz [.ref (h 0), .int x0]) (sgQi D vwCl 52 h (eX ca h) sz (fun r f1 L1 Q1 => True ∧ ((r = (-11) ∧ ((0 ≤ x0.toInt ∧ x0.toInt ≤ 5))) ∨ (r = (-1) ∧ (¬ ((0 ≤ x0.toInt ∧ x0.toInt ≤ 5))))))) 0 0 (sgA 52 h sz) := by
  refine sg_ofWi (cc := cX11_marked) (maxL := 3) RX11 (by decide) rfl rfl (Nat.le_of_ble_eq_true rfl) ?_
  intro p e s m below meth c Qz ls hx hb hml hown hts hK hZ hP hS hl hret
  have hA := sgY.self (n := 52) (h := h) (sz := s.heap.size)
  have hl : lv_has ls 3 [(0, .ref (h 0)), (1, .int x0)] := hl
  obtain ⟨H, hH⟩ : ∃ z : Heap, z = s.heap := ⟨_, rfl⟩
  obtain ⟨locs, hlo⟩ : ∃ z : List Loc, z = [] := ⟨_, rfl⟩
  have hP : va_P D vwCl (sgw 52 h (eX ca h) f0X L0 Q0) H := by rw [hH]; exact hP
  have hS : va_S (sgA 52 h s.heap.size) s.heap H locs := by rw [hH, hlo]; exact hS
  suffices hgo : W p l e ({ frames := 2, cells := 0, slots := 0, locals := 43 }) s m ([.ref (h 0), .int x0] : List Value).toArray below meth c H locs 0 0 Qz (F0 m 0 ls []) by rw [hH, hlo] at hgo; exact hgo
  refine lv_iload_n hx hb dX11_marked_0 rfl (lv_at hl 1 rfl) ?_
  refine sg_calli (va_runS (As := [.int x0]) (rest := []) ⟨hx, hb, hml, hown, hts⟩ (cf_X11_isShelf l D ca za h hh f0X L0 Q0 x0 H.size) (va_cwS 1 hts gX11_marked_X11_isShelf rfl rfl rfl (by decide +kernel) ⟨Nat.le_of_ble_eq_true rfl, Nat.le_of_ble_eq_true rfl⟩) (sg_preS hA hK hP hS hZ) rfl rfl hl.1 rfl (lv_room (Nat.le_of_ble_eq_true rfl)) dX11_marked_1 ⟨Nat.le_refl _, Nat.le_refl _⟩) hA hS (fun r_4 f_1 L_2 Q_3 H locs hq hP hS => ?_)
  obtain ⟨⟨ef9, eL9, eQ9⟩, hq⟩ := hq
  rw [ef9, eL9, eQ9] at hP; clear ef9 eL9 eQ9
  rcases hq with ⟨rfl, hq⟩ | ⟨rfl, hq⟩
  · skip
    have q_5 := hq
    refine lv_if_ne (tgt := 9) hx hb dX11_marked_4 (by decide) (fun c => ?_) (fun c => absurd c (by decide))
    refine lv_aload_n hx hb dX11_marked_9 rfl (lv_at hl 0 rfl) ?_
    refine lv_iload_n hx hb dX11_marked_10 rfl (lv_at hl 1 rfl) ?_
    refine sg_calli (va_runV (As := [.int x0]) (rest := []) ⟨hx, hb, hml, hown, hts⟩ (cf_X11_readWeek l D ca za h hh x0 (by first | omega | decide) H.size) (cwV 1 hts gX11_marked_X11_readWeek rfl rfl rfl (by decide +kernel) ⟨Nat.le_of_ble_eq_true rfl, Nat.le_of_ble_eq_true rfl⟩) (sg_preV (ci := 11) (C := RX11) (T := TX11) (N := 10) hA hK hP hS hZ 0 (by decide) rfl rfl) rfl rfl hl.1 rfl (lv_room (Nat.le_of_ble_eq_true rfl)) dX11_marked_11 ⟨Nat.le_refl _, Nat.le_refl _⟩) hA hS (fun r_9 f_6 L_7 Q_8 H locs hq hP hS => ?_)
    obtain ⟨⟨ef9, eL9, eQ9⟩, hq⟩ := hq
    rw [ef9, eL9, eQ9] at hP; clear ef9 eL9 eQ9
    obtain ⟨rfl, hq⟩ := hq
    have q_10 := hq
    refine lv_istore_n (lv' := [(2, .int (-11)), (0, .ref (h 0)), (1, .int x0)]) hx hb dX11_marked_14 rfl hl (by decide) rfl (fun ls hl => ?_)
    refine lv_iload_n hx hb dX11_marked_15 rfl (lv_at hl 0 rfl) ?_
    refine lv_if_eq (tgt := 23) hx hb dX11_marked_16 (by decide) (fun c => absurd c (by decide)) (fun c => ?_)
    refine lv_iload_n hx hb dX11_marked_19 rfl (lv_at hl 0 rfl) ?_
    refine lv_goto (tgt := 30) hx hb dX11_marked_20 (by decide) ?_
    exact hret _ _ _ _ (-11) f0X L0 Q0 dX11_marked_30 hP hS ⟨trivial, Or.inl ⟨rfl, by omega⟩⟩
  · skip
    have q_11 := hq
    refine lv_if_ne (tgt := 9) hx hb dX11_marked_4 (by decide) (fun c => absurd c (by decide)) (fun c => ?_)
    refine lv_iconst (v := (-1)) hx hb dX11_marked_7 (by decide) ?_
    exact hret _ _ _ _ (-1) f0X L0 Q0 dX11_marked_8 hP hS ⟨trivial, Or.inr (⟨rfl, by omega⟩)⟩

set_option maxHeartbeats 4000000 in
set_option maxRecDepth 100000 in
theorem cf_X11_chairs (l : Launch) (D : va_G) (ca : Nat → ClassId) (za h : Nat → Nat) (hh : sgH 52 h) (x0 : Int32) (x1 : Int32) (x2 : Int32) (sz : Nat) : Met l yX11_chairs wsX11_chairs { frames := 2, cells := 0, slots := 0, locals := 43 } (sgP D vwCl (tyX ca) 52 h (eX ca h) zcX za f0X L0 Q0 sz [.ref (h 0), .int x0, .int x1, .int x2]) (sgQi D vwCl 52 h (eX ca h) sz (fun r f1 L1 Q1 => True ∧ ((r = (-11) ∧ ((0 ≤ x0.toInt ∧ x0.toInt ≤ 5) ∧ 0 ≤ x1.toInt ∧ x1.toInt / 10 ≤ 2 ∧ 1 ≤ x1.toInt % 10 ∧ x1.toInt % 10 ≤ 3 ∧ x2.toInt = -1)) ∨ (r = (-1) ∧ (¬ ((0 ≤ x0.toInt ∧ x0.toInt ≤ 5) ∧ 0 ≤ x1.toInt ∧ x1.toInt / 10 ≤ 2 ∧ 1 ≤ x1.toInt % 10 ∧ x1.toInt % 10 ≤ 3 ∧ x2.toInt = -1)))))) 0 0 (sgA 52 h sz) := by
  refine sg_ofWi (cc := cX11_chairs) (maxL := 6) RX11 (by decide) rfl rfl (Nat.le_of_ble_eq_true rfl) ?_
  intro p e s m below meth c Qz ls hx hb hml hown hts hK hZ hP hS hl hret
  have hA := sgY.self (n := 52) (h := h) (sz := s.heap.size)
  have hl : lv_has ls 6 [(0, .ref (h 0)), (1, .int x0), (2, .int x1), (3, .int x2)] := hl
  obtain ⟨H, hH⟩ : ∃ z : Heap, z = s.heap := ⟨_, rfl⟩
  obtain ⟨locs, hlo⟩ : ∃ z : List Loc, z = [] := ⟨_, rfl⟩
  have hP : va_P D vwCl (sgw 52 h (eX ca h) f0X L0 Q0) H := by rw [hH]; exact hP
  have hS : va_S (sgA 52 h s.heap.size) s.heap H locs := by rw [hH, hlo]; exact hS
  suffices hgo : W p l e ({ frames := 2, cells := 0, slots := 0, locals := 43 }) s m ([.ref (h 0), .int x0, .int x1, .int x2] : List Value).toArray below meth c H locs 0 0 Qz (F0 m 0 ls []) by rw [hH, hlo] at hgo; exact hgo
  refine lv_iload_n hx hb dX11_chairs_0 rfl (lv_at hl 2 rfl) ?_
  refine lv_bipush (v := 10) hx hb dX11_chairs_1 (by decide) ?_
  refine lv_irem hx hb dX11_chairs_3 (by decide) ?_
  refine lv_topi (fun v_1 ev_1 => ?_)
  have q_2 : 0 ≤ x1.toInt → v_1.toInt = x1.toInt % 10 := fun z => by rw [ev_1]; exact bn_remI z (by decide) (by decide)
  refine lv_istore (lv' := [(4, .int v_1), (0, .ref (h 0)), (1, .int x0), (2, .int x1), (3, .int x2)]) hx hb dX11_chairs_4 hl (by decide) rfl (fun ls hl => ?_)
  refine lv_iload_n hx hb dX11_chairs_6 rfl (lv_at hl 2 rfl) ?_
  refine sg_calli (va_runS (As := [.int x0]) (rest := []) ⟨hx, hb, hml, hown, hts⟩ (cf_X11_isShelf l D ca za h hh f0X L0 Q0 x0 H.size) (va_cwS 1 hts gX11_chairs_X11_isShelf rfl rfl rfl (by decide +kernel) ⟨Nat.le_of_ble_eq_true rfl, Nat.le_of_ble_eq_true rfl⟩) (sg_preS hA hK hP hS hZ) rfl rfl hl.1 rfl (lv_room (Nat.le_of_ble_eq_true rfl)) dX11_chairs_7 ⟨Nat.le_refl _, Nat.le_refl _⟩) hA hS (fun r_6 f_3 L_4 Q_5 H locs hq hP hS => ?_)
  obtain ⟨⟨ef9, eL9, eQ9⟩, hq⟩ := hq
  rw [ef9, eL9, eQ9] at hP; clear ef9 eL9 eQ9
  rcases hq with ⟨rfl, hq⟩ | ⟨rfl, hq⟩
  · skip
    have q_7 := hq
    refine lv_if_eq (tgt := 39) hx hb dX11_chairs_10 (by decide) (fun c => absurd c (by decide)) (fun c => ?_)
    refine lv_iload_n hx hb dX11_chairs_13 rfl (lv_at hl 3 rfl) ?_
    refine lv_if_lt (tgt := 39) hx hb dX11_chairs_14 (by decide) (fun c => ?_) (fun c => ?_)
    · skip
      have c_8 : x1.toInt < 0 := (by have z := bn_lt c; have k1 : (0 : Int32).toInt = 0 := (by decide); omega)
      refine lv_iconst (v := (-1)) hx hb dX11_chairs_39 (by decide) ?_
      exact hret _ _ _ _ (-1) f0X L0 Q0 dX11_chairs_40 hP hS ⟨trivial, Or.inr (⟨rfl, by omega⟩)⟩
    · skip
      have c_9 : 0 ≤ x1.toInt := (by have z := bn_nlt c; have k1 : (0 : Int32).toInt = 0 := (by decide); omega)
      refine lv_iload_n hx hb dX11_chairs_17 rfl (lv_at hl 3 rfl) ?_
      refine lv_bipush (v := 10) hx hb dX11_chairs_18 (by decide) ?_
      refine lv_idiv hx hb dX11_chairs_20 (by decide) ?_
      refine lv_topi (fun v_10 ev_10 => ?_)
      have q_11 : 0 ≤ x1.toInt → v_10.toInt = x1.toInt / 10 := fun z => by rw [ev_10]; exact bn_divI z (by decide) (by decide)
      refine sg_calli (va_runS (As := [.int v_10]) (rest := []) ⟨hx, hb, hml, hown, hts⟩ (cf_X11_isPart l D ca za h hh f0X L0 Q0 v_10 H.size) (va_cwS 1 hts gX11_chairs_X11_isPart rfl rfl rfl (by decide +kernel) ⟨Nat.le_of_ble_eq_true rfl, Nat.le_of_ble_eq_true rfl⟩) (sg_preS hA hK hP hS hZ) rfl rfl hl.1 rfl (lv_room (Nat.le_of_ble_eq_true rfl)) dX11_chairs_21 ⟨Nat.le_refl _, Nat.le_refl _⟩) hA hS (fun r_15 f_12 L_13 Q_14 H locs hq hP hS => ?_)
      obtain ⟨⟨ef9, eL9, eQ9⟩, hq⟩ := hq
      rw [ef9, eL9, eQ9] at hP; clear ef9 eL9 eQ9
      rcases hq with ⟨rfl, hq⟩ | ⟨rfl, hq⟩
      · skip
        have q_16 := hq
        refine lv_if_eq (tgt := 39) hx hb dX11_chairs_24 (by decide) (fun c => absurd c (by decide)) (fun c => ?_)
        refine lv_iload hx hb dX11_chairs_27 (lv_at hl 0 rfl) ?_
        refine lv_iconst (v := 1) hx hb dX11_chairs_29 (by decide) ?_
        refine lv_icmp_lt (tgt := 39) hx hb dX11_chairs_30 (by decide) (fun c => ?_) (fun c => ?_)
        · skip
          have c_17 : v_1.toInt < 1 := (by have z := bn_lt c; have k1 : (1 : Int32).toInt = 1 := (by decide); omega)
          refine lv_iconst (v := (-1)) hx hb dX11_chairs_39 (by decide) ?_
          exact hret _ _ _ _ (-1) f0X L0 Q0 dX11_chairs_40 hP hS ⟨trivial, Or.inr (⟨rfl, by omega⟩)⟩
        · skip
          have c_18 : 1 ≤ v_1.toInt := (by have z := bn_nlt c; have k1 : (1 : Int32).toInt = 1 := (by decide); omega)
          refine lv_iload hx hb dX11_chairs_33 (lv_at hl 0 rfl) ?_
          refine lv_iconst (v := 3) hx hb dX11_chairs_35 (by decide) ?_
          refine lv_icmp_le (tgt := 41) hx hb dX11_chairs_36 (by decide) (fun c => ?_) (fun c => ?_)
          · skip
            have c_19 : v_1.toInt ≤ 3 := (by have z := bn_le c; have k1 : (3 : Int32).toInt = 3 := (by decide); omega)
            refine lv_iload_n hx hb dX11_chairs_41 rfl (lv_at hl 4 rfl) ?_
            refine lv_iconst (v := (-1)) hx hb dX11_chairs_42 (by decide) ?_
            refine lv_icmp_eq (tgt := 59) hx hb dX11_chairs_43 (by decide) (fun c => ?_) (fun c => ?_)
            · skip
              have c_21 : x2.toInt = (-1) := (by have z := Int32.toInt_inj.mpr c; have k1 : ((-1) : Int32).toInt = (-1) := (by decide); omega)
              refine lv_aload_n hx hb dX11_chairs_59 rfl (lv_at hl 1 rfl) ?_
              refine lv_iload_n hx hb dX11_chairs_60 rfl (lv_at hl 2 rfl) ?_
              refine sg_calli (va_runV (As := [.int x0]) (rest := []) ⟨hx, hb, hml, hown, hts⟩ (cf_X11_readWeek l D ca za h hh x0 (by first | omega | decide) H.size) (cwV 1 hts gX11_chairs_X11_readWeek rfl rfl rfl (by decide +kernel) ⟨Nat.le_of_ble_eq_true rfl, Nat.le_of_ble_eq_true rfl⟩) (sg_preV (ci := 11) (C := RX11) (T := TX11) (N := 10) hA hK hP hS hZ 0 (by decide) rfl rfl) rfl rfl hl.1 rfl (lv_room (Nat.le_of_ble_eq_true rfl)) dX11_chairs_61 ⟨Nat.le_refl _, Nat.le_refl _⟩) hA hS (fun r_26 f_23 L_24 Q_25 H locs hq hP hS => ?_)
              obtain ⟨⟨ef9, eL9, eQ9⟩, hq⟩ := hq
              rw [ef9, eL9, eQ9] at hP; clear ef9 eL9 eQ9
              obtain ⟨rfl, hq⟩ := hq
              have q_27 := hq
              refine lv_istore (lv' := [(5, .int (-11)), (4, .int v_1), (0, .ref (h 0)), (1, .int x0), (2, .int x1), (3, .int x2)]) hx hb dX11_chairs_64 hl (by decide) rfl (fun ls hl => ?_)
              refine lv_iload hx hb dX11_chairs_66 (lv_at hl 0 rfl) ?_
              refine lv_if_eq (tgt := 76) hx hb dX11_chairs_68 (by decide) (fun c => absurd c (by decide)) (fun c => ?_)
              refine lv_iload hx hb dX11_chairs_71 (lv_at hl 0 rfl) ?_
              refine lv_goto (tgt := 90) hx hb dX11_chairs_73 (by decide) ?_
              exact hret _ _ _ _ (-11) f0X L0 Q0 dX11_chairs_90 hP hS ⟨trivial, Or.inl ⟨rfl, by omega⟩⟩
            · skip
              have c_22 : x2.toInt ≠ (-1) := (by have z := bn_ne c; have k1 : ((-1) : Int32).toInt = (-1) := (by decide); omega)
              refine lv_aload_n hx hb dX11_chairs_46 rfl (lv_at hl 1 rfl) ?_
              refine sg_get (ci := 11) (v := .ref (h 1)) (C := RX11) (T := TX11) (N := 10) hx hb hts (by decide +kernel) hown hK hP 0 (by decide) rfl rfl 0 (by decide) (hts (.fieldLink RX11 12 "SetAgain" "chair" "LSetAgain$Chair;") (by decide +kernel)) (fun _ h9 => h9) rfl dX11_chairs_47 ?_
              refine lv_iload_n hx hb dX11_chairs_50 rfl (lv_at hl 4 rfl) ?_
              refine sg_calli (va_runV (As := [.int x2]) (rest := []) ⟨hx, hb, hml, hown, hts⟩ (cf_X0_has l D ca za h hh f0X L0 Q0 x2 rfl H.size) (cwV 1 hts gX11_chairs_X0_has rfl rfl rfl (by decide +kernel) ⟨Nat.le_of_ble_eq_true rfl, Nat.le_of_ble_eq_true rfl⟩) (sg_preV (ci := 0) (C := RX0) (T := TX0) (N := 5) hA hK hP hS hZ 1 (by decide) rfl rfl) rfl rfl hl.1 rfl (lv_room (Nat.le_of_ble_eq_true rfl)) dX11_chairs_51 ⟨Nat.le_refl _, Nat.le_refl _⟩) hA hS (fun r_31 f_28 L_29 Q_30 H locs hq hP hS => ?_)
              obtain ⟨⟨ef9, eL9, eQ9⟩, hq⟩ := hq
              rw [ef9, eL9, eQ9] at hP; clear ef9 eL9 eQ9
              obtain ⟨rfl, hq⟩ := hq
              have q_32 := hq
              refine lv_if_ne (tgt := 59) hx hb dX11_chairs_54 (by decide) (fun c => absurd c (by decide)) (fun c => ?_)
              refine lv_iconst (v := (-1)) hx hb dX11_chairs_57 (by decide) ?_
              exact hret _ _ _ _ (-1) f0X L0 Q0 dX11_chairs_58 hP hS ⟨trivial, Or.inr (⟨rfl, by omega⟩)⟩
          · skip
            have c_20 : 3 < v_1.toInt := (by have z := bn_nle c; have k1 : (3 : Int32).toInt = 3 := (by decide); omega)
            refine lv_iconst (v := (-1)) hx hb dX11_chairs_39 (by decide) ?_
            exact hret _ _ _ _ (-1) f0X L0 Q0 dX11_chairs_40 hP hS ⟨trivial, Or.inr (⟨rfl, by omega⟩)⟩
      · skip
        have q_33 := hq
        refine lv_if_eq (tgt := 39) hx hb dX11_chairs_24 (by decide) (fun c => ?_) (fun c => absurd c (by decide))
        refine lv_iconst (v := (-1)) hx hb dX11_chairs_39 (by decide) ?_
        exact hret _ _ _ _ (-1) f0X L0 Q0 dX11_chairs_40 hP hS ⟨trivial, Or.inr (⟨rfl, by omega⟩)⟩
  · skip
    have q_34 := hq
    refine lv_if_eq (tgt := 39) hx hb dX11_chairs_10 (by decide) (fun c => ?_) (fun c => absurd c (by decide))
    refine lv_iconst (v := (-1)) hx hb dX11_chairs_39 (by decide) ?_
    exact hret _ _ _ _ (-1) f0X L0 Q0 dX11_chairs_40 hP hS ⟨trivial, Or.inr (⟨rfl, by omega⟩)⟩

set_option maxHeartbeats 4000000 in
set_option maxRecDepth 100000 in
theorem cf_X11_wilful (l : Launch) (D : va_G) (ca : Nat → ClassId) (za h : Nat → Nat) (hh : sgH 52 h) (x0 : Int32) (x1 : Int32) (x2 : Int32) (sz : Nat) : Met l yX11_wilful wsX11_wilful { frames := 1, cells := 0, slots := 0, locals := 21 } (sgP D vwCl (tyX ca) 52 h (eX ca h) zcX za f0X L0 Q0 sz [.ref (h 0), .int x0, .int x1, .int x2]) (sgQi D vwCl 52 h (eX ca h) sz (fun r f1 L1 Q1 => True ∧ ((r = (-2000000000) ∧ (True))))) 0 0 (sgA 52 h sz) := by
  refine sg_ofWi (cc := cX11_wilful) (maxL := 4) RX11 (by decide) rfl rfl (Nat.le_of_ble_eq_true rfl) ?_
  intro p e s m below meth c Qz ls hx hb hml hown hts hK hZ hP hS hl hret
  have hA := sgY.self (n := 52) (h := h) (sz := s.heap.size)
  have hl : lv_has ls 4 [(0, .ref (h 0)), (1, .int x0), (2, .int x1), (3, .int x2)] := hl
  obtain ⟨H, hH⟩ : ∃ z : Heap, z = s.heap := ⟨_, rfl⟩
  obtain ⟨locs, hlo⟩ : ∃ z : List Loc, z = [] := ⟨_, rfl⟩
  have hP : va_P D vwCl (sgw 52 h (eX ca h) f0X L0 Q0) H := by rw [hH]; exact hP
  have hS : va_S (sgA 52 h s.heap.size) s.heap H locs := by rw [hH, hlo]; exact hS
  suffices hgo : W p l e ({ frames := 1, cells := 0, slots := 0, locals := 21 }) s m ([.ref (h 0), .int x0, .int x1, .int x2] : List Value).toArray below meth c H locs 0 0 Qz (F0 m 0 ls []) by rw [hH, hlo] at hgo; exact hgo
  refine lv_iload_n hx hb dX11_wilful_0 rfl (lv_at hl 1 rfl) ?_
  refine sg_calli (va_runS (As := [.int x0]) (rest := []) ⟨hx, hb, hml, hown, hts⟩ (cf_X11_isShelf l D ca za h hh f0X L0 Q0 x0 H.size) (va_cwS 1 hts gX11_wilful_X11_isShelf rfl rfl rfl (by decide +kernel) ⟨Nat.le_of_ble_eq_true rfl, Nat.le_of_ble_eq_true rfl⟩) (sg_preS hA hK hP hS hZ) rfl rfl hl.1 rfl (lv_room (Nat.le_of_ble_eq_true rfl)) dX11_wilful_1 ⟨Nat.le_refl _, Nat.le_refl _⟩) hA hS (fun r_4 f_1 L_2 Q_3 H locs hq hP hS => ?_)
  obtain ⟨⟨ef9, eL9, eQ9⟩, hq⟩ := hq
  rw [ef9, eL9, eQ9] at hP; clear ef9 eL9 eQ9
  rcases hq with ⟨rfl, hq⟩ | ⟨rfl, hq⟩
  · skip
    have q_5 := hq
    refine lv_if_eq (tgt := 25) hx hb dX11_wilful_4 (by decide) (fun c => absurd c (by decide)) (fun c => ?_)
    refine lv_aload_n hx hb dX11_wilful_7 rfl (lv_at hl 0 rfl) ?_
    refine sg_get (ci := 11) (v := .ref (h 1)) (C := RX11) (T := TX11) (N := 10) hx hb hts (by decide +kernel) hown hK hP 0 (by decide) rfl rfl 0 (by decide) (hts (.fieldLink RX11 12 "SetAgain" "chair" "LSetAgain$Chair;") (by decide +kernel)) (fun _ h9 => h9) rfl dX11_wilful_8 ?_
    refine lv_iload_n hx hb dX11_wilful_11 rfl (lv_at hl 2 rfl) ?_
    refine sg_calli (va_runV (As := [.int x1]) (rest := []) ⟨hx, hb, hml, hown, hts⟩ (cf_X0_has l D ca za h hh f0X L0 Q0 x1 rfl H.size) (cwV 1 hts gX11_wilful_X0_has rfl rfl rfl (by decide +kernel) ⟨Nat.le_of_ble_eq_true rfl, Nat.le_of_ble_eq_true rfl⟩) (sg_preV (ci := 0) (C := RX0) (T := TX0) (N := 5) hA hK hP hS hZ 1 (by decide) rfl rfl) rfl rfl hl.1 rfl (lv_room (Nat.le_of_ble_eq_true rfl)) dX11_wilful_12 ⟨Nat.le_refl _, Nat.le_refl _⟩) hA hS (fun r_9 f_6 L_7 Q_8 H locs hq hP hS => ?_)
    obtain ⟨⟨ef9, eL9, eQ9⟩, hq⟩ := hq
    rw [ef9, eL9, eQ9] at hP; clear ef9 eL9 eQ9
    obtain ⟨rfl, hq⟩ := hq
    have q_10 := hq
    refine lv_if_eq (tgt := 25) hx hb dX11_wilful_15 (by decide) (fun c => ?_) (fun c => absurd c (by decide))
    refine lv_ldc (v := (-2000000000)) hx hb hown (hts (.constant RX11 205 (-2000000000)) (by decide +kernel)) dX11_wilful_25 ?_
    exact hret _ _ _ _ (-2000000000) f0X L0 Q0 dX11_wilful_27 hP hS ⟨trivial, ⟨rfl, trivial⟩⟩
  · skip
    have q_11 := hq
    refine lv_if_eq (tgt := 25) hx hb dX11_wilful_4 (by decide) (fun c => ?_) (fun c => absurd c (by decide))
    refine lv_ldc (v := (-2000000000)) hx hb hown (hts (.constant RX11 205 (-2000000000)) (by decide +kernel)) dX11_wilful_25 ?_
    exact hret _ _ _ _ (-2000000000) f0X L0 Q0 dX11_wilful_27 hP hS ⟨trivial, ⟨rfl, trivial⟩⟩

set_option maxHeartbeats 4000000 in
set_option maxRecDepth 100000 in
theorem cf_X11_who (l : Launch) (D : va_G) (ca : Nat → ClassId) (za h : Nat → Nat) (hh : sgH 52 h) (x0 : Int32) (x1 : Int32) (x2 : Int32) (sz : Nat) : Met l yX11_who wsX11_who { frames := 1, cells := 0, slots := 0, locals := 21 } (sgP D vwCl (tyX ca) 52 h (eX ca h) zcX za f0X L0 Q0 sz [.ref (h 0), .int x0, .int x1, .int x2]) (sgQi D vwCl 52 h (eX ca h) sz (fun r f1 L1 Q1 => True ∧ ((r = (-11) ∧ ((0 ≤ x0.toInt ∧ x0.toInt ≤ 5) ∧ (0 ≤ x1.toInt ∧ x1.toInt ≤ 2) ∧ (0 ≤ x2.toInt ∧ x2.toInt ≤ 11))) ∨ (r = (-1) ∧ (¬ ((0 ≤ x0.toInt ∧ x0.toInt ≤ 5) ∧ (0 ≤ x1.toInt ∧ x1.toInt ≤ 2) ∧ (0 ≤ x2.toInt ∧ x2.toInt ≤ 11))))))) 0 0 (sgA 52 h sz) := by
  refine sg_ofWi (cc := cX11_who) (maxL := 5) RX11 (by decide) rfl rfl (Nat.le_of_ble_eq_true rfl) ?_
  intro p e s m below meth c Qz ls hx hb hml hown hts hK hZ hP hS hl hret
  have hA := sgY.self (n := 52) (h := h) (sz := s.heap.size)
  have hl : lv_has ls 5 [(0, .ref (h 0)), (1, .int x0), (2, .int x1), (3, .int x2)] := hl
  obtain ⟨H, hH⟩ : ∃ z : Heap, z = s.heap := ⟨_, rfl⟩
  obtain ⟨locs, hlo⟩ : ∃ z : List Loc, z = [] := ⟨_, rfl⟩
  have hP : va_P D vwCl (sgw 52 h (eX ca h) f0X L0 Q0) H := by rw [hH]; exact hP
  have hS : va_S (sgA 52 h s.heap.size) s.heap H locs := by rw [hH, hlo]; exact hS
  suffices hgo : W p l e ({ frames := 1, cells := 0, slots := 0, locals := 21 }) s m ([.ref (h 0), .int x0, .int x1, .int x2] : List Value).toArray below meth c H locs 0 0 Qz (F0 m 0 ls []) by rw [hH, hlo] at hgo; exact hgo
  refine lv_iload_n hx hb dX11_who_0 rfl (lv_at hl 1 rfl) ?_
  refine sg_calli (va_runS (As := [.int x0]) (rest := []) ⟨hx, hb, hml, hown, hts⟩ (cf_X11_isShelf l D ca za h hh f0X L0 Q0 x0 H.size) (va_cwS 1 hts gX11_who_X11_isShelf rfl rfl rfl (by decide +kernel) ⟨Nat.le_of_ble_eq_true rfl, Nat.le_of_ble_eq_true rfl⟩) (sg_preS hA hK hP hS hZ) rfl rfl hl.1 rfl (lv_room (Nat.le_of_ble_eq_true rfl)) dX11_who_1 ⟨Nat.le_refl _, Nat.le_refl _⟩) hA hS (fun r_4 f_1 L_2 Q_3 H locs hq hP hS => ?_)
  obtain ⟨⟨ef9, eL9, eQ9⟩, hq⟩ := hq
  rw [ef9, eL9, eQ9] at hP; clear ef9 eL9 eQ9
  rcases hq with ⟨rfl, hq⟩ | ⟨rfl, hq⟩
  · skip
    have q_5 := hq
    refine lv_if_eq (tgt := 24) hx hb dX11_who_4 (by decide) (fun c => absurd c (by decide)) (fun c => ?_)
    refine lv_iload_n hx hb dX11_who_7 rfl (lv_at hl 2 rfl) ?_
    refine sg_calli (va_runS (As := [.int x1]) (rest := []) ⟨hx, hb, hml, hown, hts⟩ (cf_X11_isPart l D ca za h hh f0X L0 Q0 x1 H.size) (va_cwS 1 hts gX11_who_X11_isPart rfl rfl rfl (by decide +kernel) ⟨Nat.le_of_ble_eq_true rfl, Nat.le_of_ble_eq_true rfl⟩) (sg_preS hA hK hP hS hZ) rfl rfl hl.1 rfl (lv_room (Nat.le_of_ble_eq_true rfl)) dX11_who_8 ⟨Nat.le_refl _, Nat.le_refl _⟩) hA hS (fun r_9 f_6 L_7 Q_8 H locs hq hP hS => ?_)
    obtain ⟨⟨ef9, eL9, eQ9⟩, hq⟩ := hq
    rw [ef9, eL9, eQ9] at hP; clear ef9 eL9 eQ9
    rcases hq with ⟨rfl, hq⟩ | ⟨rfl, hq⟩
    · skip
      have q_10 := hq
      refine lv_if_eq (tgt := 24) hx hb dX11_who_11 (by decide) (fun c => absurd c (by decide)) (fun c => ?_)
      refine lv_iload_n hx hb dX11_who_14 rfl (lv_at hl 3 rfl) ?_
      refine lv_if_lt (tgt := 24) hx hb dX11_who_15 (by decide) (fun c => ?_) (fun c => ?_)
      · skip
        have c_11 : x2.toInt < 0 := (by have z := bn_lt c; have k1 : (0 : Int32).toInt = 0 := (by decide); omega)
        refine lv_iconst (v := (-1)) hx hb dX11_who_24 (by decide) ?_
        exact hret _ _ _ _ (-1) f0X L0 Q0 dX11_who_25 hP hS ⟨trivial, Or.inr (⟨rfl, by omega⟩)⟩
      · skip
        have c_12 : 0 ≤ x2.toInt := (by have z := bn_nlt c; have k1 : (0 : Int32).toInt = 0 := (by decide); omega)
        refine lv_iload_n hx hb dX11_who_18 rfl (lv_at hl 3 rfl) ?_
        refine lv_bipush (v := 12) hx hb dX11_who_19 (by decide) ?_
        refine lv_icmp_lt (tgt := 26) hx hb dX11_who_21 (by decide) (fun c => ?_) (fun c => ?_)
        · skip
          have c_13 : x2.toInt < 12 := (by have z := bn_lt c; have k1 : (12 : Int32).toInt = 12 := (by decide); omega)
          refine lv_aload_n hx hb dX11_who_26 rfl (lv_at hl 0 rfl) ?_
          refine lv_iload_n hx hb dX11_who_27 rfl (lv_at hl 1 rfl) ?_
          refine sg_calli (va_runV (As := [.int x0]) (rest := []) ⟨hx, hb, hml, hown, hts⟩ (cf_X11_refusalOf l D ca za h hh x0 (by first | omega | decide) H.size) (cwV 1 hts gX11_who_X11_refusalOf rfl rfl rfl (by decide +kernel) ⟨Nat.le_of_ble_eq_true rfl, Nat.le_of_ble_eq_true rfl⟩) (sg_preV (ci := 11) (C := RX11) (T := TX11) (N := 10) hA hK hP hS hZ 0 (by decide) rfl rfl) rfl rfl hl.1 rfl (lv_room (Nat.le_of_ble_eq_true rfl)) dX11_who_28 ⟨Nat.le_refl _, Nat.le_refl _⟩) hA hS (fun r_18 f_15 L_16 Q_17 H locs hq hP hS => ?_)
          obtain ⟨⟨ef9, eL9, eQ9⟩, hq⟩ := hq
          rw [ef9, eL9, eQ9] at hP; clear ef9 eL9 eQ9
          obtain ⟨rfl, hq⟩ := hq
          have q_19 := hq
          refine lv_istore (lv' := [(4, .int (-11)), (0, .ref (h 0)), (1, .int x0), (2, .int x1), (3, .int x2)]) hx hb dX11_who_31 hl (by decide) rfl (fun ls hl => ?_)
          refine lv_iload hx hb dX11_who_33 (lv_at hl 0 rfl) ?_
          refine lv_if_eq (tgt := 41) hx hb dX11_who_35 (by decide) (fun c => absurd c (by decide)) (fun c => ?_)
          refine lv_iload hx hb dX11_who_38 (lv_at hl 0 rfl) ?_
          exact hret _ _ _ _ (-11) f0X L0 Q0 dX11_who_40 hP hS ⟨trivial, Or.inl ⟨rfl, by omega⟩⟩
        · skip
          have c_14 : 12 ≤ x2.toInt := (by have z := bn_nlt c; have k1 : (12 : Int32).toInt = 12 := (by decide); omega)
          refine lv_iconst (v := (-1)) hx hb dX11_who_24 (by decide) ?_
          exact hret _ _ _ _ (-1) f0X L0 Q0 dX11_who_25 hP hS ⟨trivial, Or.inr (⟨rfl, by omega⟩)⟩
    · skip
      have q_20 := hq
      refine lv_if_eq (tgt := 24) hx hb dX11_who_11 (by decide) (fun c => ?_) (fun c => absurd c (by decide))
      refine lv_iconst (v := (-1)) hx hb dX11_who_24 (by decide) ?_
      exact hret _ _ _ _ (-1) f0X L0 Q0 dX11_who_25 hP hS ⟨trivial, Or.inr (⟨rfl, by omega⟩)⟩
  · skip
    have q_21 := hq
    refine lv_if_eq (tgt := 24) hx hb dX11_who_4 (by decide) (fun c => ?_) (fun c => absurd c (by decide))
    refine lv_iconst (v := (-1)) hx hb dX11_who_24 (by decide) ?_
    exact hret _ _ _ _ (-1) f0X L0 Q0 dX11_who_25 hP hS ⟨trivial, Or.inr (⟨rfl, by omega⟩)⟩

set_option maxHeartbeats 4000000 in
set_option maxRecDepth 100000 in
theorem cf_X11_judge (l : Launch) (D : va_G) (ca : Nat → ClassId) (za h : Nat → Nat) (hh : sgH 52 h) (x0 : Int32) (x1 : Int32) (sz : Nat) : Met l yX11_judge wsX11_judge { frames := 1, cells := 0, slots := 0, locals := 21 } (sgP D vwCl (tyX ca) 52 h (eX ca h) zcX za f0X L0 Q0 sz [.ref (h 0), .int x0, .int x1]) (sgQi D vwCl 52 h (eX ca h) sz (fun r f1 L1 Q1 => True ∧ ((r = (-11) ∧ (0 ≤ x0.toInt ∧ x0.toInt / 10 ≤ 5 ∧ x0.toInt % 10 ≤ 5 ∧ (0 ≤ x1.toInt ∧ x1.toInt ≤ 2))) ∨ (r = (-1) ∧ (¬ (0 ≤ x0.toInt ∧ x0.toInt / 10 ≤ 5 ∧ x0.toInt % 10 ≤ 5 ∧ (0 ≤ x1.toInt ∧ x1.toInt ≤ 2))))))) 0 0 (sgA 52 h sz) := by
  refine sg_ofWi (cc := cX11_judge) (maxL := 7) RX11 (by decide) rfl rfl (Nat.le_of_ble_eq_true rfl) ?_
  intro p e s m below meth c Qz ls hx hb hml hown hts hK hZ hP hS hl hret
  have hA := sgY.self (n := 52) (h := h) (sz := s.heap.size)
  have hl : lv_has ls 7 [(0, .ref (h 0)), (1, .int x0), (2, .int x1)] := hl
  obtain ⟨H, hH⟩ : ∃ z : Heap, z = s.heap := ⟨_, rfl⟩
  obtain ⟨locs, hlo⟩ : ∃ z : List Loc, z = [] := ⟨_, rfl⟩
  have hP : va_P D vwCl (sgw 52 h (eX ca h) f0X L0 Q0) H := by rw [hH]; exact hP
  have hS : va_S (sgA 52 h s.heap.size) s.heap H locs := by rw [hH, hlo]; exact hS
  suffices hgo : W p l e ({ frames := 1, cells := 0, slots := 0, locals := 21 }) s m ([.ref (h 0), .int x0, .int x1] : List Value).toArray below meth c H locs 0 0 Qz (F0 m 0 ls []) by rw [hH, hlo] at hgo; exact hgo
  refine lv_iload_n hx hb dX11_judge_0 rfl (lv_at hl 1 rfl) ?_
  refine lv_bipush (v := 10) hx hb dX11_judge_1 (by decide) ?_
  refine lv_idiv hx hb dX11_judge_3 (by decide) ?_
  refine lv_topi (fun v_1 ev_1 => ?_)
  have q_2 : 0 ≤ x0.toInt → v_1.toInt = x0.toInt / 10 := fun z => by rw [ev_1]; exact bn_divI z (by decide) (by decide)
  refine lv_istore_n (lv' := [(3, .int v_1), (0, .ref (h 0)), (1, .int x0), (2, .int x1)]) hx hb dX11_judge_4 rfl hl (by decide) rfl (fun ls hl => ?_)
  refine lv_iload_n hx hb dX11_judge_5 rfl (lv_at hl 2 rfl) ?_
  refine lv_bipush (v := 10) hx hb dX11_judge_6 (by decide) ?_
  refine lv_irem hx hb dX11_judge_8 (by decide) ?_
  refine lv_topi (fun v_3 ev_3 => ?_)
  have q_4 : 0 ≤ x0.toInt → v_3.toInt = x0.toInt % 10 := fun z => by rw [ev_3]; exact bn_remI z (by decide) (by decide)
  refine lv_istore (lv' := [(4, .int v_3), (3, .int v_1), (0, .ref (h 0)), (1, .int x0), (2, .int x1)]) hx hb dX11_judge_9 hl (by decide) rfl (fun ls hl => ?_)
  refine lv_iload_n hx hb dX11_judge_11 rfl (lv_at hl 3 rfl) ?_
  refine lv_if_lt (tgt := 37) hx hb dX11_judge_12 (by decide) (fun c => ?_) (fun c => ?_)
  · skip
    have c_5 : x0.toInt < 0 := (by have z := bn_lt c; have k1 : (0 : Int32).toInt = 0 := (by decide); omega)
    refine lv_iconst (v := (-1)) hx hb dX11_judge_37 (by decide) ?_
    exact hret _ _ _ _ (-1) f0X L0 Q0 dX11_judge_38 hP hS ⟨trivial, Or.inr (⟨rfl, by omega⟩)⟩
  · skip
    have c_6 : 0 ≤ x0.toInt := (by have z := bn_nlt c; have k1 : (0 : Int32).toInt = 0 := (by decide); omega)
    refine lv_iload_n hx hb dX11_judge_15 rfl (lv_at hl 1 rfl) ?_
    refine sg_calli (va_runS (As := [.int v_1]) (rest := []) ⟨hx, hb, hml, hown, hts⟩ (cf_X11_isShelf l D ca za h hh f0X L0 Q0 v_1 H.size) (va_cwS 1 hts gX11_judge_X11_isShelf rfl rfl rfl (by decide +kernel) ⟨Nat.le_of_ble_eq_true rfl, Nat.le_of_ble_eq_true rfl⟩) (sg_preS hA hK hP hS hZ) rfl rfl hl.1 rfl (lv_room (Nat.le_of_ble_eq_true rfl)) dX11_judge_16 ⟨Nat.le_refl _, Nat.le_refl _⟩) hA hS (fun r_10 f_7 L_8 Q_9 H locs hq hP hS => ?_)
    obtain ⟨⟨ef9, eL9, eQ9⟩, hq⟩ := hq
    rw [ef9, eL9, eQ9] at hP; clear ef9 eL9 eQ9
    rcases hq with ⟨rfl, hq⟩ | ⟨rfl, hq⟩
    · skip
      have q_11 := hq
      refine lv_if_eq (tgt := 37) hx hb dX11_judge_19 (by decide) (fun c => absurd c (by decide)) (fun c => ?_)
      refine lv_iload hx hb dX11_judge_22 (lv_at hl 0 rfl) ?_
      refine sg_calli (va_runS (As := [.int v_3]) (rest := []) ⟨hx, hb, hml, hown, hts⟩ (cf_X11_isShelf l D ca za h hh f0X L0 Q0 v_3 H.size) (va_cwS 1 hts gX11_judge_X11_isShelf rfl rfl rfl (by decide +kernel) ⟨Nat.le_of_ble_eq_true rfl, Nat.le_of_ble_eq_true rfl⟩) (sg_preS hA hK hP hS hZ) rfl rfl hl.1 rfl (lv_room (Nat.le_of_ble_eq_true rfl)) dX11_judge_24 ⟨Nat.le_refl _, Nat.le_refl _⟩) hA hS (fun r_15 f_12 L_13 Q_14 H locs hq hP hS => ?_)
      obtain ⟨⟨ef9, eL9, eQ9⟩, hq⟩ := hq
      rw [ef9, eL9, eQ9] at hP; clear ef9 eL9 eQ9
      rcases hq with ⟨rfl, hq⟩ | ⟨rfl, hq⟩
      · skip
        have q_16 := hq
        refine lv_if_eq (tgt := 37) hx hb dX11_judge_27 (by decide) (fun c => absurd c (by decide)) (fun c => ?_)
        refine lv_iload_n hx hb dX11_judge_30 rfl (lv_at hl 4 rfl) ?_
        refine sg_calli (va_runS (As := [.int x1]) (rest := []) ⟨hx, hb, hml, hown, hts⟩ (cf_X11_isPart l D ca za h hh f0X L0 Q0 x1 H.size) (va_cwS 1 hts gX11_judge_X11_isPart rfl rfl rfl (by decide +kernel) ⟨Nat.le_of_ble_eq_true rfl, Nat.le_of_ble_eq_true rfl⟩) (sg_preS hA hK hP hS hZ) rfl rfl hl.1 rfl (lv_room (Nat.le_of_ble_eq_true rfl)) dX11_judge_31 ⟨Nat.le_refl _, Nat.le_refl _⟩) hA hS (fun r_20 f_17 L_18 Q_19 H locs hq hP hS => ?_)
        obtain ⟨⟨ef9, eL9, eQ9⟩, hq⟩ := hq
        rw [ef9, eL9, eQ9] at hP; clear ef9 eL9 eQ9
        rcases hq with ⟨rfl, hq⟩ | ⟨rfl, hq⟩
        · skip
          have q_21 := hq
          refine lv_if_ne (tgt := 39) hx hb dX11_judge_34 (by decide) (fun c => ?_) (fun c => absurd c (by decide))
          refine lv_aload_n hx hb dX11_judge_39 rfl (lv_at hl 2 rfl) ?_
          refine lv_iload_n hx hb dX11_judge_40 rfl (lv_at hl 1 rfl) ?_
          refine sg_calli (va_runV (As := [.int v_1]) (rest := []) ⟨hx, hb, hml, hown, hts⟩ (cf_X11_refusalOf l D ca za h hh v_1 (by first | omega | decide) H.size) (cwV 1 hts gX11_judge_X11_refusalOf rfl rfl rfl (by decide +kernel) ⟨Nat.le_of_ble_eq_true rfl, Nat.le_of_ble_eq_true rfl⟩) (sg_preV (ci := 11) (C := RX11) (T := TX11) (N := 10) hA hK hP hS hZ 0 (by decide) rfl rfl) rfl rfl hl.1 rfl (lv_room (Nat.le_of_ble_eq_true rfl)) dX11_judge_41 ⟨Nat.le_refl _, Nat.le_refl _⟩) hA hS (fun r_25 f_22 L_23 Q_24 H locs hq hP hS => ?_)
          obtain ⟨⟨ef9, eL9, eQ9⟩, hq⟩ := hq
          rw [ef9, eL9, eQ9] at hP; clear ef9 eL9 eQ9
          obtain ⟨rfl, hq⟩ := hq
          have q_26 := hq
          refine lv_istore (lv' := [(5, .int (-11)), (4, .int v_3), (3, .int v_1), (0, .ref (h 0)), (1, .int x0), (2, .int x1)]) hx hb dX11_judge_44 hl (by decide) rfl (fun ls hl => ?_)
          refine lv_aload_n hx hb dX11_judge_46 rfl (lv_at hl 3 rfl) ?_
          refine lv_iload hx hb dX11_judge_47 (lv_at hl 1 rfl) ?_
          refine sg_calli (va_runV (As := [.int v_3]) (rest := []) ⟨hx, hb, hml, hown, hts⟩ (cf_X11_refusalOf l D ca za h hh v_3 (by first | omega | decide) H.size) (cwV 1 hts gX11_judge_X11_refusalOf rfl rfl rfl (by decide +kernel) ⟨Nat.le_of_ble_eq_true rfl, Nat.le_of_ble_eq_true rfl⟩) (sg_preV (ci := 11) (C := RX11) (T := TX11) (N := 10) hA hK hP hS hZ 0 (by decide) rfl rfl) rfl rfl hl.1 rfl (lv_room (Nat.le_of_ble_eq_true rfl)) dX11_judge_49 ⟨Nat.le_refl _, Nat.le_refl _⟩) hA hS (fun r_30 f_27 L_28 Q_29 H locs hq hP hS => ?_)
          obtain ⟨⟨ef9, eL9, eQ9⟩, hq⟩ := hq
          rw [ef9, eL9, eQ9] at hP; clear ef9 eL9 eQ9
          obtain ⟨rfl, hq⟩ := hq
          have q_31 := hq
          refine lv_istore (lv' := [(6, .int (-11)), (5, .int (-11)), (4, .int v_3), (3, .int v_1), (0, .ref (h 0)), (1, .int x0), (2, .int x1)]) hx hb dX11_judge_52 hl (by decide) rfl (fun ls hl => ?_)
          refine lv_iload hx hb dX11_judge_54 (lv_at hl 1 rfl) ?_
          refine lv_bipush (v := (-11)) hx hb dX11_judge_56 (by decide) ?_
          refine lv_icmp_eq (tgt := 68) hx hb dX11_judge_58 (by decide) (fun c => ?_) (fun c => absurd c (by decide))
          refine lv_bipush (v := (-11)) hx hb dX11_judge_68 (by decide) ?_
          exact hret _ _ _ _ (-11) f0X L0 Q0 dX11_judge_70 hP hS ⟨trivial, Or.inl ⟨rfl, by omega⟩⟩
        · skip
          have q_32 := hq
          refine lv_if_ne (tgt := 39) hx hb dX11_judge_34 (by decide) (fun c => absurd c (by decide)) (fun c => ?_)
          refine lv_iconst (v := (-1)) hx hb dX11_judge_37 (by decide) ?_
          exact hret _ _ _ _ (-1) f0X L0 Q0 dX11_judge_38 hP hS ⟨trivial, Or.inr (⟨rfl, by omega⟩)⟩
      · skip
        have q_33 := hq
        refine lv_if_eq (tgt := 37) hx hb dX11_judge_27 (by decide) (fun c => ?_) (fun c => absurd c (by decide))
        refine lv_iconst (v := (-1)) hx hb dX11_judge_37 (by decide) ?_
        exact hret _ _ _ _ (-1) f0X L0 Q0 dX11_judge_38 hP hS ⟨trivial, Or.inr (⟨rfl, by omega⟩)⟩
    · skip
      have q_34 := hq
      refine lv_if_eq (tgt := 37) hx hb dX11_judge_19 (by decide) (fun c => ?_) (fun c => absurd c (by decide))
      refine lv_iconst (v := (-1)) hx hb dX11_judge_37 (by decide) ?_
      exact hret _ _ _ _ (-1) f0X L0 Q0 dX11_judge_38 hP hS ⟨trivial, Or.inr (⟨rfl, by omega⟩)⟩

set_option maxHeartbeats 4000000 in
set_option maxRecDepth 100000 in
theorem cf_X11_drawn (l : Launch) (D : va_G) (ca : Nat → ClassId) (za h : Nat → Nat) (hh : sgH 52 h) (x0 : Int32) (x1 : Int32) (x2 : Int32) (x3 : Int32) (sz : Nat) : Met l yX11_drawn wsX11_drawn { frames := 2, cells := 0, slots := 0, locals := 43 } (sgP D vwCl (tyX ca) 52 h (eX ca h) zcX za f0X L0 Q0 sz [.ref (h 0), .int x0, .int x1, .int x2, .int x3]) (sgQi D vwCl 52 h (eX ca h) sz (fun r f1 L1 Q1 => True ∧ ((r = (-11) ∧ ((0 ≤ x0.toInt ∧ x0.toInt ≤ 5) ∧ (1 ≤ x2.toInt ∧ x2.toInt ≤ 20) ∧ (0 ≤ x3.toInt ∧ x3.toInt ≤ 1))) ∨ (r = (-1) ∧ (¬ ((0 ≤ x0.toInt ∧ x0.toInt ≤ 5) ∧ (1 ≤ x2.toInt ∧ x2.toInt ≤ 20) ∧ (0 ≤ x3.toInt ∧ x3.toInt ≤ 1))))))) 0 0 (sgA 52 h sz) := by
  refine sg_ofWi (cc := cX11_drawn) (maxL := 7) RX11 (by decide) rfl rfl (Nat.le_of_ble_eq_true rfl) ?_
  intro p e s m below meth c Qz ls hx hb hml hown hts hK hZ hP hS hl hret
  have hA := sgY.self (n := 52) (h := h) (sz := s.heap.size)
  have hl : lv_has ls 7 [(0, .ref (h 0)), (1, .int x0), (2, .int x1), (3, .int x2), (4, .int x3)] := hl
  obtain ⟨H, hH⟩ : ∃ z : Heap, z = s.heap := ⟨_, rfl⟩
  obtain ⟨locs, hlo⟩ : ∃ z : List Loc, z = [] := ⟨_, rfl⟩
  have hP : va_P D vwCl (sgw 52 h (eX ca h) f0X L0 Q0) H := by rw [hH]; exact hP
  have hS : va_S (sgA 52 h s.heap.size) s.heap H locs := by rw [hH, hlo]; exact hS
  suffices hgo : W p l e ({ frames := 2, cells := 0, slots := 0, locals := 43 }) s m ([.ref (h 0), .int x0, .int x1, .int x2, .int x3] : List Value).toArray below meth c H locs 0 0 Qz (F0 m 0 ls []) by rw [hH, hlo] at hgo; exact hgo
  refine lv_iload_n hx hb dX11_drawn_0 rfl (lv_at hl 1 rfl) ?_
  refine sg_calli (va_runS (As := [.int x0]) (rest := []) ⟨hx, hb, hml, hown, hts⟩ (cf_X11_isShelf l D ca za h hh f0X L0 Q0 x0 H.size) (va_cwS 1 hts gX11_drawn_X11_isShelf rfl rfl rfl (by decide +kernel) ⟨Nat.le_of_ble_eq_true rfl, Nat.le_of_ble_eq_true rfl⟩) (sg_preS hA hK hP hS hZ) rfl rfl hl.1 rfl (lv_room (Nat.le_of_ble_eq_true rfl)) dX11_drawn_1 ⟨Nat.le_refl _, Nat.le_refl _⟩) hA hS (fun r_4 f_1 L_2 Q_3 H locs hq hP hS => ?_)
  obtain ⟨⟨ef9, eL9, eQ9⟩, hq⟩ := hq
  rw [ef9, eL9, eQ9] at hP; clear ef9 eL9 eQ9
  rcases hq with ⟨rfl, hq⟩ | ⟨rfl, hq⟩
  · skip
    have q_5 := hq
    refine lv_if_eq (tgt := 29) hx hb dX11_drawn_4 (by decide) (fun c => absurd c (by decide)) (fun c => ?_)
    refine lv_iload_n hx hb dX11_drawn_7 rfl (lv_at hl 3 rfl) ?_
    refine lv_iconst (v := 1) hx hb dX11_drawn_8 (by decide) ?_
    refine lv_icmp_lt (tgt := 29) hx hb dX11_drawn_9 (by decide) (fun c => ?_) (fun c => ?_)
    · skip
      have c_6 : x2.toInt < 1 := (by have z := bn_lt c; have k1 : (1 : Int32).toInt = 1 := (by decide); omega)
      refine lv_iconst (v := (-1)) hx hb dX11_drawn_29 (by decide) ?_
      exact hret _ _ _ _ (-1) f0X L0 Q0 dX11_drawn_30 hP hS ⟨trivial, Or.inr (⟨rfl, by omega⟩)⟩
    · skip
      have c_7 : 1 ≤ x2.toInt := (by have z := bn_nlt c; have k1 : (1 : Int32).toInt = 1 := (by decide); omega)
      refine lv_iload_n hx hb dX11_drawn_12 rfl (lv_at hl 3 rfl) ?_
      refine lv_bipush (v := 20) hx hb dX11_drawn_13 (by decide) ?_
      refine lv_icmp_gt (tgt := 29) hx hb dX11_drawn_15 (by decide) (fun c => ?_) (fun c => ?_)
      · skip
        have c_8 : 20 < x2.toInt := (by have z := bn_lt c; have k1 : (20 : Int32).toInt = 20 := (by decide); omega)
        refine lv_iconst (v := (-1)) hx hb dX11_drawn_29 (by decide) ?_
        exact hret _ _ _ _ (-1) f0X L0 Q0 dX11_drawn_30 hP hS ⟨trivial, Or.inr (⟨rfl, by omega⟩)⟩
      · skip
        have c_9 : x2.toInt ≤ 20 := (by have z := bn_nlt c; have k1 : (20 : Int32).toInt = 20 := (by decide); omega)
        refine lv_iload hx hb dX11_drawn_18 (lv_at hl 4 rfl) ?_
        refine lv_if_lt (tgt := 29) hx hb dX11_drawn_20 (by decide) (fun c => ?_) (fun c => ?_)
        · skip
          have c_10 : x3.toInt < 0 := (by have z := bn_lt c; have k1 : (0 : Int32).toInt = 0 := (by decide); omega)
          refine lv_iconst (v := (-1)) hx hb dX11_drawn_29 (by decide) ?_
          exact hret _ _ _ _ (-1) f0X L0 Q0 dX11_drawn_30 hP hS ⟨trivial, Or.inr (⟨rfl, by omega⟩)⟩
        · skip
          have c_11 : 0 ≤ x3.toInt := (by have z := bn_nlt c; have k1 : (0 : Int32).toInt = 0 := (by decide); omega)
          refine lv_iload hx hb dX11_drawn_23 (lv_at hl 4 rfl) ?_
          refine lv_iconst (v := 1) hx hb dX11_drawn_25 (by decide) ?_
          refine lv_icmp_le (tgt := 31) hx hb dX11_drawn_26 (by decide) (fun c => ?_) (fun c => ?_)
          · skip
            have c_12 : x3.toInt ≤ 1 := (by have z := bn_le c; have k1 : (1 : Int32).toInt = 1 := (by decide); omega)
            refine lv_aload_n hx hb dX11_drawn_31 rfl (lv_at hl 0 rfl) ?_
            refine lv_iload_n hx hb dX11_drawn_32 rfl (lv_at hl 1 rfl) ?_
            refine sg_calli (va_runV (As := [.int x0]) (rest := []) ⟨hx, hb, hml, hown, hts⟩ (cf_X11_readWeek l D ca za h hh x0 (by first | omega | decide) H.size) (cwV 1 hts gX11_drawn_X11_readWeek rfl rfl rfl (by decide +kernel) ⟨Nat.le_of_ble_eq_true rfl, Nat.le_of_ble_eq_true rfl⟩) (sg_preV (ci := 11) (C := RX11) (T := TX11) (N := 10) hA hK hP hS hZ 0 (by decide) rfl rfl) rfl rfl hl.1 rfl (lv_room (Nat.le_of_ble_eq_true rfl)) dX11_drawn_33 ⟨Nat.le_refl _, Nat.le_refl _⟩) hA hS (fun r_17 f_14 L_15 Q_16 H locs hq hP hS => ?_)
            obtain ⟨⟨ef9, eL9, eQ9⟩, hq⟩ := hq
            rw [ef9, eL9, eQ9] at hP; clear ef9 eL9 eQ9
            obtain ⟨rfl, hq⟩ := hq
            have q_18 := hq
            refine lv_istore (lv' := [(5, .int (-11)), (0, .ref (h 0)), (1, .int x0), (2, .int x1), (3, .int x2), (4, .int x3)]) hx hb dX11_drawn_36 hl (by decide) rfl (fun ls hl => ?_)
            refine lv_iload hx hb dX11_drawn_38 (lv_at hl 0 rfl) ?_
            refine lv_if_eq (tgt := 46) hx hb dX11_drawn_40 (by decide) (fun c => absurd c (by decide)) (fun c => ?_)
            refine lv_iload hx hb dX11_drawn_43 (lv_at hl 0 rfl) ?_
            exact hret _ _ _ _ (-11) f0X L0 Q0 dX11_drawn_45 hP hS ⟨trivial, Or.inl ⟨rfl, by omega⟩⟩
          · skip
            have c_13 : 1 < x3.toInt := (by have z := bn_nle c; have k1 : (1 : Int32).toInt = 1 := (by decide); omega)
            refine lv_iconst (v := (-1)) hx hb dX11_drawn_29 (by decide) ?_
            exact hret _ _ _ _ (-1) f0X L0 Q0 dX11_drawn_30 hP hS ⟨trivial, Or.inr (⟨rfl, by omega⟩)⟩
  · skip
    have q_19 := hq
    refine lv_if_eq (tgt := 29) hx hb dX11_drawn_4 (by decide) (fun c => ?_) (fun c => absurd c (by decide))
    refine lv_iconst (v := (-1)) hx hb dX11_drawn_29 (by decide) ?_
    exact hret _ _ _ _ (-1) f0X L0 Q0 dX11_drawn_30 hP hS ⟨trivial, Or.inr (⟨rfl, by omega⟩)⟩

set_option maxHeartbeats 4000000 in
set_option maxRecDepth 100000 in
theorem cf_X11_sit (l : Launch) (D : va_G) (ca : Nat → ClassId) (za h : Nat → Nat) (hh : sgH 52 h) (x0 : Int32) (sz : Nat) : Met l yX11_sit wsX11_sit { frames := 1, cells := 0, slots := 0, locals := 21 } (sgP D vwCl (tyX ca) 52 h (eX ca h) zcX za f0X L0 Q0 sz [.ref (h 0), .int x0]) (sgQi D vwCl 52 h (eX ca h) sz (fun r f1 L1 Q1 => True ∧ ((r = (-1) ∧ (True))))) 0 0 (sgA 52 h sz) := by
  refine sg_ofWi (cc := cX11_sit) (maxL := 2) RX11 (by decide) rfl rfl (Nat.le_of_ble_eq_true rfl) ?_
  intro p e s m below meth c Qz ls hx hb hml hown hts hK hZ hP hS hl hret
  have hA := sgY.self (n := 52) (h := h) (sz := s.heap.size)
  have hl : lv_has ls 2 [(0, .ref (h 0)), (1, .int x0)] := hl
  obtain ⟨H, hH⟩ : ∃ z : Heap, z = s.heap := ⟨_, rfl⟩
  obtain ⟨locs, hlo⟩ : ∃ z : List Loc, z = [] := ⟨_, rfl⟩
  have hP : va_P D vwCl (sgw 52 h (eX ca h) f0X L0 Q0) H := by rw [hH]; exact hP
  have hS : va_S (sgA 52 h s.heap.size) s.heap H locs := by rw [hH, hlo]; exact hS
  suffices hgo : W p l e ({ frames := 1, cells := 0, slots := 0, locals := 21 }) s m ([.ref (h 0), .int x0] : List Value).toArray below meth c H locs 0 0 Qz (F0 m 0 ls []) by rw [hH, hlo] at hgo; exact hgo
  refine lv_aload_n hx hb dX11_sit_0 rfl (lv_at hl 0 rfl) ?_
  refine sg_get (ci := 11) (v := .ref (h 1)) (C := RX11) (T := TX11) (N := 10) hx hb hts (by decide +kernel) hown hK hP 0 (by decide) rfl rfl 0 (by decide) (hts (.fieldLink RX11 12 "SetAgain" "chair" "LSetAgain$Chair;") (by decide +kernel)) (fun _ h9 => h9) rfl dX11_sit_1 ?_
  refine lv_iload_n hx hb dX11_sit_4 rfl (lv_at hl 1 rfl) ?_
  refine sg_calli (va_runV (As := [.int x0]) (rest := []) ⟨hx, hb, hml, hown, hts⟩ (cf_X0_has l D ca za h hh f0X L0 Q0 x0 rfl H.size) (cwV 1 hts gX11_sit_X0_has rfl rfl rfl (by decide +kernel) ⟨Nat.le_of_ble_eq_true rfl, Nat.le_of_ble_eq_true rfl⟩) (sg_preV (ci := 0) (C := RX0) (T := TX0) (N := 5) hA hK hP hS hZ 1 (by decide) rfl rfl) rfl rfl hl.1 rfl (lv_room (Nat.le_of_ble_eq_true rfl)) dX11_sit_5 ⟨Nat.le_refl _, Nat.le_refl _⟩) hA hS (fun r_4 f_1 L_2 Q_3 H locs hq hP hS => ?_)
  obtain ⟨⟨ef9, eL9, eQ9⟩, hq⟩ := hq
  rw [ef9, eL9, eQ9] at hP; clear ef9 eL9 eQ9
  obtain ⟨rfl, hq⟩ := hq
  have q_5 := hq
  refine lv_if_eq (tgt := 22) hx hb dX11_sit_8 (by decide) (fun c => ?_) (fun c => absurd c (by decide))
  refine lv_iconst (v := (-1)) hx hb dX11_sit_22 (by decide) ?_
  exact hret _ _ _ _ (-1) f0X L0 Q0 dX11_sit_23 hP hS ⟨trivial, ⟨rfl, trivial⟩⟩

set_option maxHeartbeats 4000000 in
set_option maxRecDepth 100000 in
theorem cf_X0_forget (l : Launch) (D : va_G) (ca : Nat → ClassId) (za h : Nat → Nat) (hh : sgH 52 h) (f : sg_F) (L : sg_L) (Q : sg_Q) (x0 : Int32) (b0 : 0 ≤ x0.toInt ∧ x0.toInt ≤ 7) (hs : f 1 3 = 0) (sz : Nat) : Met l yX0_forget wsX0_forget { frames := 0, cells := 0, slots := 0, locals := 0 } (sgP D vwCl (tyX ca) 52 h (eX ca h) zcX za f L Q sz [.ref (h 1), .int x0]) (sgQv D vwCl 52 h (eX ca h) sz (fun f1 L1 Q1 => (f1 1 3 = 0))) 0 0 (sgA 52 h sz) := by
  refine sg_ofWv (cc := cX0_forget) (maxL := 4) RX0 (by decide) rfl rfl (Nat.le_of_ble_eq_true rfl) ?_
  intro p e s m below meth c Qz ls hx hb hml hown hts hK hZ hP hS hl hret
  have hA := sgY.self (n := 52) (h := h) (sz := s.heap.size)
  have hl : lv_has ls 4 [(0, .ref (h 1)), (1, .int x0)] := hl
  obtain ⟨H, hH⟩ : ∃ z : Heap, z = s.heap := ⟨_, rfl⟩
  obtain ⟨locs, hlo⟩ : ∃ z : List Loc, z = [] := ⟨_, rfl⟩
  have hP : va_P D vwCl (sgw 52 h (eX ca h) f L Q) H := by rw [hH]; exact hP
  have hS : va_S (sgA 52 h s.heap.size) s.heap H locs := by rw [hH, hlo]; exact hS
  suffices hgo : W p l e ({ frames := 0, cells := 0, slots := 0, locals := 0 }) s m ([.ref (h 1), .int x0] : List Value).toArray below meth c H locs 0 0 Qz (F0 m 0 ls []) by rw [hH, hlo] at hgo; exact hgo
  refine lv_iload_n hx hb dX0_forget_0 rfl (lv_at hl 1 rfl) ?_
  refine lv_iconst (v := 1) hx hb dX0_forget_1 (by decide) ?_
  refine lv_iadd hx hb dX0_forget_2 ?_
  refine lv_topi (fun v_1 ev_1 => ?_)
  have q_2 : v_1.toInt = x0.toInt + 1 := by rw [ev_1]; have k1 : (1 : Int32).toInt = 1 := (by decide); exact (bn_addI (by omega) (by omega)).trans (by omega)
  refine lv_sipush (v := 183) hx hb dX0_forget_3 (by decide) ?_
  refine lv_imul hx hb dX0_forget_6 ?_
  refine lv_topi (fun v_3 ev_3 => ?_)
  have q_4 : v_3.toInt = v_1.toInt * 183 := by rw [ev_3]; exact bn_mulI (by decide) (by omega) (by omega)
  refine lv_istore_n (lv' := [(2, .int v_3), (0, .ref (h 1)), (1, .int x0)]) hx hb dX0_forget_7 rfl hl (by decide) rfl (fun ls hl => ?_)
  refine lv_iload_n hx hb dX0_forget_8 rfl (lv_at hl 2 rfl) ?_
  refine lv_sipush (v := 183) hx hb dX0_forget_9 (by decide) ?_
  refine lv_imul hx hb dX0_forget_12 ?_
  refine lv_topi (fun v_5 ev_5 => ?_)
  have q_6 : v_5.toInt = x0.toInt * 183 := by rw [ev_5]; exact bn_mulI (by decide) (by omega) (by omega)
  refine lv_istore_n (lv' := [(3, .int v_5), (2, .int v_3), (0, .ref (h 1)), (1, .int x0)]) hx hb dX0_forget_13 rfl hl (by decide) rfl (fun ls hl => ?_)
  have loop_14 : ∀ (n : Nat) (y3_14 : Int32) (fl : sg_F) (H : Heap) (locs : List Loc) (ls : Array Slot), v_3.toInt - y3_14.toInt < (n : Int) → 0 ≤ y3_14.toInt → y3_14.toInt ≤ v_3.toInt → (∀ k : Nat, k ≠ 9 → fl k = f k) → va_P D vwCl (sgw 52 h (eX ca h) fl L Q) H → va_S (sgA 52 h s.heap.size) s.heap H locs → lv_has ls 4 [(3, .int y3_14), (2, .int v_3), (0, .ref (h 1)), (1, .int x0)] → W p l e ({ frames := 0, cells := 0, slots := 0, locals := 0 }) s m ([.ref (h 1), .int x0] : List Value).toArray below meth c H locs 0 0 Qz (F0 m 14 ls []) := by
    intro n
    induction n with
    | zero => intro y3_14 fl H locs ls hm hf0 hf1 hfr hP hS hl; exact absurd hm (by omega)
    | succ n ih =>
      intro y3_14 fl H locs ls hm hf0 hf1 hfr hP hS hl
      refine lv_iload_n hx hb dX0_forget_14 rfl (lv_at hl 0 rfl) ?_
      refine lv_iload_n hx hb dX0_forget_15 rfl (lv_at hl 1 rfl) ?_
      refine lv_icmp_ge (tgt := 32) hx hb dX0_forget_16 (by decide) (fun c => ?_) (fun c => ?_)
      · skip
        have c_7 : v_3.toInt ≤ y3_14.toInt := (by have z := bn_le c; omega)
        exact hret _ _ _ _ fl L Q dX0_forget_32 hP hS (show _ = _ from (by rw [hfr _ (by decide)]; exact (show _ = _ from hs)))
      · skip
        have c_8 : y3_14.toInt < v_3.toInt := (by have z := bn_nle c; omega)
        refine lv_aload_n hx hb dX0_forget_19 rfl (lv_at hl 2 rfl) ?_
        refine sg_get (ci := 0) (v := .ref (h 9)) (C := RX0) (T := TX0) (N := 5) hx hb hts (by decide +kernel) hown hK hP 1 (by decide) rfl rfl 4 (by decide) (hts (.fieldLink RX0 25 "SetAgain$Chair" "lost" "[I") (by decide +kernel)) (fun _ h9 => h9) rfl dX0_forget_20 ?_
        refine lv_iload_n hx hb dX0_forget_23 rfl (lv_at hl 0 rfl) ?_
        refine lv_iconst (v := (-1)) hx hb dX0_forget_24 (by decide) ?_
        refine sg_iast hx hb hh hA hK hP hS 9 (by decide) 0 (fun _ => rfl) rfl (i := y3_14) (x := (-1)) (vp_in_iff.mpr ⟨by omega, by omega⟩) dX0_forget_25 (fun f_9 H locs ef_9 hP hS => ?_)
        obtain ⟨v_10, ev_10⟩ : ∃ z : Int32, z = y3_14 + 1 := ⟨_, rfl⟩
        have q_11 : v_10.toInt = y3_14.toInt + 1 := by rw [ev_10]; exact (bn_addc y3_14 1 (by decide) (by omega) (by omega))
        refine lv_iinc (v := v_10) (lv' := [(3, .int v_10), (2, .int v_3), (0, .ref (h 1)), (1, .int x0)]) hx hb dX0_forget_26 hl (k := 0) rfl (by rw [ev_10]; rfl) (by decide) rfl (fun ls hl => ?_)
        refine lv_goto (tgt := 14) hx hb dX0_forget_29 (by decide) ?_
        exact ih v_10 f_9 _ _ _ (by omega) (by omega) (by omega) (fun k hk => by rw [ef_9, sg_up_n hk]; exact hfr k hk) hP hS (lv_sub hl [0, 1, 2, 3] rfl)
  exact loop_14 2000 v_5 f _ _ _ (by omega) (by omega) (by omega) (fun _ _ => rfl) hP hS (lv_sub hl [0, 1, 2, 3] rfl)

set_option maxHeartbeats 4000000 in
set_option maxRecDepth 100000 in
theorem cf_X0_comes (l : Launch) (D : va_G) (ca : Nat → ClassId) (za h : Nat → Nat) (hh : sgH 52 h) (x0 : Int32) (x1 : Int32) (x2 : Int32) (x3 : Int32) (sz : Nat) : Met l yX0_comes wsX0_comes { frames := 1, cells := 0, slots := 0, locals := 23 } (sgP D vwCl (tyX ca) 52 h (eX ca h) zcX za f0X L0 Q0 sz [.ref (h 1), .int x0, .int x1, .int x2, .int x3]) (sgQi D vwCl 52 h (eX ca h) sz (fun r f1 L1 Q1 => True ∧ ((r = 0 ∧ (True))))) 0 0 (sgA 52 h sz) := by
  refine sg_ofWi (cc := cX0_comes) (maxL := 6) RX0 (by decide) rfl rfl (Nat.le_of_ble_eq_true rfl) ?_
  intro p e s m below meth c Qz ls hx hb hml hown hts hK hZ hP hS hl hret
  have hA := sgY.self (n := 52) (h := h) (sz := s.heap.size)
  have hl : lv_has ls 6 [(0, .ref (h 1)), (1, .int x0), (2, .int x1), (3, .int x2), (4, .int x3)] := hl
  obtain ⟨H, hH⟩ : ∃ z : Heap, z = s.heap := ⟨_, rfl⟩
  obtain ⟨locs, hlo⟩ : ∃ z : List Loc, z = [] := ⟨_, rfl⟩
  have hP : va_P D vwCl (sgw 52 h (eX ca h) f0X L0 Q0) H := by rw [hH]; exact hP
  have hS : va_S (sgA 52 h s.heap.size) s.heap H locs := by rw [hH, hlo]; exact hS
  suffices hgo : W p l e ({ frames := 1, cells := 0, slots := 0, locals := 23 }) s m ([.ref (h 1), .int x0, .int x1, .int x2, .int x3] : List Value).toArray below meth c H locs 0 0 Qz (F0 m 0 ls []) by rw [hH, hlo] at hgo; exact hgo
  refine lv_aload_n hx hb dX0_comes_0 rfl (lv_at hl 0 rfl) ?_
  refine sg_get (ci := 0) (v := .int 0) (C := RX0) (T := TX0) (N := 5) hx hb hts (by decide +kernel) hown hK hP 1 (by decide) rfl rfl 3 (by decide) (hts (.fieldLink RX0 28 "SetAgain$Chair" "sitters" "I") (by decide +kernel)) (fun _ h9 => h9) rfl dX0_comes_1 ?_
  refine lv_bipush (v := 8) hx hb dX0_comes_4 (by decide) ?_
  refine lv_icmp_lt (tgt := 12) hx hb dX0_comes_6 (by decide) (fun c => ?_) (fun c => absurd c (by decide))
  refine lv_aload_n hx hb dX0_comes_12 rfl (lv_at hl 0 rfl) ?_
  refine sg_get (ci := 0) (v := .int 0) (C := RX0) (T := TX0) (N := 5) hx hb hts (by decide +kernel) hown hK hP 1 (by decide) rfl rfl 3 (by decide) (hts (.fieldLink RX0 28 "SetAgain$Chair" "sitters" "I") (by decide +kernel)) (fun _ h9 => h9) rfl dX0_comes_13 ?_
  refine lv_bipush (v := 8) hx hb dX0_comes_16 (by decide) ?_
  refine lv_imul hx hb dX0_comes_18 ?_
  refine W.eq (g2 := F0 m 19 ls [.int 0]) (by rw [show (0 * 8 : Int32) = 0 from by decide]) ?_
  refine lv_istore (lv' := [(5, .int 0), (0, .ref (h 1)), (1, .int x0), (2, .int x1), (3, .int x2), (4, .int x3)]) hx hb dX0_comes_19 hl (by decide) rfl (fun ls hl => ?_)
  refine lv_aload_n hx hb dX0_comes_21 rfl (lv_at hl 1 rfl) ?_
  refine sg_get (ci := 0) (v := .ref (h 2)) (C := RX0) (T := TX0) (N := 5) hx hb hts (by decide +kernel) hown hK hP 1 (by decide) rfl rfl 0 (by decide) (hts (.fieldLink RX0 11 "SetAgain$Chair" "told" "[I") (by decide +kernel)) (fun _ h9 => h9) rfl dX0_comes_22 ?_
  refine lv_iload hx hb dX0_comes_25 (lv_at hl 0 rfl) ?_
  refine lv_iload_n hx hb dX0_comes_27 rfl (lv_at hl 2 rfl) ?_
  refine sg_iast hx hb hh hA hK hP hS 2 (by decide) 0 (fun _ => rfl) rfl (i := 0) (x := x0) (vp_in_iff.mpr (by decide)) dX0_comes_28 (fun f_1 H locs ef_1 hP hS => ?_)
  refine lv_aload_n hx hb dX0_comes_29 rfl (lv_at hl 1 rfl) ?_
  refine sg_get (ci := 0) (v := .ref (h 2)) (C := RX0) (T := TX0) (N := 5) hx hb hts (by decide +kernel) hown hK hP 1 (by decide) rfl rfl 0 (by decide) (hts (.fieldLink RX0 11 "SetAgain$Chair" "told" "[I") (by decide +kernel)) (fun _ h9 => h9) rfl dX0_comes_30 ?_
  refine lv_iload hx hb dX0_comes_33 (lv_at hl 0 rfl) ?_
  refine lv_iconst (v := 1) hx hb dX0_comes_35 (by decide) ?_
  refine lv_iadd hx hb dX0_comes_36 ?_
  refine W.eq (g2 := F0 m 37 ls [.int 1, .ref (h 2)]) (by rw [show (0 + 1 : Int32) = 1 from by decide]) ?_
  refine lv_iload_n hx hb dX0_comes_37 rfl (lv_at hl 3 rfl) ?_
  refine sg_iast hx hb hh hA hK hP hS 2 (by decide) 0 (fun _ => rfl) rfl (i := 1) (x := x1) (vp_in_iff.mpr (by decide)) dX0_comes_38 (fun f_2 H locs ef_2 hP hS => ?_)
  refine lv_aload_n hx hb dX0_comes_39 rfl (lv_at hl 1 rfl) ?_
  refine sg_get (ci := 0) (v := .ref (h 2)) (C := RX0) (T := TX0) (N := 5) hx hb hts (by decide +kernel) hown hK hP 1 (by decide) rfl rfl 0 (by decide) (hts (.fieldLink RX0 11 "SetAgain$Chair" "told" "[I") (by decide +kernel)) (fun _ h9 => h9) rfl dX0_comes_40 ?_
  refine lv_iload hx hb dX0_comes_43 (lv_at hl 0 rfl) ?_
  refine lv_iconst (v := 2) hx hb dX0_comes_45 (by decide) ?_
  refine lv_iadd hx hb dX0_comes_46 ?_
  refine W.eq (g2 := F0 m 47 ls [.int 2, .ref (h 2)]) (by rw [show (0 + 2 : Int32) = 2 from by decide]) ?_
  refine lv_iload_n hx hb dX0_comes_47 rfl (lv_at hl 4 rfl) ?_
  refine sg_iast hx hb hh hA hK hP hS 2 (by decide) 0 (fun _ => rfl) rfl (i := 2) (x := x2) (vp_in_iff.mpr (by decide)) dX0_comes_48 (fun f_3 H locs ef_3 hP hS => ?_)
  refine lv_aload_n hx hb dX0_comes_49 rfl (lv_at hl 1 rfl) ?_
  refine sg_get (ci := 0) (v := .ref (h 2)) (C := RX0) (T := TX0) (N := 5) hx hb hts (by decide +kernel) hown hK hP 1 (by decide) rfl rfl 0 (by decide) (hts (.fieldLink RX0 11 "SetAgain$Chair" "told" "[I") (by decide +kernel)) (fun _ h9 => h9) rfl dX0_comes_50 ?_
  refine lv_iload hx hb dX0_comes_53 (lv_at hl 0 rfl) ?_
  refine lv_iconst (v := 3) hx hb dX0_comes_55 (by decide) ?_
  refine lv_iadd hx hb dX0_comes_56 ?_
  refine W.eq (g2 := F0 m 57 ls [.int 3, .ref (h 2)]) (by rw [show (0 + 3 : Int32) = 3 from by decide]) ?_
  refine lv_iconst (v := 1) hx hb dX0_comes_57 (by decide) ?_
  refine sg_iast hx hb hh hA hK hP hS 2 (by decide) 0 (fun _ => rfl) rfl (i := 3) (x := 1) (vp_in_iff.mpr (by decide)) dX0_comes_58 (fun f_4 H locs ef_4 hP hS => ?_)
  refine lv_aload_n hx hb dX0_comes_59 rfl (lv_at hl 1 rfl) ?_
  refine sg_get (ci := 0) (v := .ref (h 2)) (C := RX0) (T := TX0) (N := 5) hx hb hts (by decide +kernel) hown hK hP 1 (by decide) rfl rfl 0 (by decide) (hts (.fieldLink RX0 11 "SetAgain$Chair" "told" "[I") (by decide +kernel)) (fun _ h9 => h9) rfl dX0_comes_60 ?_
  refine lv_iload hx hb dX0_comes_63 (lv_at hl 0 rfl) ?_
  refine lv_iconst (v := 4) hx hb dX0_comes_65 (by decide) ?_
  refine lv_iadd hx hb dX0_comes_66 ?_
  refine W.eq (g2 := F0 m 67 ls [.int 4, .ref (h 2)]) (by rw [show (0 + 4 : Int32) = 4 from by decide]) ?_
  refine lv_iconst (v := 1) hx hb dX0_comes_67 (by decide) ?_
  refine sg_iast hx hb hh hA hK hP hS 2 (by decide) 0 (fun _ => rfl) rfl (i := 4) (x := 1) (vp_in_iff.mpr (by decide)) dX0_comes_68 (fun f_5 H locs ef_5 hP hS => ?_)
  refine lv_aload_n hx hb dX0_comes_69 rfl (lv_at hl 1 rfl) ?_
  refine sg_get (ci := 0) (v := .ref (h 2)) (C := RX0) (T := TX0) (N := 5) hx hb hts (by decide +kernel) hown hK hP 1 (by decide) rfl rfl 0 (by decide) (hts (.fieldLink RX0 11 "SetAgain$Chair" "told" "[I") (by decide +kernel)) (fun _ h9 => h9) rfl dX0_comes_70 ?_
  refine lv_iload hx hb dX0_comes_73 (lv_at hl 0 rfl) ?_
  refine lv_iconst (v := 5) hx hb dX0_comes_75 (by decide) ?_
  refine lv_iadd hx hb dX0_comes_76 ?_
  refine W.eq (g2 := F0 m 77 ls [.int 5, .ref (h 2)]) (by rw [show (0 + 5 : Int32) = 5 from by decide]) ?_
  refine lv_iload hx hb dX0_comes_77 (lv_at hl 5 rfl) ?_
  refine sg_iast hx hb hh hA hK hP hS 2 (by decide) 0 (fun _ => rfl) rfl (i := 5) (x := x3) (vp_in_iff.mpr (by decide)) dX0_comes_79 (fun f_6 H locs ef_6 hP hS => ?_)
  refine lv_aload_n hx hb dX0_comes_80 rfl (lv_at hl 1 rfl) ?_
  refine lv_aload_n hx hb dX0_comes_81 rfl (lv_at hl 1 rfl) ?_
  refine sg_get (ci := 0) (v := .int 0) (C := RX0) (T := TX0) (N := 5) hx hb hts (by decide +kernel) hown hK hP 1 (by decide) rfl rfl 3 (by decide) (hts (.fieldLink RX0 28 "SetAgain$Chair" "sitters" "I") (by decide +kernel)) (fun _ h9 => h9) (congrArg (fun z => some (Value.int z)) (show f_6 1 3 = 0 from (by rw [ef_6]; exact (show _ = _ from (by rw [ef_5]; exact (show _ = _ from (by rw [ef_4]; exact (show _ = _ from (by rw [ef_3]; exact (show _ = _ from (by rw [ef_2]; exact (show _ = _ from (by rw [ef_1]; exact rfl))))))))))))) dX0_comes_82 ?_
  refine sg_callv (va_runV (As := [.int 0]) (rest := []) ⟨hx, hb, hml, hown, hts⟩ (cf_X0_forget l D ca za h hh f_6 L0 Q0 0 (by first | omega | decide) ((by rw [ef_6]; exact (show _ = _ from (by rw [ef_5]; exact (show _ = _ from (by rw [ef_4]; exact (show _ = _ from (by rw [ef_3]; exact (show _ = _ from (by rw [ef_2]; exact (show _ = _ from (by rw [ef_1]; exact rfl)))))))))))) H.size) (cwV 1 hts gX0_comes_X0_forget rfl rfl rfl (by decide +kernel) ⟨Nat.le_of_ble_eq_true rfl, Nat.le_of_ble_eq_true rfl⟩) (sg_preV (ci := 0) (C := RX0) (T := TX0) (N := 5) hA hK hP hS hZ 1 (by decide) rfl rfl) rfl rfl hl.1 rfl (lv_room (Nat.le_of_ble_eq_true rfl)) dX0_comes_85 ⟨Nat.le_refl _, Nat.le_refl _⟩) hA hS (fun f_7 L_8 Q_9 H locs hq hP hS => ?_)
  have h_10 := hq
  refine lv_aload_n hx hb dX0_comes_88 rfl (lv_at hl 1 rfl) ?_
  refine lv_dup hx hb dX0_comes_89 rfl ?_
  refine sg_get (ci := 0) (v := .int 0) (C := RX0) (T := TX0) (N := 5) hx hb hts (by decide +kernel) hown hK hP 1 (by decide) rfl rfl 3 (by decide) (hts (.fieldLink RX0 28 "SetAgain$Chair" "sitters" "I") (by decide +kernel)) (fun _ h9 => h9) (congrArg (fun z => some (Value.int z)) (show f_7 1 3 = 0 from h_10)) dX0_comes_90 ?_
  refine lv_iconst (v := 1) hx hb dX0_comes_93 (by decide) ?_
  refine lv_iadd hx hb dX0_comes_94 ?_
  refine W.eq (g2 := F0 m 95 ls [.int 1, .ref (h 1)]) (by rw [show (0 + 1 : Int32) = 1 from by decide]) ?_
  refine sg_put (ci := 0) (x := 1) (ty := .int) (C := RX0) (T := TX0) (N := 5) hx hb hts (by decide +kernel) tyX0 tyX0_ok nmX0 hown hh hA hK hP hS 1 (by decide) rfl rfl 3 (by decide) (hts (.fieldLink RX0 28 "SetAgain$Chair" "sitters" "I") (by decide +kernel)) (fun _ h9 => h9) rfl rfl (by decide +kernel) rfl rfl (Nat.le_of_ble_eq_true rfl) dX0_comes_95 (fun f_11 H locs ef_11 hP hS => ?_)
  refine lv_aload_n hx hb dX0_comes_98 rfl (lv_at hl 1 rfl) ?_
  refine sg_get (ci := 0) (v := .int 1) (C := RX0) (T := TX0) (N := 5) hx hb hts (by decide +kernel) hown hK hP 1 (by decide) rfl rfl 3 (by decide) (hts (.fieldLink RX0 28 "SetAgain$Chair" "sitters" "I") (by decide +kernel)) (fun _ h9 => h9) (congrArg (fun z => some (Value.int z)) (show f_11 1 3 = 1 from (by rw [ef_11]; rfl))) dX0_comes_99 ?_
  refine lv_iconst (v := 1) hx hb dX0_comes_102 (by decide) ?_
  refine lv_isub hx hb dX0_comes_103 ?_
  refine W.eq (g2 := F0 m 104 ls [.int 0]) (by rw [show (1 - 1 : Int32) = 0 from by decide]) ?_
  exact hret _ _ _ _ (0) f_11 L_8 Q_9 dX0_comes_104 hP hS ⟨trivial, ⟨rfl, trivial⟩⟩

set_option maxHeartbeats 4000000 in
set_option maxRecDepth 100000 in
theorem cf_X11_sitter (l : Launch) (D : va_G) (ca : Nat → ClassId) (za h : Nat → Nat) (hh : sgH 52 h) (x0 : Int32) (x1 : Int32) (sz : Nat) : Met l yX11_sitter wsX11_sitter { frames := 2, cells := 0, slots := 0, locals := 48 } (sgP D vwCl (tyX ca) 52 h (eX ca h) zcX za f0X L0 Q0 sz [.ref (h 0), .int x0, .int x1]) (sgQi D vwCl 52 h (eX ca h) sz (fun r f1 L1 Q1 => True ∧ ((r = 0 ∧ ((0 ≤ x0.toInt ∧ x0.toInt ≤ 60) ∧ (1 ≤ x1.toInt ∧ x1.toInt ≤ 12))) ∨ (r = (-1) ∧ (¬ ((0 ≤ x0.toInt ∧ x0.toInt ≤ 60) ∧ (1 ≤ x1.toInt ∧ x1.toInt ≤ 12))))))) 0 0 (sgA 52 h sz) := by
  refine sg_ofWi (cc := cX11_sitter) (maxL := 3) RX11 (by decide) rfl rfl (Nat.le_of_ble_eq_true rfl) ?_
  intro p e s m below meth c Qz ls hx hb hml hown hts hK hZ hP hS hl hret
  have hA := sgY.self (n := 52) (h := h) (sz := s.heap.size)
  have hl : lv_has ls 3 [(0, .ref (h 0)), (1, .int x0), (2, .int x1)] := hl
  obtain ⟨H, hH⟩ : ∃ z : Heap, z = s.heap := ⟨_, rfl⟩
  obtain ⟨locs, hlo⟩ : ∃ z : List Loc, z = [] := ⟨_, rfl⟩
  have hP : va_P D vwCl (sgw 52 h (eX ca h) f0X L0 Q0) H := by rw [hH]; exact hP
  have hS : va_S (sgA 52 h s.heap.size) s.heap H locs := by rw [hH, hlo]; exact hS
  suffices hgo : W p l e ({ frames := 2, cells := 0, slots := 0, locals := 48 }) s m ([.ref (h 0), .int x0, .int x1] : List Value).toArray below meth c H locs 0 0 Qz (F0 m 0 ls []) by rw [hH, hlo] at hgo; exact hgo
  refine lv_iload_n hx hb dX11_sitter_0 rfl (lv_at hl 1 rfl) ?_
  refine sg_calli (va_runS (As := [.int x0]) (rest := []) ⟨hx, hb, hml, hown, hts⟩ (cf_X11_isSetting l D ca za h hh f0X L0 Q0 x0 H.size) (va_cwS 1 hts gX11_sitter_X11_isSetting rfl rfl rfl (by decide +kernel) ⟨Nat.le_of_ble_eq_true rfl, Nat.le_of_ble_eq_true rfl⟩) (sg_preS hA hK hP hS hZ) rfl rfl hl.1 rfl (lv_room (Nat.le_of_ble_eq_true rfl)) dX11_sitter_1 ⟨Nat.le_refl _, Nat.le_refl _⟩) hA hS (fun r_4 f_1 L_2 Q_3 H locs hq hP hS => ?_)
  obtain ⟨⟨ef9, eL9, eQ9⟩, hq⟩ := hq
  rw [ef9, eL9, eQ9] at hP; clear ef9 eL9 eQ9
  rcases hq with ⟨rfl, hq⟩ | ⟨rfl, hq⟩
  · skip
    have q_5 := hq
    refine lv_if_eq (tgt := 15) hx hb dX11_sitter_4 (by decide) (fun c => absurd c (by decide)) (fun c => ?_)
    refine lv_iconst (v := 5) hx hb dX11_sitter_7 (by decide) ?_
    refine lv_iload_n hx hb dX11_sitter_8 rfl (lv_at hl 2 rfl) ?_
    refine sg_calli (va_runS (As := [.int 5, .int x1]) (rest := []) ⟨hx, hb, hml, hown, hts⟩ (cf_X11_fits_5 l D ca za h hh f0X L0 Q0 x1 H.size) (va_cwS 2 hts gX11_sitter_X11_fits rfl rfl rfl (by decide +kernel) ⟨Nat.le_of_ble_eq_true rfl, Nat.le_of_ble_eq_true rfl⟩) (sg_preS hA hK hP hS hZ) rfl rfl hl.1 rfl (lv_room (Nat.le_of_ble_eq_true rfl)) dX11_sitter_9 ⟨Nat.le_refl _, Nat.le_refl _⟩) hA hS (fun r_9 f_6 L_7 Q_8 H locs hq hP hS => ?_)
    obtain ⟨⟨ef9, eL9, eQ9⟩, hq⟩ := hq
    rw [ef9, eL9, eQ9] at hP; clear ef9 eL9 eQ9
    have k_10 : (5 : Int32).toInt = 5 := by decide
    rcases hq with ⟨rfl, hq⟩ | ⟨rfl, hq⟩
    · skip
      have q_11 := hq
      refine lv_if_ne (tgt := 17) hx hb dX11_sitter_12 (by decide) (fun c => ?_) (fun c => absurd c (by decide))
      refine lv_aload_n hx hb dX11_sitter_17 rfl (lv_at hl 0 rfl) ?_
      refine sg_get (ci := 11) (v := .ref (h 1)) (C := RX11) (T := TX11) (N := 10) hx hb hts (by decide +kernel) hown hK hP 0 (by decide) rfl rfl 0 (by decide) (hts (.fieldLink RX11 12 "SetAgain" "chair" "LSetAgain$Chair;") (by decide +kernel)) (fun _ h9 => h9) rfl dX11_sitter_18 ?_
      refine lv_iload_n hx hb dX11_sitter_21 rfl (lv_at hl 1 rfl) ?_
      refine lv_iload_n hx hb dX11_sitter_22 rfl (lv_at hl 1 rfl) ?_
      refine lv_iload_n hx hb dX11_sitter_23 rfl (lv_at hl 1 rfl) ?_
      refine lv_iload_n hx hb dX11_sitter_24 rfl (lv_at hl 2 rfl) ?_
      refine sg_calli (va_runV (As := [.int x0, .int x0, .int x0, .int x1]) (rest := []) ⟨hx, hb, hml, hown, hts⟩ (cf_X0_comes l D ca za h hh x0 x0 x0 x1 H.size) (cwV 4 hts gX11_sitter_X0_comes rfl rfl rfl (by decide +kernel) ⟨Nat.le_of_ble_eq_true rfl, Nat.le_of_ble_eq_true rfl⟩) (sg_preV (ci := 0) (C := RX0) (T := TX0) (N := 5) hA hK hP hS hZ 1 (by decide) rfl rfl) rfl rfl hl.1 rfl (lv_room (Nat.le_of_ble_eq_true rfl)) dX11_sitter_25 ⟨Nat.le_refl _, Nat.le_refl _⟩) hA hS (fun r_15 f_12 L_13 Q_14 H locs hq hP hS => ?_)
      obtain ⟨-, hq⟩ := hq
      obtain ⟨rfl, hq⟩ := hq
      have q_16 := hq
      exact hret _ _ _ _ (0) f_12 L_13 Q_14 dX11_sitter_28 hP hS ⟨trivial, Or.inl ⟨rfl, by omega⟩⟩
    · skip
      have q_17 := hq
      refine lv_if_ne (tgt := 17) hx hb dX11_sitter_12 (by decide) (fun c => absurd c (by decide)) (fun c => ?_)
      refine lv_iconst (v := (-1)) hx hb dX11_sitter_15 (by decide) ?_
      exact hret _ _ _ _ (-1) f0X L0 Q0 dX11_sitter_16 hP hS ⟨trivial, Or.inr (⟨rfl, by omega⟩)⟩
  · skip
    have q_18 := hq
    refine lv_if_eq (tgt := 15) hx hb dX11_sitter_4 (by decide) (fun c => ?_) (fun c => absurd c (by decide))
    refine lv_iconst (v := (-1)) hx hb dX11_sitter_15 (by decide) ?_
    exact hret _ _ _ _ (-1) f0X L0 Q0 dX11_sitter_16 hP hS ⟨trivial, Or.inr (⟨rfl, by omega⟩)⟩

set_option maxHeartbeats 4000000 in
set_option maxRecDepth 100000 in
theorem cf_X11_sitters (l : Launch) (D : va_G) (ca : Nat → ClassId) (za h : Nat → Nat) (hh : sgH 52 h) (x0 : Int32) (x1 : Int32) (x2 : Int32) (sz : Nat) : Met l yX11_sitters wsX11_sitters { frames := 1, cells := 0, slots := 0, locals := 20 } (sgP D vwCl (tyX ca) 52 h (eX ca h) zcX za f0X L0 Q0 sz [.ref (h 0), .int x0, .int x1, .int x2]) (sgQi D vwCl 52 h (eX ca h) sz (fun r f1 L1 Q1 => True ∧ ((r = 0 ∧ ((0 ≤ x0.toInt ∧ x0.toInt ≤ 5) ∧ (1 ≤ x2.toInt ∧ x2.toInt ≤ 8))) ∨ (r = (-1) ∧ (¬ ((0 ≤ x0.toInt ∧ x0.toInt ≤ 5) ∧ (1 ≤ x2.toInt ∧ x2.toInt ≤ 8))))))) 0 0 (sgA 52 h sz) := by
  refine sg_ofWi (cc := cX11_sitters) (maxL := 5) RX11 (by decide) rfl rfl (Nat.le_of_ble_eq_true rfl) ?_
  intro p e s m below meth c Qz ls hx hb hml hown hts hK hZ hP hS hl hret
  have hA := sgY.self (n := 52) (h := h) (sz := s.heap.size)
  have hl : lv_has ls 5 [(0, .ref (h 0)), (1, .int x0), (2, .int x1), (3, .int x2)] := hl
  obtain ⟨H, hH⟩ : ∃ z : Heap, z = s.heap := ⟨_, rfl⟩
  obtain ⟨locs, hlo⟩ : ∃ z : List Loc, z = [] := ⟨_, rfl⟩
  have hP : va_P D vwCl (sgw 52 h (eX ca h) f0X L0 Q0) H := by rw [hH]; exact hP
  have hS : va_S (sgA 52 h s.heap.size) s.heap H locs := by rw [hH, hlo]; exact hS
  suffices hgo : W p l e ({ frames := 1, cells := 0, slots := 0, locals := 20 }) s m ([.ref (h 0), .int x0, .int x1, .int x2] : List Value).toArray below meth c H locs 0 0 Qz (F0 m 0 ls []) by rw [hH, hlo] at hgo; exact hgo
  refine lv_iload_n hx hb dX11_sitters_0 rfl (lv_at hl 1 rfl) ?_
  refine sg_calli (va_runS (As := [.int x0]) (rest := []) ⟨hx, hb, hml, hown, hts⟩ (cf_X11_isShelf l D ca za h hh f0X L0 Q0 x0 H.size) (va_cwS 1 hts gX11_sitters_X11_isShelf rfl rfl rfl (by decide +kernel) ⟨Nat.le_of_ble_eq_true rfl, Nat.le_of_ble_eq_true rfl⟩) (sg_preS hA hK hP hS hZ) rfl rfl hl.1 rfl (lv_room (Nat.le_of_ble_eq_true rfl)) dX11_sitters_1 ⟨Nat.le_refl _, Nat.le_refl _⟩) hA hS (fun r_4 f_1 L_2 Q_3 H locs hq hP hS => ?_)
  obtain ⟨⟨ef9, eL9, eQ9⟩, hq⟩ := hq
  rw [ef9, eL9, eQ9] at hP; clear ef9 eL9 eQ9
  rcases hq with ⟨rfl, hq⟩ | ⟨rfl, hq⟩
  · skip
    have q_5 := hq
    refine lv_if_eq (tgt := 18) hx hb dX11_sitters_4 (by decide) (fun c => absurd c (by decide)) (fun c => ?_)
    refine lv_iload_n hx hb dX11_sitters_7 rfl (lv_at hl 3 rfl) ?_
    refine lv_iconst (v := 1) hx hb dX11_sitters_8 (by decide) ?_
    refine lv_icmp_lt (tgt := 18) hx hb dX11_sitters_9 (by decide) (fun c => ?_) (fun c => ?_)
    · skip
      have c_6 : x2.toInt < 1 := (by have z := bn_lt c; have k1 : (1 : Int32).toInt = 1 := (by decide); omega)
      refine lv_iconst (v := (-1)) hx hb dX11_sitters_18 (by decide) ?_
      exact hret _ _ _ _ (-1) f0X L0 Q0 dX11_sitters_19 hP hS ⟨trivial, Or.inr (⟨rfl, by omega⟩)⟩
    · skip
      have c_7 : 1 ≤ x2.toInt := (by have z := bn_nlt c; have k1 : (1 : Int32).toInt = 1 := (by decide); omega)
      refine lv_iload_n hx hb dX11_sitters_12 rfl (lv_at hl 3 rfl) ?_
      refine lv_bipush (v := 8) hx hb dX11_sitters_13 (by decide) ?_
      refine lv_icmp_le (tgt := 20) hx hb dX11_sitters_15 (by decide) (fun c => ?_) (fun c => ?_)
      · skip
        have c_8 : x2.toInt ≤ 8 := (by have z := bn_le c; have k1 : (8 : Int32).toInt = 8 := (by decide); omega)
        refine lv_aload_n hx hb dX11_sitters_20 rfl (lv_at hl 0 rfl) ?_
        refine sg_get (ci := 11) (v := .ref (h 39)) (C := RX11) (T := TX11) (N := 10) hx hb hts (by decide +kernel) hown hK hP 0 (by decide) rfl rfl 9 (by decide) (hts (.fieldLink RX11 80 "SetAgain" "shelves" "[LSetAgain$Shelf;") (by decide +kernel)) (fun _ h9 => h9) rfl dX11_sitters_21 ?_
        refine lv_iload_n hx hb dX11_sitters_24 rfl (lv_at hl 1 rfl) ?_
        obtain ⟨t_10, et_10⟩ : ∃ z : Nat, z = x0.toNatClampNeg := ⟨_, rfl⟩
        have ht_t_10 : t_10 < 6 := by rw [et_10]; exact bn_kI (by omega) (by omega)
        refine sg_aald hx hb hK hP 39 (by decide) 3 rfl rfl (i := x0) (a := (h (40 + 2 * t_10))) (vp_in_iff.mpr ⟨by omega, by omega⟩) (show (if x0.toNatClampNeg < 6 then some (h (40 + 2 * x0.toNatClampNeg)) else none) = some (h (40 + 2 * t_10)) from by rw [← et_10, if_pos ht_t_10]) dX11_sitters_25 ?_
        refine lv_astore (lv' := [(4, .ref (h (40 + 2 * t_10))), (0, .ref (h 0)), (1, .int x0), (2, .int x1), (3, .int x2)]) hx hb dX11_sitters_26 hl (by decide) rfl (fun ls hl => ?_)
        refine lv_aload hx hb dX11_sitters_28 (lv_at hl 0 rfl) ?_
        refine sg_get (ci := 7) (v := .int (-1)) (C := RX7) (T := TX7) (N := 4) hx hb hts (by decide +kernel) hown hK hP (40 + 2 * t_10) (by have := ht_t_10; omega) (eX_sh ca h ht_t_10 _ _ _) rfl 1 (by decide) (hts (.fieldLink RX11 100 "SetAgain$Shelf" "sort" "I") (by decide +kernel)) (fun _ h9 => h9) (congrArg (fun z => some (Value.int z)) (show f0X (40 + 2 * t_10) 1 = (-1) from (by rw [f0X_sh ht_t_10]; rfl))) dX11_sitters_30 ?_
        refine lv_iconst (v := (-1)) hx hb dX11_sitters_33 (by decide) ?_
        refine lv_icmp_ne (tgt := 39) hx hb dX11_sitters_34 (by decide) (fun c => absurd c (by decide)) (fun c => ?_)
        refine lv_iconst (v := 0) hx hb dX11_sitters_37 (by decide) ?_
        exact hret _ _ _ _ (0) f0X L0 Q0 dX11_sitters_38 hP hS ⟨trivial, Or.inl ⟨rfl, by omega⟩⟩
      · skip
        have c_9 : 8 < x2.toInt := (by have z := bn_nle c; have k1 : (8 : Int32).toInt = 8 := (by decide); omega)
        refine lv_iconst (v := (-1)) hx hb dX11_sitters_18 (by decide) ?_
        exact hret _ _ _ _ (-1) f0X L0 Q0 dX11_sitters_19 hP hS ⟨trivial, Or.inr (⟨rfl, by omega⟩)⟩
  · skip
    have q_11 := hq
    refine lv_if_eq (tgt := 18) hx hb dX11_sitters_4 (by decide) (fun c => ?_) (fun c => absurd c (by decide))
    refine lv_iconst (v := (-1)) hx hb dX11_sitters_18 (by decide) ?_
    exact hret _ _ _ _ (-1) f0X L0 Q0 dX11_sitters_19 hP hS ⟨trivial, Or.inr (⟨rfl, by omega⟩)⟩

set_option maxHeartbeats 4000000 in
set_option maxRecDepth 100000 in
theorem cf_X0_placeOf (l : Launch) (D : va_G) (ca : Nat → ClassId) (za h : Nat → Nat) (hh : sgH 52 h) (f : sg_F) (L : sg_L) (Q : sg_Q) (x0 : Int32) (x1 : Int32) (hs : f 1 3 = 0) (sz : Nat) : Met l yX0_placeOf wsX0_placeOf { frames := 0, cells := 0, slots := 0, locals := 0 } (sgP D vwCl (tyX ca) 52 h (eX ca h) zcX za f L Q sz [.ref (h 1), .int x0, .int x1]) (sgQi D vwCl 52 h (eX ca h) sz (fun r f1 L1 Q1 => (f1 = f ∧ L1 = L ∧ Q1 = Q) ∧ ((r = (-1) ∧ (x1.toInt < 8 ∨ 10 < x1.toInt ∨ x0.toInt < 0 ∨ 2 < x0.toInt ∨ (x1.toInt = 10 ∧ x0.toInt ≠ 0))) ∨ (r = 64 ∧ (x1.toInt = 8 ∧ x0.toInt = 0)) ∨ (r = 65 ∧ (x1.toInt = 8 ∧ x0.toInt = 1)) ∨ (r = 66 ∧ (x1.toInt = 8 ∧ x0.toInt = 2)) ∨ (r = 67 ∧ (x1.toInt = 9 ∧ x0.toInt = 0)) ∨ (r = 68 ∧ (x1.toInt = 9 ∧ x0.toInt = 1)) ∨ (r = 69 ∧ (x1.toInt = 9 ∧ x0.toInt = 2)) ∨ (r = 70 ∧ (x1.toInt = 10 ∧ x0.toInt = 0))))) 0 0 (sgA 52 h sz) := by
  refine sg_ofWi (cc := cX0_placeOf) (maxL := 3) RX0 (by decide) rfl rfl (Nat.le_of_ble_eq_true rfl) ?_
  intro p e s m below meth c Qz ls hx hb hml hown hts hK hZ hP hS hl hret
  have hA := sgY.self (n := 52) (h := h) (sz := s.heap.size)
  have hl : lv_has ls 3 [(0, .ref (h 1)), (1, .int x0), (2, .int x1)] := hl
  obtain ⟨H, hH⟩ : ∃ z : Heap, z = s.heap := ⟨_, rfl⟩
  obtain ⟨locs, hlo⟩ : ∃ z : List Loc, z = [] := ⟨_, rfl⟩
  have hP : va_P D vwCl (sgw 52 h (eX ca h) f L Q) H := by rw [hH]; exact hP
  have hS : va_S (sgA 52 h s.heap.size) s.heap H locs := by rw [hH, hlo]; exact hS
  suffices hgo : W p l e ({ frames := 0, cells := 0, slots := 0, locals := 0 }) s m ([.ref (h 1), .int x0, .int x1] : List Value).toArray below meth c H locs 0 0 Qz (F0 m 0 ls []) by rw [hH, hlo] at hgo; exact hgo
  refine lv_iload_n hx hb dX0_placeOf_0 rfl (lv_at hl 1 rfl) ?_
  refine lv_if_lt (tgt := 14) hx hb dX0_placeOf_1 (by decide) (fun c => ?_) (fun c => ?_)
  · skip
    have c_1 : x0.toInt < 0 := (by have z := bn_lt c; have k1 : (0 : Int32).toInt = 0 := (by decide); omega)
    refine lv_iconst (v := (-1)) hx hb dX0_placeOf_14 (by decide) ?_
    exact hret _ _ _ _ (-1) f L Q dX0_placeOf_15 hP hS ⟨⟨rfl, rfl, rfl⟩, Or.inl ⟨rfl, by omega⟩⟩
  · skip
    have c_2 : 0 ≤ x0.toInt := (by have z := bn_nlt c; have k1 : (0 : Int32).toInt = 0 := (by decide); omega)
    refine lv_iload_n hx hb dX0_placeOf_4 rfl (lv_at hl 2 rfl) ?_
    refine lv_if_lt (tgt := 14) hx hb dX0_placeOf_5 (by decide) (fun c => ?_) (fun c => ?_)
    · skip
      have c_3 : x1.toInt < 0 := (by have z := bn_lt c; have k1 : (0 : Int32).toInt = 0 := (by decide); omega)
      refine lv_iconst (v := (-1)) hx hb dX0_placeOf_14 (by decide) ?_
      exact hret _ _ _ _ (-1) f L Q dX0_placeOf_15 hP hS ⟨⟨rfl, rfl, rfl⟩, Or.inl ⟨rfl, by omega⟩⟩
    · skip
      have c_4 : 0 ≤ x1.toInt := (by have z := bn_nlt c; have k1 : (0 : Int32).toInt = 0 := (by decide); omega)
      refine lv_iload_n hx hb dX0_placeOf_8 rfl (lv_at hl 2 rfl) ?_
      refine lv_bipush (v := 10) hx hb dX0_placeOf_9 (by decide) ?_
      refine lv_icmp_le (tgt := 16) hx hb dX0_placeOf_11 (by decide) (fun c => ?_) (fun c => ?_)
      · skip
        have c_5 : x1.toInt ≤ 10 := (by have z := bn_le c; have k1 : (10 : Int32).toInt = 10 := (by decide); omega)
        refine lv_iload_n hx hb dX0_placeOf_16 rfl (lv_at hl 2 rfl) ?_
        refine lv_bipush (v := 8) hx hb dX0_placeOf_17 (by decide) ?_
        refine lv_icmp_ge (tgt := 41) hx hb dX0_placeOf_19 (by decide) (fun c => ?_) (fun c => ?_)
        · skip
          have c_7 : 8 ≤ x1.toInt := (by have z := bn_le c; have k1 : (8 : Int32).toInt = 8 := (by decide); omega)
          refine lv_iload_n hx hb dX0_placeOf_41 rfl (lv_at hl 2 rfl) ?_
          refine lv_bipush (v := 10) hx hb dX0_placeOf_42 (by decide) ?_
          refine lv_icmp_ne (tgt := 58) hx hb dX0_placeOf_44 (by decide) (fun c => ?_) (fun c => ?_)
          · skip
            have c_9 : x1.toInt ≠ 10 := (by have z := bn_ne c; have k1 : (10 : Int32).toInt = 10 := (by decide); omega)
            refine lv_iload_n hx hb dX0_placeOf_58 rfl (lv_at hl 1 rfl) ?_
            refine lv_iconst (v := 3) hx hb dX0_placeOf_59 (by decide) ?_
            refine lv_icmp_lt (tgt := 65) hx hb dX0_placeOf_60 (by decide) (fun c => ?_) (fun c => ?_)
            · skip
              have c_11 : x0.toInt < 3 := (by have z := bn_lt c; have k1 : (3 : Int32).toInt = 3 := (by decide); omega)
              refine lv_iload_n hx hb dX0_placeOf_65 rfl (lv_at hl 2 rfl) ?_
              refine lv_bipush (v := 9) hx hb dX0_placeOf_66 (by decide) ?_
              refine lv_icmp_ne (tgt := 76) hx hb dX0_placeOf_68 (by decide) (fun c => ?_) (fun c => ?_)
              · skip
                have c_13 : x1.toInt ≠ 9 := (by have z := bn_ne c; have k1 : (9 : Int32).toInt = 9 := (by decide); omega)
                refine lv_bipush (v := 64) hx hb dX0_placeOf_76 (by decide) ?_
                refine lv_iload_n hx hb dX0_placeOf_78 rfl (lv_at hl 1 rfl) ?_
                refine lv_iadd hx hb dX0_placeOf_79 ?_
                refine lv_topi (fun v_15 ev_15 => ?_)
                have q_16 : v_15.toInt = 64 + x0.toInt := by rw [ev_15]; have k0 : (64 : Int32).toInt = 64 := (by decide); exact (bn_addI (by omega) (by omega)).trans (by omega)
                rcases (show x0.toInt = 0 ∨ x0.toInt = 1 ∨ x0.toInt = 2 from by omega) with z | z | z <;> exact hret _ _ _ _ (v_15) f L Q dX0_placeOf_80 hP hS ⟨⟨rfl, rfl, rfl⟩, (by first | exact Or.inl ⟨Int32.toInt_inj.mp (by have k9 : ((-1) : Int32).toInt = (-1) := (by decide); omega), by omega⟩ | exact Or.inr (Or.inl ⟨Int32.toInt_inj.mp (by have k9 : (64 : Int32).toInt = 64 := (by decide); omega), by omega⟩) | exact Or.inr (Or.inr (Or.inl ⟨Int32.toInt_inj.mp (by have k9 : (65 : Int32).toInt = 65 := (by decide); omega), by omega⟩)) | exact Or.inr (Or.inr (Or.inr (Or.inl ⟨Int32.toInt_inj.mp (by have k9 : (66 : Int32).toInt = 66 := (by decide); omega), by omega⟩))) | exact Or.inr (Or.inr (Or.inr (Or.inr (Or.inl ⟨Int32.toInt_inj.mp (by have k9 : (67 : Int32).toInt = 67 := (by decide); omega), by omega⟩)))) | exact Or.inr (Or.inr (Or.inr (Or.inr (Or.inr (Or.inl ⟨Int32.toInt_inj.mp (by have k9 : (68 : Int32).toInt = 68 := (by decide); omega), by omega⟩))))) | exact Or.inr (Or.inr (Or.inr (Or.inr (Or.inr (Or.inr (Or.inl ⟨Int32.toInt_inj.mp (by have k9 : (69 : Int32).toInt = 69 := (by decide); omega), by omega⟩)))))) | exact Or.inr (Or.inr (Or.inr (Or.inr (Or.inr (Or.inr (Or.inr (⟨Int32.toInt_inj.mp (by have k9 : (70 : Int32).toInt = 70 := (by decide); omega), by omega⟩))))))))⟩
              · skip
                have c_14 : x1.toInt = 9 := (by have z := Int32.toInt_inj.mpr c; have k1 : (9 : Int32).toInt = 9 := (by decide); omega)
                refine lv_bipush (v := 67) hx hb dX0_placeOf_71 (by decide) ?_
                refine lv_goto (tgt := 78) hx hb dX0_placeOf_73 (by decide) ?_
                refine lv_iload_n hx hb dX0_placeOf_78 rfl (lv_at hl 1 rfl) ?_
                refine lv_iadd hx hb dX0_placeOf_79 ?_
                refine lv_topi (fun v_17 ev_17 => ?_)
                have q_18 : v_17.toInt = 67 + x0.toInt := by rw [ev_17]; have k0 : (67 : Int32).toInt = 67 := (by decide); exact (bn_addI (by omega) (by omega)).trans (by omega)
                rcases (show x0.toInt = 0 ∨ x0.toInt = 1 ∨ x0.toInt = 2 from by omega) with z | z | z <;> exact hret _ _ _ _ (v_17) f L Q dX0_placeOf_80 hP hS ⟨⟨rfl, rfl, rfl⟩, (by first | exact Or.inl ⟨Int32.toInt_inj.mp (by have k9 : ((-1) : Int32).toInt = (-1) := (by decide); omega), by omega⟩ | exact Or.inr (Or.inl ⟨Int32.toInt_inj.mp (by have k9 : (64 : Int32).toInt = 64 := (by decide); omega), by omega⟩) | exact Or.inr (Or.inr (Or.inl ⟨Int32.toInt_inj.mp (by have k9 : (65 : Int32).toInt = 65 := (by decide); omega), by omega⟩)) | exact Or.inr (Or.inr (Or.inr (Or.inl ⟨Int32.toInt_inj.mp (by have k9 : (66 : Int32).toInt = 66 := (by decide); omega), by omega⟩))) | exact Or.inr (Or.inr (Or.inr (Or.inr (Or.inl ⟨Int32.toInt_inj.mp (by have k9 : (67 : Int32).toInt = 67 := (by decide); omega), by omega⟩)))) | exact Or.inr (Or.inr (Or.inr (Or.inr (Or.inr (Or.inl ⟨Int32.toInt_inj.mp (by have k9 : (68 : Int32).toInt = 68 := (by decide); omega), by omega⟩))))) | exact Or.inr (Or.inr (Or.inr (Or.inr (Or.inr (Or.inr (Or.inl ⟨Int32.toInt_inj.mp (by have k9 : (69 : Int32).toInt = 69 := (by decide); omega), by omega⟩)))))) | exact Or.inr (Or.inr (Or.inr (Or.inr (Or.inr (Or.inr (Or.inr (⟨Int32.toInt_inj.mp (by have k9 : (70 : Int32).toInt = 70 := (by decide); omega), by omega⟩))))))))⟩
            · skip
              have c_12 : 3 ≤ x0.toInt := (by have z := bn_nlt c; have k1 : (3 : Int32).toInt = 3 := (by decide); omega)
              refine lv_iconst (v := (-1)) hx hb dX0_placeOf_63 (by decide) ?_
              exact hret _ _ _ _ (-1) f L Q dX0_placeOf_64 hP hS ⟨⟨rfl, rfl, rfl⟩, Or.inl ⟨rfl, by omega⟩⟩
          · skip
            have c_10 : x1.toInt = 10 := (by have z := Int32.toInt_inj.mpr c; have k1 : (10 : Int32).toInt = 10 := (by decide); omega)
            refine lv_iload_n hx hb dX0_placeOf_47 rfl (lv_at hl 1 rfl) ?_
            refine lv_if_ne (tgt := 56) hx hb dX0_placeOf_48 (by decide) (fun c => ?_) (fun c => ?_)
            · skip
              have c_19 : x0.toInt ≠ 0 := (by have z := bn_ne c; have k1 : (0 : Int32).toInt = 0 := (by decide); omega)
              refine lv_iconst (v := (-1)) hx hb dX0_placeOf_56 (by decide) ?_
              exact hret _ _ _ _ (-1) f L Q dX0_placeOf_57 hP hS ⟨⟨rfl, rfl, rfl⟩, Or.inl ⟨rfl, by omega⟩⟩
            · skip
              have c_20 : x0.toInt = 0 := (by have z := Int32.toInt_inj.mpr c; have k1 : (0 : Int32).toInt = 0 := (by decide); omega)
              refine lv_bipush (v := 70) hx hb dX0_placeOf_51 (by decide) ?_
              refine lv_goto (tgt := 57) hx hb dX0_placeOf_53 (by decide) ?_
              exact hret _ _ _ _ (70) f L Q dX0_placeOf_57 hP hS ⟨⟨rfl, rfl, rfl⟩, Or.inr (Or.inr (Or.inr (Or.inr (Or.inr (Or.inr (Or.inr (⟨rfl, by omega⟩)))))))⟩
        · skip
          have c_8 : x1.toInt < 8 := (by have z := bn_nle c; have k1 : (8 : Int32).toInt = 8 := (by decide); omega)
          refine lv_iload_n hx hb dX0_placeOf_22 rfl (lv_at hl 1 rfl) ?_
          refine lv_aload_n hx hb dX0_placeOf_23 rfl (lv_at hl 0 rfl) ?_
          refine sg_get (ci := 0) (v := .int 0) (C := RX0) (T := TX0) (N := 5) hx hb hts (by decide +kernel) hown hK hP 1 (by decide) rfl rfl 3 (by decide) (hts (.fieldLink RX0 28 "SetAgain$Chair" "sitters" "I") (by decide +kernel)) (fun _ h9 => h9) (congrArg (fun z => some (Value.int z)) (show f 1 3 = 0 from hs)) dX0_placeOf_24 ?_
          refine lv_icmp_ge (tgt := 39) hx hb dX0_placeOf_27 (by decide) (fun c => ?_) (fun c => ?_)
          · skip
            have c_21 : 0 ≤ x0.toInt := (by have z := bn_le c; have k1 : (0 : Int32).toInt = 0 := (by decide); omega)
            refine lv_iconst (v := (-1)) hx hb dX0_placeOf_39 (by decide) ?_
            exact hret _ _ _ _ (-1) f L Q dX0_placeOf_40 hP hS ⟨⟨rfl, rfl, rfl⟩, Or.inl ⟨rfl, by omega⟩⟩
          · skip
            exfalso; have c_22 : x0.toInt < 0 := (by have z := bn_nle c; have k1 : (0 : Int32).toInt = 0 := (by decide); omega); omega
      · skip
        have c_6 : 10 < x1.toInt := (by have z := bn_nle c; have k1 : (10 : Int32).toInt = 10 := (by decide); omega)
        refine lv_iconst (v := (-1)) hx hb dX0_placeOf_14 (by decide) ?_
        exact hret _ _ _ _ (-1) f L Q dX0_placeOf_15 hP hS ⟨⟨rfl, rfl, rfl⟩, Or.inl ⟨rfl, by omega⟩⟩

set_option maxHeartbeats 4000000 in
set_option maxRecDepth 100000 in
theorem cf_X1_comes (l : Launch) (D : va_G) (ca : Nat → ClassId) (za h : Nat → Nat) (hh : sgH 52 h) (f : sg_F) (L : sg_L) (Q : sg_Q) (x0 : Int32) (x1 : Int32) (x2 : Int32) (hd : f 32 3 = 0) (sz : Nat) : Met l yX1_comes wsX1_comes { frames := 0, cells := 0, slots := 0, locals := 0 } (sgP D vwCl (tyX ca) 52 h (eX ca h) zcX za f L Q sz [.ref (h 32), .int x0, .int x1, .int x2]) (sgQv D vwCl 52 h (eX ca h) sz (fun f1 L1 Q1 => True)) 0 0 (sgA 52 h sz) := by
  refine sg_ofWv (cc := cX1_comes) (maxL := 4) RX1 (by decide) rfl rfl (Nat.le_of_ble_eq_true rfl) ?_
  intro p e s m below meth c Qz ls hx hb hml hown hts hK hZ hP hS hl hret
  have hA := sgY.self (n := 52) (h := h) (sz := s.heap.size)
  have hl : lv_has ls 4 [(0, .ref (h 32)), (1, .int x0), (2, .int x1), (3, .int x2)] := hl
  obtain ⟨H, hH⟩ : ∃ z : Heap, z = s.heap := ⟨_, rfl⟩
  obtain ⟨locs, hlo⟩ : ∃ z : List Loc, z = [] := ⟨_, rfl⟩
  have hP : va_P D vwCl (sgw 52 h (eX ca h) f L Q) H := by rw [hH]; exact hP
  have hS : va_S (sgA 52 h s.heap.size) s.heap H locs := by rw [hH, hlo]; exact hS
  suffices hgo : W p l e ({ frames := 0, cells := 0, slots := 0, locals := 0 }) s m ([.ref (h 32), .int x0, .int x1, .int x2] : List Value).toArray below meth c H locs 0 0 Qz (F0 m 0 ls []) by rw [hH, hlo] at hgo; exact hgo
  refine lv_aload_n hx hb dX1_comes_0 rfl (lv_at hl 0 rfl) ?_
  refine sg_get (ci := 1) (v := .int 0) (C := RX1) (T := TX1) (N := 5) hx hb hts (by decide +kernel) hown hK hP 32 (by decide) rfl rfl 3 (by decide) (hts (.fieldLink RX1 19 "SetAgain$Changes" "done" "I") (by decide +kernel)) (fun _ h9 => h9) (congrArg (fun z => some (Value.int z)) (show f 32 3 = 0 from hd)) dX1_comes_1 ?_
  refine lv_bipush (v := 40) hx hb dX1_comes_4 (by decide) ?_
  refine lv_icmp_ne (tgt := 13) hx hb dX1_comes_6 (by decide) (fun c => ?_) (fun c => absurd c (by decide))
  refine lv_aload_n hx hb dX1_comes_13 rfl (lv_at hl 0 rfl) ?_
  refine sg_get (ci := 1) (v := .ref (h 33)) (C := RX1) (T := TX1) (N := 5) hx hb hts (by decide +kernel) hown hK hP 32 (by decide) rfl rfl 0 (by decide) (hts (.fieldLink RX1 9 "SetAgain$Changes" "places" "[I") (by decide +kernel)) (fun _ h9 => h9) rfl dX1_comes_14 ?_
  refine lv_aload_n hx hb dX1_comes_17 rfl (lv_at hl 0 rfl) ?_
  refine sg_get (ci := 1) (v := .int 0) (C := RX1) (T := TX1) (N := 5) hx hb hts (by decide +kernel) hown hK hP 32 (by decide) rfl rfl 3 (by decide) (hts (.fieldLink RX1 19 "SetAgain$Changes" "done" "I") (by decide +kernel)) (fun _ h9 => h9) (congrArg (fun z => some (Value.int z)) (show f 32 3 = 0 from hd)) dX1_comes_18 ?_
  refine lv_iload_n hx hb dX1_comes_21 rfl (lv_at hl 1 rfl) ?_
  refine sg_iast hx hb hh hA hK hP hS 33 (by decide) 0 (fun _ => rfl) rfl (i := 0) (x := x0) (vp_in_iff.mpr (by decide)) dX1_comes_22 (fun f_1 H locs ef_1 hP hS => ?_)
  refine lv_aload_n hx hb dX1_comes_23 rfl (lv_at hl 0 rfl) ?_
  refine sg_get (ci := 1) (v := .ref (h 34)) (C := RX1) (T := TX1) (N := 5) hx hb hts (by decide +kernel) hown hK hP 32 (by decide) rfl rfl 1 (by decide) (hts (.fieldLink RX1 13 "SetAgain$Changes" "before" "[I") (by decide +kernel)) (fun _ h9 => h9) rfl dX1_comes_24 ?_
  refine lv_aload_n hx hb dX1_comes_27 rfl (lv_at hl 0 rfl) ?_
  refine sg_get (ci := 1) (v := .int 0) (C := RX1) (T := TX1) (N := 5) hx hb hts (by decide +kernel) hown hK hP 32 (by decide) rfl rfl 3 (by decide) (hts (.fieldLink RX1 19 "SetAgain$Changes" "done" "I") (by decide +kernel)) (fun _ h9 => h9) (congrArg (fun z => some (Value.int z)) (show f_1 32 3 = 0 from (by rw [ef_1]; exact (show _ = _ from hd)))) dX1_comes_28 ?_
  refine lv_iload_n hx hb dX1_comes_31 rfl (lv_at hl 2 rfl) ?_
  refine sg_iast hx hb hh hA hK hP hS 34 (by decide) 0 (fun _ => rfl) rfl (i := 0) (x := x1) (vp_in_iff.mpr (by decide)) dX1_comes_32 (fun f_2 H locs ef_2 hP hS => ?_)
  refine lv_aload_n hx hb dX1_comes_33 rfl (lv_at hl 0 rfl) ?_
  refine sg_get (ci := 1) (v := .ref (h 35)) (C := RX1) (T := TX1) (N := 5) hx hb hts (by decide +kernel) hown hK hP 32 (by decide) rfl rfl 2 (by decide) (hts (.fieldLink RX1 16 "SetAgain$Changes" "after" "[I") (by decide +kernel)) (fun _ h9 => h9) rfl dX1_comes_34 ?_
  refine lv_aload_n hx hb dX1_comes_37 rfl (lv_at hl 0 rfl) ?_
  refine sg_get (ci := 1) (v := .int 0) (C := RX1) (T := TX1) (N := 5) hx hb hts (by decide +kernel) hown hK hP 32 (by decide) rfl rfl 3 (by decide) (hts (.fieldLink RX1 19 "SetAgain$Changes" "done" "I") (by decide +kernel)) (fun _ h9 => h9) (congrArg (fun z => some (Value.int z)) (show f_2 32 3 = 0 from (by rw [ef_2]; exact (show _ = _ from (by rw [ef_1]; exact (show _ = _ from hd)))))) dX1_comes_38 ?_
  refine lv_iload_n hx hb dX1_comes_41 rfl (lv_at hl 3 rfl) ?_
  refine sg_iast hx hb hh hA hK hP hS 35 (by decide) 0 (fun _ => rfl) rfl (i := 0) (x := x2) (vp_in_iff.mpr (by decide)) dX1_comes_42 (fun f_3 H locs ef_3 hP hS => ?_)
  refine lv_aload_n hx hb dX1_comes_43 rfl (lv_at hl 0 rfl) ?_
  refine lv_dup hx hb dX1_comes_44 rfl ?_
  refine sg_get (ci := 1) (v := .int 0) (C := RX1) (T := TX1) (N := 5) hx hb hts (by decide +kernel) hown hK hP 32 (by decide) rfl rfl 3 (by decide) (hts (.fieldLink RX1 19 "SetAgain$Changes" "done" "I") (by decide +kernel)) (fun _ h9 => h9) (congrArg (fun z => some (Value.int z)) (show f_3 32 3 = 0 from (by rw [ef_3]; exact (show _ = _ from (by rw [ef_2]; exact (show _ = _ from (by rw [ef_1]; exact (show _ = _ from hd)))))))) dX1_comes_45 ?_
  refine lv_iconst (v := 1) hx hb dX1_comes_48 (by decide) ?_
  refine lv_iadd hx hb dX1_comes_49 ?_
  refine W.eq (g2 := F0 m 50 ls [.int 1, .ref (h 32)]) (by rw [show (0 + 1 : Int32) = 1 from by decide]) ?_
  refine sg_put (ci := 1) (x := 1) (ty := .int) (C := RX1) (T := TX1) (N := 5) hx hb hts (by decide +kernel) tyX1 tyX1_ok nmX1 hown hh hA hK hP hS 32 (by decide) rfl rfl 3 (by decide) (hts (.fieldLink RX1 19 "SetAgain$Changes" "done" "I") (by decide +kernel)) (fun _ h9 => h9) rfl rfl (by decide +kernel) rfl rfl (Nat.le_of_ble_eq_true rfl) dX1_comes_50 (fun f_4 H locs ef_4 hP hS => ?_)
  refine lv_aload_n hx hb dX1_comes_53 rfl (lv_at hl 0 rfl) ?_
  refine lv_aload_n hx hb dX1_comes_54 rfl (lv_at hl 0 rfl) ?_
  refine sg_get (ci := 1) (v := .int 1) (C := RX1) (T := TX1) (N := 5) hx hb hts (by decide +kernel) hown hK hP 32 (by decide) rfl rfl 3 (by decide) (hts (.fieldLink RX1 19 "SetAgain$Changes" "done" "I") (by decide +kernel)) (fun _ h9 => h9) (congrArg (fun z => some (Value.int z)) (show f_4 32 3 = 1 from (by rw [ef_4]; rfl))) dX1_comes_55 ?_
  refine sg_put (ci := 1) (x := 1) (ty := .int) (C := RX1) (T := TX1) (N := 5) hx hb hts (by decide +kernel) tyX1 tyX1_ok nmX1 hown hh hA hK hP hS 32 (by decide) rfl rfl 4 (by decide) (hts (.fieldLink RX1 26 "SetAgain$Changes" "kept" "I") (by decide +kernel)) (fun _ h9 => h9) rfl rfl (by decide +kernel) rfl rfl (Nat.le_of_ble_eq_true rfl) dX1_comes_58 (fun f_5 H locs ef_5 hP hS => ?_)
  exact hret _ _ _ _ f_5 L Q dX1_comes_61 hP hS trivial

set_option maxHeartbeats 4000000 in
set_option maxRecDepth 100000 in
theorem cf_X0_becomes (l : Launch) (D : va_G) (ca : Nat → ClassId) (za h : Nat → Nat) (hh : sgH 52 h) (f : sg_F) (L : sg_L) (Q : sg_Q) (x0 : Int32) (x1 : Int32) (b0 : 64 ≤ x0.toInt ∧ x0.toInt ≤ 70) (sz : Nat) : Met l yX0_becomes wsX0_becomes { frames := 0, cells := 0, slots := 0, locals := 0 } (sgP D vwCl (tyX ca) 52 h (eX ca h) zcX za f L Q sz [.ref (h 1), .int x0, .int x1]) (sgQv D vwCl 52 h (eX ca h) sz (fun f1 L1 Q1 => True)) 0 0 (sgA 52 h sz) := by
  refine sg_ofWv (cc := cX0_becomes) (maxL := 3) RX0 (by decide) rfl rfl (Nat.le_of_ble_eq_true rfl) ?_
  intro p e s m below meth c Qz ls hx hb hml hown hts hK hZ hP hS hl hret
  have hA := sgY.self (n := 52) (h := h) (sz := s.heap.size)
  have hl : lv_has ls 3 [(0, .ref (h 1)), (1, .int x0), (2, .int x1)] := hl
  obtain ⟨H, hH⟩ : ∃ z : Heap, z = s.heap := ⟨_, rfl⟩
  obtain ⟨locs, hlo⟩ : ∃ z : List Loc, z = [] := ⟨_, rfl⟩
  have hP : va_P D vwCl (sgw 52 h (eX ca h) f L Q) H := by rw [hH]; exact hP
  have hS : va_S (sgA 52 h s.heap.size) s.heap H locs := by rw [hH, hlo]; exact hS
  suffices hgo : W p l e ({ frames := 0, cells := 0, slots := 0, locals := 0 }) s m ([.ref (h 1), .int x0, .int x1] : List Value).toArray below meth c H locs 0 0 Qz (F0 m 0 ls []) by rw [hH, hlo] at hgo; exact hgo
  refine lv_iload_n hx hb dX0_becomes_0 rfl (lv_at hl 1 rfl) ?_
  refine lv_if_lt (tgt := 10) hx hb dX0_becomes_1 (by decide) (fun c => ?_) (fun c => ?_)
  · skip
    exfalso; have c_1 : x0.toInt < 0 := (by have z := bn_lt c; have k1 : (0 : Int32).toInt = 0 := (by decide); omega); omega
  · skip
    have c_2 : 0 ≤ x0.toInt := (by have z := bn_nlt c; have k1 : (0 : Int32).toInt = 0 := (by decide); omega)
    refine lv_iload_n hx hb dX0_becomes_4 rfl (lv_at hl 1 rfl) ?_
    refine lv_bipush (v := 70) hx hb dX0_becomes_5 (by decide) ?_
    refine lv_icmp_le (tgt := 11) hx hb dX0_becomes_7 (by decide) (fun c => ?_) (fun c => ?_)
    · skip
      have c_3 : x0.toInt ≤ 70 := (by have z := bn_le c; have k1 : (70 : Int32).toInt = 70 := (by decide); omega)
      refine lv_aload_n hx hb dX0_becomes_11 rfl (lv_at hl 0 rfl) ?_
      refine sg_get (ci := 0) (v := .ref (h 2)) (C := RX0) (T := TX0) (N := 5) hx hb hts (by decide +kernel) hown hK hP 1 (by decide) rfl rfl 0 (by decide) (hts (.fieldLink RX0 11 "SetAgain$Chair" "told" "[I") (by decide +kernel)) (fun _ h9 => h9) rfl dX0_becomes_12 ?_
      refine lv_iload_n hx hb dX0_becomes_15 rfl (lv_at hl 1 rfl) ?_
      refine lv_iload_n hx hb dX0_becomes_16 rfl (lv_at hl 2 rfl) ?_
      refine sg_iast hx hb hh hA hK hP hS 2 (by decide) 0 (fun _ => rfl) rfl (i := x0) (x := x1) (vp_in_iff.mpr ⟨by omega, by omega⟩) dX0_becomes_17 (fun f_5 H locs ef_5 hP hS => ?_)
      refine lv_iload_n hx hb dX0_becomes_18 rfl (lv_at hl 1 rfl) ?_
      refine lv_bipush (v := 64) hx hb dX0_becomes_19 (by decide) ?_
      refine lv_icmp_ge (tgt := 32) hx hb dX0_becomes_21 (by decide) (fun c => ?_) (fun c => ?_)
      · skip
        have c_6 : 64 ≤ x0.toInt := (by have z := bn_le c; have k1 : (64 : Int32).toInt = 64 := (by decide); omega)
        exact hret _ _ _ _ f_5 L Q dX0_becomes_32 hP hS trivial
      · skip
        exfalso; have c_7 : x0.toInt < 64 := (by have z := bn_nle c; have k1 : (64 : Int32).toInt = 64 := (by decide); omega); omega
    · skip
      exfalso; have c_4 : 70 < x0.toInt := (by have z := bn_nle c; have k1 : (70 : Int32).toInt = 70 := (by decide); omega); omega

set_option maxHeartbeats 4000000 in
set_option maxRecDepth 100000 in
theorem cf_X11_mend (l : Launch) (D : va_G) (ca : Nat → ClassId) (za h : Nat → Nat) (hh : sgH 52 h) (x0 : Int32) (x1 : Int32) (x2 : Int32) (sz : Nat) : Met l yX11_mend wsX11_mend { frames := 1, cells := 0, slots := 0, locals := 23 } (sgP D vwCl (tyX ca) 52 h (eX ca h) zcX za f0X L0 Q0 sz [.ref (h 0), .int x0, .int x1, .int x2]) (sgQi D vwCl 52 h (eX ca h) sz (fun r f1 L1 Q1 => True ∧ ((r = 1 ∧ (x1.toInt = 9 ∧ 0 ≤ x0.toInt ∧ x0.toInt ≤ 2 ∧ 0 ≤ x2.toInt ∧ x2.toInt ≤ 9)) ∨ (r = 0 ∧ (x1.toInt = 8 ∧ 0 ≤ x0.toInt ∧ x0.toInt ≤ 2 ∧ 0 ≤ x2.toInt ∧ x2.toInt ≤ 3)) ∨ (r = 3 ∧ (x1.toInt = 10 ∧ x0.toInt = 0 ∧ 0 ≤ x2.toInt ∧ x2.toInt ≤ 99)) ∨ (r = (-1) ∧ (¬ (x1.toInt = 9 ∧ 0 ≤ x0.toInt ∧ x0.toInt ≤ 2 ∧ 0 ≤ x2.toInt ∧ x2.toInt ≤ 9) ∧ ¬ (x1.toInt = 8 ∧ 0 ≤ x0.toInt ∧ x0.toInt ≤ 2 ∧ 0 ≤ x2.toInt ∧ x2.toInt ≤ 3) ∧ ¬ (x1.toInt = 10 ∧ x0.toInt = 0 ∧ 0 ≤ x2.toInt ∧ x2.toInt ≤ 99)))))) 0 0 (sgA 52 h sz) := by
  refine sg_ofWi (cc := cX11_mend) (maxL := 6) RX11 (by decide) rfl rfl (Nat.le_of_ble_eq_true rfl) ?_
  intro p e s m below meth c Qz ls hx hb hml hown hts hK hZ hP hS hl hret
  have hA := sgY.self (n := 52) (h := h) (sz := s.heap.size)
  have hl : lv_has ls 6 [(0, .ref (h 0)), (1, .int x0), (2, .int x1), (3, .int x2)] := hl
  obtain ⟨H, hH⟩ : ∃ z : Heap, z = s.heap := ⟨_, rfl⟩
  obtain ⟨locs, hlo⟩ : ∃ z : List Loc, z = [] := ⟨_, rfl⟩
  have hP : va_P D vwCl (sgw 52 h (eX ca h) f0X L0 Q0) H := by rw [hH]; exact hP
  have hS : va_S (sgA 52 h s.heap.size) s.heap H locs := by rw [hH, hlo]; exact hS
  suffices hgo : W p l e ({ frames := 1, cells := 0, slots := 0, locals := 23 }) s m ([.ref (h 0), .int x0, .int x1, .int x2] : List Value).toArray below meth c H locs 0 0 Qz (F0 m 0 ls []) by rw [hH, hlo] at hgo; exact hgo
  refine lv_aload_n hx hb dX11_mend_0 rfl (lv_at hl 0 rfl) ?_
  refine sg_get (ci := 11) (v := .ref (h 1)) (C := RX11) (T := TX11) (N := 10) hx hb hts (by decide +kernel) hown hK hP 0 (by decide) rfl rfl 0 (by decide) (hts (.fieldLink RX11 12 "SetAgain" "chair" "LSetAgain$Chair;") (by decide +kernel)) (fun _ h9 => h9) rfl dX11_mend_1 ?_
  refine lv_iload_n hx hb dX11_mend_4 rfl (lv_at hl 1 rfl) ?_
  refine lv_iload_n hx hb dX11_mend_5 rfl (lv_at hl 2 rfl) ?_
  refine sg_calli (va_runV (As := [.int x0, .int x1]) (rest := []) ⟨hx, hb, hml, hown, hts⟩ (cf_X0_placeOf l D ca za h hh f0X L0 Q0 x0 x1 rfl H.size) (cwV 2 hts gX11_mend_X0_placeOf rfl rfl rfl (by decide +kernel) ⟨Nat.le_of_ble_eq_true rfl, Nat.le_of_ble_eq_true rfl⟩) (sg_preV (ci := 0) (C := RX0) (T := TX0) (N := 5) hA hK hP hS hZ 1 (by decide) rfl rfl) rfl rfl hl.1 rfl (lv_room (Nat.le_of_ble_eq_true rfl)) dX11_mend_6 ⟨Nat.le_refl _, Nat.le_refl _⟩) hA hS (fun r_4 f_1 L_2 Q_3 H locs hq hP hS => ?_)
  obtain ⟨⟨ef9, eL9, eQ9⟩, hq⟩ := hq
  rw [ef9, eL9, eQ9] at hP; clear ef9 eL9 eQ9
  rcases hq with ⟨rfl, hq⟩ | ⟨rfl, hq⟩ | ⟨rfl, hq⟩ | ⟨rfl, hq⟩ | ⟨rfl, hq⟩ | ⟨rfl, hq⟩ | ⟨rfl, hq⟩ | ⟨rfl, hq⟩
  · skip
    have q_5 := hq
    refine lv_istore (lv' := [(4, .int (-1)), (0, .ref (h 0)), (1, .int x0), (2, .int x1), (3, .int x2)]) hx hb dX11_mend_9 hl (by decide) rfl (fun ls hl => ?_)
    refine lv_iload hx hb dX11_mend_11 (lv_at hl 0 rfl) ?_
    refine lv_if_lt (tgt := 24) hx hb dX11_mend_13 (by decide) (fun c => ?_) (fun c => absurd c (by decide))
    refine lv_iconst (v := (-1)) hx hb dX11_mend_24 (by decide) ?_
    exact hret _ _ _ _ (-1) f0X L0 Q0 dX11_mend_25 hP hS ⟨trivial, Or.inr (Or.inr (Or.inr (⟨rfl, by omega⟩)))⟩
  · skip
    have q_6 := hq
    have k_7 : (8 : Int32).toInt = 8 := (by decide)
    obtain rfl : x1 = 8 := Int32.toInt_inj.mp (by omega)
    have k_8 : (0 : Int32).toInt = 0 := (by decide)
    obtain rfl : x0 = 0 := Int32.toInt_inj.mp (by omega)
    refine lv_istore (lv' := [(4, .int 64), (0, .ref (h 0)), (1, .int 0), (2, .int 8), (3, .int x2)]) hx hb dX11_mend_9 hl (by decide) rfl (fun ls hl => ?_)
    refine lv_iload hx hb dX11_mend_11 (lv_at hl 0 rfl) ?_
    refine lv_if_lt (tgt := 24) hx hb dX11_mend_13 (by decide) (fun c => absurd c (by decide)) (fun c => ?_)
    refine lv_iload_n hx hb dX11_mend_16 rfl (lv_at hl 3 rfl) ?_
    refine lv_iload_n hx hb dX11_mend_17 rfl (lv_at hl 4 rfl) ?_
    refine sg_calli (va_runS (As := [.int 8, .int x2]) (rest := []) ⟨hx, hb, hml, hown, hts⟩ (cf_X11_fits_8 l D ca za h hh f0X L0 Q0 x2 H.size) (va_cwS 2 hts gX11_mend_X11_fits rfl rfl rfl (by decide +kernel) ⟨Nat.le_of_ble_eq_true rfl, Nat.le_of_ble_eq_true rfl⟩) (sg_preS hA hK hP hS hZ) rfl rfl hl.1 rfl (lv_room (Nat.le_of_ble_eq_true rfl)) dX11_mend_18 ⟨Nat.le_refl _, Nat.le_refl _⟩) hA hS (fun r_12 f_9 L_10 Q_11 H locs hq hP hS => ?_)
    obtain ⟨⟨ef9, eL9, eQ9⟩, hq⟩ := hq
    rw [ef9, eL9, eQ9] at hP; clear ef9 eL9 eQ9
    have k_13 : (8 : Int32).toInt = 8 := by decide
    rcases hq with ⟨rfl, hq⟩ | ⟨rfl, hq⟩
    · skip
      have q_14 := hq
      refine lv_if_ne (tgt := 26) hx hb dX11_mend_21 (by decide) (fun c => ?_) (fun c => absurd c (by decide))
      refine lv_aload_n hx hb dX11_mend_26 rfl (lv_at hl 1 rfl) ?_
      refine sg_get (ci := 11) (v := .ref (h 1)) (C := RX11) (T := TX11) (N := 10) hx hb hts (by decide +kernel) hown hK hP 0 (by decide) rfl rfl 0 (by decide) (hts (.fieldLink RX11 12 "SetAgain" "chair" "LSetAgain$Chair;") (by decide +kernel)) (fun _ h9 => h9) rfl dX11_mend_27 ?_
      refine sg_get (ci := 0) (v := .ref (h 2)) (C := RX0) (T := TX0) (N := 5) hx hb hts (by decide +kernel) hown hK hP 1 (by decide) rfl rfl 0 (by decide) (hts (.fieldLink RX11 112 "SetAgain$Chair" "told" "[I") (by decide +kernel)) (fun _ h9 => h9) rfl dX11_mend_30 ?_
      refine lv_iload hx hb dX11_mend_33 (lv_at hl 0 rfl) ?_
      refine sg_iald hx hb hK hP 2 (by decide) 0 rfl rfl (i := 64) (vp_in_iff.mpr (by decide)) dX11_mend_35 ?_
      refine W.eq (g2 := F0 m 36 ls [.int 0]) (by rw [show f0X 2 (Int32.toNatClampNeg 64) = 0 from rfl]) ?_
      refine lv_istore (lv' := [(5, .int 0), (4, .int 64), (0, .ref (h 0)), (1, .int 0), (2, .int 8), (3, .int x2)]) hx hb dX11_mend_36 hl (by decide) rfl (fun ls hl => ?_)
      refine lv_iload hx hb dX11_mend_38 (lv_at hl 0 rfl) ?_
      refine lv_iload_n hx hb dX11_mend_40 rfl (lv_at hl 5 rfl) ?_
      refine lv_icmp_eq (tgt := 66) hx hb dX11_mend_41 (by decide) (fun c => ?_) (fun c => ?_)
      · skip
        have c_15 : 0 = x2.toInt := (by have z := Int32.toInt_inj.mpr c; have k0 : (0 : Int32).toInt = 0 := (by decide); omega)
        refine lv_iload hx hb dX11_mend_66 (lv_at hl 0 rfl) ?_
        exact hret _ _ _ _ (0) f0X L0 Q0 dX11_mend_68 hP hS ⟨trivial, Or.inr (Or.inl ⟨rfl, by omega⟩)⟩
      · skip
        have c_16 : 0 ≠ x2.toInt := (by have z := bn_ne c; have k0 : (0 : Int32).toInt = 0 := (by decide); omega)
        refine lv_aload_n hx hb dX11_mend_44 rfl (lv_at hl 2 rfl) ?_
        refine sg_get (ci := 11) (v := .ref (h 32)) (C := RX11) (T := TX11) (N := 10) hx hb hts (by decide +kernel) hown hK hP 0 (by decide) rfl rfl 7 (by decide) (hts (.fieldLink RX11 67 "SetAgain" "changes" "LSetAgain$Changes;") (by decide +kernel)) (fun _ h9 => h9) rfl dX11_mend_45 ?_
        refine lv_iload hx hb dX11_mend_48 (lv_at hl 1 rfl) ?_
        refine lv_iload hx hb dX11_mend_50 (lv_at hl 0 rfl) ?_
        refine lv_iload_n hx hb dX11_mend_52 rfl (lv_at hl 5 rfl) ?_
        refine sg_callv (va_runV (As := [.int 64, .int 0, .int x2]) (rest := []) ⟨hx, hb, hml, hown, hts⟩ (cf_X1_comes l D ca za h hh f0X L0 Q0 64 0 x2 rfl H.size) (cwV 3 hts gX11_mend_X1_comes rfl rfl rfl (by decide +kernel) ⟨Nat.le_of_ble_eq_true rfl, Nat.le_of_ble_eq_true rfl⟩) (sg_preV (ci := 1) (C := RX1) (T := TX1) (N := 5) hA hK hP hS hZ 32 (by decide) rfl rfl) rfl rfl hl.1 rfl (lv_room (Nat.le_of_ble_eq_true rfl)) dX11_mend_53 ⟨Nat.le_refl _, Nat.le_refl _⟩) hA hS (fun f_17 L_18 Q_19 H locs hq hP hS => ?_)
        refine lv_aload_n hx hb dX11_mend_56 rfl (lv_at hl 2 rfl) ?_
        refine sg_get (ci := 11) (v := .ref (h 1)) (C := RX11) (T := TX11) (N := 10) hx hb hts (by decide +kernel) hown hK hP 0 (by decide) rfl rfl 0 (by decide) (hts (.fieldLink RX11 12 "SetAgain" "chair" "LSetAgain$Chair;") (by decide +kernel)) (fun _ h9 => h9) rfl dX11_mend_57 ?_
        refine lv_iload hx hb dX11_mend_60 (lv_at hl 1 rfl) ?_
        refine lv_iload_n hx hb dX11_mend_62 rfl (lv_at hl 5 rfl) ?_
        refine sg_callv (va_runV (As := [.int 64, .int x2]) (rest := []) ⟨hx, hb, hml, hown, hts⟩ (cf_X0_becomes l D ca za h hh f_17 L_18 Q_19 64 x2 (by first | omega | decide) H.size) (cwV 2 hts gX11_mend_X0_becomes rfl rfl rfl (by decide +kernel) ⟨Nat.le_of_ble_eq_true rfl, Nat.le_of_ble_eq_true rfl⟩) (sg_preV (ci := 0) (C := RX0) (T := TX0) (N := 5) hA hK hP hS hZ 1 (by decide) rfl rfl) rfl rfl hl.1 rfl (lv_room (Nat.le_of_ble_eq_true rfl)) dX11_mend_63 ⟨Nat.le_refl _, Nat.le_refl _⟩) hA hS (fun f_20 L_21 Q_22 H locs hq hP hS => ?_)
        refine lv_iload hx hb dX11_mend_66 (lv_at hl 0 rfl) ?_
        exact hret _ _ _ _ (0) f_20 L_21 Q_22 dX11_mend_68 hP hS ⟨trivial, Or.inr (Or.inl ⟨rfl, by omega⟩)⟩
    · skip
      have q_23 := hq
      refine lv_if_ne (tgt := 26) hx hb dX11_mend_21 (by decide) (fun c => absurd c (by decide)) (fun c => ?_)
      refine lv_iconst (v := (-1)) hx hb dX11_mend_24 (by decide) ?_
      exact hret _ _ _ _ (-1) f0X L0 Q0 dX11_mend_25 hP hS ⟨trivial, Or.inr (Or.inr (Or.inr (⟨rfl, by omega⟩)))⟩
  · skip
    have q_24 := hq
    have k_25 : (8 : Int32).toInt = 8 := (by decide)
    obtain rfl : x1 = 8 := Int32.toInt_inj.mp (by omega)
    have k_26 : (1 : Int32).toInt = 1 := (by decide)
    obtain rfl : x0 = 1 := Int32.toInt_inj.mp (by omega)
    refine lv_istore (lv' := [(4, .int 65), (0, .ref (h 0)), (1, .int 1), (2, .int 8), (3, .int x2)]) hx hb dX11_mend_9 hl (by decide) rfl (fun ls hl => ?_)
    refine lv_iload hx hb dX11_mend_11 (lv_at hl 0 rfl) ?_
    refine lv_if_lt (tgt := 24) hx hb dX11_mend_13 (by decide) (fun c => absurd c (by decide)) (fun c => ?_)
    refine lv_iload_n hx hb dX11_mend_16 rfl (lv_at hl 3 rfl) ?_
    refine lv_iload_n hx hb dX11_mend_17 rfl (lv_at hl 4 rfl) ?_
    refine sg_calli (va_runS (As := [.int 8, .int x2]) (rest := []) ⟨hx, hb, hml, hown, hts⟩ (cf_X11_fits_8 l D ca za h hh f0X L0 Q0 x2 H.size) (va_cwS 2 hts gX11_mend_X11_fits rfl rfl rfl (by decide +kernel) ⟨Nat.le_of_ble_eq_true rfl, Nat.le_of_ble_eq_true rfl⟩) (sg_preS hA hK hP hS hZ) rfl rfl hl.1 rfl (lv_room (Nat.le_of_ble_eq_true rfl)) dX11_mend_18 ⟨Nat.le_refl _, Nat.le_refl _⟩) hA hS (fun r_30 f_27 L_28 Q_29 H locs hq hP hS => ?_)
    obtain ⟨⟨ef9, eL9, eQ9⟩, hq⟩ := hq
    rw [ef9, eL9, eQ9] at hP; clear ef9 eL9 eQ9
    have k_31 : (8 : Int32).toInt = 8 := by decide
    rcases hq with ⟨rfl, hq⟩ | ⟨rfl, hq⟩
    · skip
      have q_32 := hq
      refine lv_if_ne (tgt := 26) hx hb dX11_mend_21 (by decide) (fun c => ?_) (fun c => absurd c (by decide))
      refine lv_aload_n hx hb dX11_mend_26 rfl (lv_at hl 1 rfl) ?_
      refine sg_get (ci := 11) (v := .ref (h 1)) (C := RX11) (T := TX11) (N := 10) hx hb hts (by decide +kernel) hown hK hP 0 (by decide) rfl rfl 0 (by decide) (hts (.fieldLink RX11 12 "SetAgain" "chair" "LSetAgain$Chair;") (by decide +kernel)) (fun _ h9 => h9) rfl dX11_mend_27 ?_
      refine sg_get (ci := 0) (v := .ref (h 2)) (C := RX0) (T := TX0) (N := 5) hx hb hts (by decide +kernel) hown hK hP 1 (by decide) rfl rfl 0 (by decide) (hts (.fieldLink RX11 112 "SetAgain$Chair" "told" "[I") (by decide +kernel)) (fun _ h9 => h9) rfl dX11_mend_30 ?_
      refine lv_iload hx hb dX11_mend_33 (lv_at hl 0 rfl) ?_
      refine sg_iald hx hb hK hP 2 (by decide) 0 rfl rfl (i := 65) (vp_in_iff.mpr (by decide)) dX11_mend_35 ?_
      refine W.eq (g2 := F0 m 36 ls [.int 0]) (by rw [show f0X 2 (Int32.toNatClampNeg 65) = 0 from rfl]) ?_
      refine lv_istore (lv' := [(5, .int 0), (4, .int 65), (0, .ref (h 0)), (1, .int 1), (2, .int 8), (3, .int x2)]) hx hb dX11_mend_36 hl (by decide) rfl (fun ls hl => ?_)
      refine lv_iload hx hb dX11_mend_38 (lv_at hl 0 rfl) ?_
      refine lv_iload_n hx hb dX11_mend_40 rfl (lv_at hl 5 rfl) ?_
      refine lv_icmp_eq (tgt := 66) hx hb dX11_mend_41 (by decide) (fun c => ?_) (fun c => ?_)
      · skip
        have c_33 : 0 = x2.toInt := (by have z := Int32.toInt_inj.mpr c; have k0 : (0 : Int32).toInt = 0 := (by decide); omega)
        refine lv_iload hx hb dX11_mend_66 (lv_at hl 0 rfl) ?_
        exact hret _ _ _ _ (0) f0X L0 Q0 dX11_mend_68 hP hS ⟨trivial, Or.inr (Or.inl ⟨rfl, by omega⟩)⟩
      · skip
        have c_34 : 0 ≠ x2.toInt := (by have z := bn_ne c; have k0 : (0 : Int32).toInt = 0 := (by decide); omega)
        refine lv_aload_n hx hb dX11_mend_44 rfl (lv_at hl 2 rfl) ?_
        refine sg_get (ci := 11) (v := .ref (h 32)) (C := RX11) (T := TX11) (N := 10) hx hb hts (by decide +kernel) hown hK hP 0 (by decide) rfl rfl 7 (by decide) (hts (.fieldLink RX11 67 "SetAgain" "changes" "LSetAgain$Changes;") (by decide +kernel)) (fun _ h9 => h9) rfl dX11_mend_45 ?_
        refine lv_iload hx hb dX11_mend_48 (lv_at hl 1 rfl) ?_
        refine lv_iload hx hb dX11_mend_50 (lv_at hl 0 rfl) ?_
        refine lv_iload_n hx hb dX11_mend_52 rfl (lv_at hl 5 rfl) ?_
        refine sg_callv (va_runV (As := [.int 65, .int 0, .int x2]) (rest := []) ⟨hx, hb, hml, hown, hts⟩ (cf_X1_comes l D ca za h hh f0X L0 Q0 65 0 x2 rfl H.size) (cwV 3 hts gX11_mend_X1_comes rfl rfl rfl (by decide +kernel) ⟨Nat.le_of_ble_eq_true rfl, Nat.le_of_ble_eq_true rfl⟩) (sg_preV (ci := 1) (C := RX1) (T := TX1) (N := 5) hA hK hP hS hZ 32 (by decide) rfl rfl) rfl rfl hl.1 rfl (lv_room (Nat.le_of_ble_eq_true rfl)) dX11_mend_53 ⟨Nat.le_refl _, Nat.le_refl _⟩) hA hS (fun f_35 L_36 Q_37 H locs hq hP hS => ?_)
        refine lv_aload_n hx hb dX11_mend_56 rfl (lv_at hl 2 rfl) ?_
        refine sg_get (ci := 11) (v := .ref (h 1)) (C := RX11) (T := TX11) (N := 10) hx hb hts (by decide +kernel) hown hK hP 0 (by decide) rfl rfl 0 (by decide) (hts (.fieldLink RX11 12 "SetAgain" "chair" "LSetAgain$Chair;") (by decide +kernel)) (fun _ h9 => h9) rfl dX11_mend_57 ?_
        refine lv_iload hx hb dX11_mend_60 (lv_at hl 1 rfl) ?_
        refine lv_iload_n hx hb dX11_mend_62 rfl (lv_at hl 5 rfl) ?_
        refine sg_callv (va_runV (As := [.int 65, .int x2]) (rest := []) ⟨hx, hb, hml, hown, hts⟩ (cf_X0_becomes l D ca za h hh f_35 L_36 Q_37 65 x2 (by first | omega | decide) H.size) (cwV 2 hts gX11_mend_X0_becomes rfl rfl rfl (by decide +kernel) ⟨Nat.le_of_ble_eq_true rfl, Nat.le_of_ble_eq_true rfl⟩) (sg_preV (ci := 0) (C := RX0) (T := TX0) (N := 5) hA hK hP hS hZ 1 (by decide) rfl rfl) rfl rfl hl.1 rfl (lv_room (Nat.le_of_ble_eq_true rfl)) dX11_mend_63 ⟨Nat.le_refl _, Nat.le_refl _⟩) hA hS (fun f_38 L_39 Q_40 H locs hq hP hS => ?_)
        refine lv_iload hx hb dX11_mend_66 (lv_at hl 0 rfl) ?_
        exact hret _ _ _ _ (0) f_38 L_39 Q_40 dX11_mend_68 hP hS ⟨trivial, Or.inr (Or.inl ⟨rfl, by omega⟩)⟩
    · skip
      have q_41 := hq
      refine lv_if_ne (tgt := 26) hx hb dX11_mend_21 (by decide) (fun c => absurd c (by decide)) (fun c => ?_)
      refine lv_iconst (v := (-1)) hx hb dX11_mend_24 (by decide) ?_
      exact hret _ _ _ _ (-1) f0X L0 Q0 dX11_mend_25 hP hS ⟨trivial, Or.inr (Or.inr (Or.inr (⟨rfl, by omega⟩)))⟩
  · skip
    have q_42 := hq
    have k_43 : (8 : Int32).toInt = 8 := (by decide)
    obtain rfl : x1 = 8 := Int32.toInt_inj.mp (by omega)
    have k_44 : (2 : Int32).toInt = 2 := (by decide)
    obtain rfl : x0 = 2 := Int32.toInt_inj.mp (by omega)
    refine lv_istore (lv' := [(4, .int 66), (0, .ref (h 0)), (1, .int 2), (2, .int 8), (3, .int x2)]) hx hb dX11_mend_9 hl (by decide) rfl (fun ls hl => ?_)
    refine lv_iload hx hb dX11_mend_11 (lv_at hl 0 rfl) ?_
    refine lv_if_lt (tgt := 24) hx hb dX11_mend_13 (by decide) (fun c => absurd c (by decide)) (fun c => ?_)
    refine lv_iload_n hx hb dX11_mend_16 rfl (lv_at hl 3 rfl) ?_
    refine lv_iload_n hx hb dX11_mend_17 rfl (lv_at hl 4 rfl) ?_
    refine sg_calli (va_runS (As := [.int 8, .int x2]) (rest := []) ⟨hx, hb, hml, hown, hts⟩ (cf_X11_fits_8 l D ca za h hh f0X L0 Q0 x2 H.size) (va_cwS 2 hts gX11_mend_X11_fits rfl rfl rfl (by decide +kernel) ⟨Nat.le_of_ble_eq_true rfl, Nat.le_of_ble_eq_true rfl⟩) (sg_preS hA hK hP hS hZ) rfl rfl hl.1 rfl (lv_room (Nat.le_of_ble_eq_true rfl)) dX11_mend_18 ⟨Nat.le_refl _, Nat.le_refl _⟩) hA hS (fun r_48 f_45 L_46 Q_47 H locs hq hP hS => ?_)
    obtain ⟨⟨ef9, eL9, eQ9⟩, hq⟩ := hq
    rw [ef9, eL9, eQ9] at hP; clear ef9 eL9 eQ9
    have k_49 : (8 : Int32).toInt = 8 := by decide
    rcases hq with ⟨rfl, hq⟩ | ⟨rfl, hq⟩
    · skip
      have q_50 := hq
      refine lv_if_ne (tgt := 26) hx hb dX11_mend_21 (by decide) (fun c => ?_) (fun c => absurd c (by decide))
      refine lv_aload_n hx hb dX11_mend_26 rfl (lv_at hl 1 rfl) ?_
      refine sg_get (ci := 11) (v := .ref (h 1)) (C := RX11) (T := TX11) (N := 10) hx hb hts (by decide +kernel) hown hK hP 0 (by decide) rfl rfl 0 (by decide) (hts (.fieldLink RX11 12 "SetAgain" "chair" "LSetAgain$Chair;") (by decide +kernel)) (fun _ h9 => h9) rfl dX11_mend_27 ?_
      refine sg_get (ci := 0) (v := .ref (h 2)) (C := RX0) (T := TX0) (N := 5) hx hb hts (by decide +kernel) hown hK hP 1 (by decide) rfl rfl 0 (by decide) (hts (.fieldLink RX11 112 "SetAgain$Chair" "told" "[I") (by decide +kernel)) (fun _ h9 => h9) rfl dX11_mend_30 ?_
      refine lv_iload hx hb dX11_mend_33 (lv_at hl 0 rfl) ?_
      refine sg_iald hx hb hK hP 2 (by decide) 0 rfl rfl (i := 66) (vp_in_iff.mpr (by decide)) dX11_mend_35 ?_
      refine W.eq (g2 := F0 m 36 ls [.int 0]) (by rw [show f0X 2 (Int32.toNatClampNeg 66) = 0 from rfl]) ?_
      refine lv_istore (lv' := [(5, .int 0), (4, .int 66), (0, .ref (h 0)), (1, .int 2), (2, .int 8), (3, .int x2)]) hx hb dX11_mend_36 hl (by decide) rfl (fun ls hl => ?_)
      refine lv_iload hx hb dX11_mend_38 (lv_at hl 0 rfl) ?_
      refine lv_iload_n hx hb dX11_mend_40 rfl (lv_at hl 5 rfl) ?_
      refine lv_icmp_eq (tgt := 66) hx hb dX11_mend_41 (by decide) (fun c => ?_) (fun c => ?_)
      · skip
        have c_51 : 0 = x2.toInt := (by have z := Int32.toInt_inj.mpr c; have k0 : (0 : Int32).toInt = 0 := (by decide); omega)
        refine lv_iload hx hb dX11_mend_66 (lv_at hl 0 rfl) ?_
        exact hret _ _ _ _ (0) f0X L0 Q0 dX11_mend_68 hP hS ⟨trivial, Or.inr (Or.inl ⟨rfl, by omega⟩)⟩
      · skip
        have c_52 : 0 ≠ x2.toInt := (by have z := bn_ne c; have k0 : (0 : Int32).toInt = 0 := (by decide); omega)
        refine lv_aload_n hx hb dX11_mend_44 rfl (lv_at hl 2 rfl) ?_
        refine sg_get (ci := 11) (v := .ref (h 32)) (C := RX11) (T := TX11) (N := 10) hx hb hts (by decide +kernel) hown hK hP 0 (by decide) rfl rfl 7 (by decide) (hts (.fieldLink RX11 67 "SetAgain" "changes" "LSetAgain$Changes;") (by decide +kernel)) (fun _ h9 => h9) rfl dX11_mend_45 ?_
        refine lv_iload hx hb dX11_mend_48 (lv_at hl 1 rfl) ?_
        refine lv_iload hx hb dX11_mend_50 (lv_at hl 0 rfl) ?_
        refine lv_iload_n hx hb dX11_mend_52 rfl (lv_at hl 5 rfl) ?_
        refine sg_callv (va_runV (As := [.int 66, .int 0, .int x2]) (rest := []) ⟨hx, hb, hml, hown, hts⟩ (cf_X1_comes l D ca za h hh f0X L0 Q0 66 0 x2 rfl H.size) (cwV 3 hts gX11_mend_X1_comes rfl rfl rfl (by decide +kernel) ⟨Nat.le_of_ble_eq_true rfl, Nat.le_of_ble_eq_true rfl⟩) (sg_preV (ci := 1) (C := RX1) (T := TX1) (N := 5) hA hK hP hS hZ 32 (by decide) rfl rfl) rfl rfl hl.1 rfl (lv_room (Nat.le_of_ble_eq_true rfl)) dX11_mend_53 ⟨Nat.le_refl _, Nat.le_refl _⟩) hA hS (fun f_53 L_54 Q_55 H locs hq hP hS => ?_)
        refine lv_aload_n hx hb dX11_mend_56 rfl (lv_at hl 2 rfl) ?_
        refine sg_get (ci := 11) (v := .ref (h 1)) (C := RX11) (T := TX11) (N := 10) hx hb hts (by decide +kernel) hown hK hP 0 (by decide) rfl rfl 0 (by decide) (hts (.fieldLink RX11 12 "SetAgain" "chair" "LSetAgain$Chair;") (by decide +kernel)) (fun _ h9 => h9) rfl dX11_mend_57 ?_
        refine lv_iload hx hb dX11_mend_60 (lv_at hl 1 rfl) ?_
        refine lv_iload_n hx hb dX11_mend_62 rfl (lv_at hl 5 rfl) ?_
        refine sg_callv (va_runV (As := [.int 66, .int x2]) (rest := []) ⟨hx, hb, hml, hown, hts⟩ (cf_X0_becomes l D ca za h hh f_53 L_54 Q_55 66 x2 (by first | omega | decide) H.size) (cwV 2 hts gX11_mend_X0_becomes rfl rfl rfl (by decide +kernel) ⟨Nat.le_of_ble_eq_true rfl, Nat.le_of_ble_eq_true rfl⟩) (sg_preV (ci := 0) (C := RX0) (T := TX0) (N := 5) hA hK hP hS hZ 1 (by decide) rfl rfl) rfl rfl hl.1 rfl (lv_room (Nat.le_of_ble_eq_true rfl)) dX11_mend_63 ⟨Nat.le_refl _, Nat.le_refl _⟩) hA hS (fun f_56 L_57 Q_58 H locs hq hP hS => ?_)
        refine lv_iload hx hb dX11_mend_66 (lv_at hl 0 rfl) ?_
        exact hret _ _ _ _ (0) f_56 L_57 Q_58 dX11_mend_68 hP hS ⟨trivial, Or.inr (Or.inl ⟨rfl, by omega⟩)⟩
    · skip
      have q_59 := hq
      refine lv_if_ne (tgt := 26) hx hb dX11_mend_21 (by decide) (fun c => absurd c (by decide)) (fun c => ?_)
      refine lv_iconst (v := (-1)) hx hb dX11_mend_24 (by decide) ?_
      exact hret _ _ _ _ (-1) f0X L0 Q0 dX11_mend_25 hP hS ⟨trivial, Or.inr (Or.inr (Or.inr (⟨rfl, by omega⟩)))⟩
  · skip
    have q_60 := hq
    have k_61 : (9 : Int32).toInt = 9 := (by decide)
    obtain rfl : x1 = 9 := Int32.toInt_inj.mp (by omega)
    have k_62 : (0 : Int32).toInt = 0 := (by decide)
    obtain rfl : x0 = 0 := Int32.toInt_inj.mp (by omega)
    refine lv_istore (lv' := [(4, .int 67), (0, .ref (h 0)), (1, .int 0), (2, .int 9), (3, .int x2)]) hx hb dX11_mend_9 hl (by decide) rfl (fun ls hl => ?_)
    refine lv_iload hx hb dX11_mend_11 (lv_at hl 0 rfl) ?_
    refine lv_if_lt (tgt := 24) hx hb dX11_mend_13 (by decide) (fun c => absurd c (by decide)) (fun c => ?_)
    refine lv_iload_n hx hb dX11_mend_16 rfl (lv_at hl 3 rfl) ?_
    refine lv_iload_n hx hb dX11_mend_17 rfl (lv_at hl 4 rfl) ?_
    refine sg_calli (va_runS (As := [.int 9, .int x2]) (rest := []) ⟨hx, hb, hml, hown, hts⟩ (cf_X11_fits_9 l D ca za h hh f0X L0 Q0 x2 H.size) (va_cwS 2 hts gX11_mend_X11_fits rfl rfl rfl (by decide +kernel) ⟨Nat.le_of_ble_eq_true rfl, Nat.le_of_ble_eq_true rfl⟩) (sg_preS hA hK hP hS hZ) rfl rfl hl.1 rfl (lv_room (Nat.le_of_ble_eq_true rfl)) dX11_mend_18 ⟨Nat.le_refl _, Nat.le_refl _⟩) hA hS (fun r_66 f_63 L_64 Q_65 H locs hq hP hS => ?_)
    obtain ⟨⟨ef9, eL9, eQ9⟩, hq⟩ := hq
    rw [ef9, eL9, eQ9] at hP; clear ef9 eL9 eQ9
    have k_67 : (9 : Int32).toInt = 9 := by decide
    rcases hq with ⟨rfl, hq⟩ | ⟨rfl, hq⟩
    · skip
      have q_68 := hq
      refine lv_if_ne (tgt := 26) hx hb dX11_mend_21 (by decide) (fun c => ?_) (fun c => absurd c (by decide))
      refine lv_aload_n hx hb dX11_mend_26 rfl (lv_at hl 1 rfl) ?_
      refine sg_get (ci := 11) (v := .ref (h 1)) (C := RX11) (T := TX11) (N := 10) hx hb hts (by decide +kernel) hown hK hP 0 (by decide) rfl rfl 0 (by decide) (hts (.fieldLink RX11 12 "SetAgain" "chair" "LSetAgain$Chair;") (by decide +kernel)) (fun _ h9 => h9) rfl dX11_mend_27 ?_
      refine sg_get (ci := 0) (v := .ref (h 2)) (C := RX0) (T := TX0) (N := 5) hx hb hts (by decide +kernel) hown hK hP 1 (by decide) rfl rfl 0 (by decide) (hts (.fieldLink RX11 112 "SetAgain$Chair" "told" "[I") (by decide +kernel)) (fun _ h9 => h9) rfl dX11_mend_30 ?_
      refine lv_iload hx hb dX11_mend_33 (lv_at hl 0 rfl) ?_
      refine sg_iald hx hb hK hP 2 (by decide) 0 rfl rfl (i := 67) (vp_in_iff.mpr (by decide)) dX11_mend_35 ?_
      refine W.eq (g2 := F0 m 36 ls [.int 1]) (by rw [show f0X 2 (Int32.toNatClampNeg 67) = 1 from rfl]) ?_
      refine lv_istore (lv' := [(5, .int 1), (4, .int 67), (0, .ref (h 0)), (1, .int 0), (2, .int 9), (3, .int x2)]) hx hb dX11_mend_36 hl (by decide) rfl (fun ls hl => ?_)
      refine lv_iload hx hb dX11_mend_38 (lv_at hl 0 rfl) ?_
      refine lv_iload_n hx hb dX11_mend_40 rfl (lv_at hl 5 rfl) ?_
      refine lv_icmp_eq (tgt := 66) hx hb dX11_mend_41 (by decide) (fun c => ?_) (fun c => ?_)
      · skip
        have c_69 : 1 = x2.toInt := (by have z := Int32.toInt_inj.mpr c; have k0 : (1 : Int32).toInt = 1 := (by decide); omega)
        refine lv_iload hx hb dX11_mend_66 (lv_at hl 0 rfl) ?_
        exact hret _ _ _ _ (1) f0X L0 Q0 dX11_mend_68 hP hS ⟨trivial, Or.inl ⟨rfl, by omega⟩⟩
      · skip
        have c_70 : 1 ≠ x2.toInt := (by have z := bn_ne c; have k0 : (1 : Int32).toInt = 1 := (by decide); omega)
        refine lv_aload_n hx hb dX11_mend_44 rfl (lv_at hl 2 rfl) ?_
        refine sg_get (ci := 11) (v := .ref (h 32)) (C := RX11) (T := TX11) (N := 10) hx hb hts (by decide +kernel) hown hK hP 0 (by decide) rfl rfl 7 (by decide) (hts (.fieldLink RX11 67 "SetAgain" "changes" "LSetAgain$Changes;") (by decide +kernel)) (fun _ h9 => h9) rfl dX11_mend_45 ?_
        refine lv_iload hx hb dX11_mend_48 (lv_at hl 1 rfl) ?_
        refine lv_iload hx hb dX11_mend_50 (lv_at hl 0 rfl) ?_
        refine lv_iload_n hx hb dX11_mend_52 rfl (lv_at hl 5 rfl) ?_
        refine sg_callv (va_runV (As := [.int 67, .int 1, .int x2]) (rest := []) ⟨hx, hb, hml, hown, hts⟩ (cf_X1_comes l D ca za h hh f0X L0 Q0 67 1 x2 rfl H.size) (cwV 3 hts gX11_mend_X1_comes rfl rfl rfl (by decide +kernel) ⟨Nat.le_of_ble_eq_true rfl, Nat.le_of_ble_eq_true rfl⟩) (sg_preV (ci := 1) (C := RX1) (T := TX1) (N := 5) hA hK hP hS hZ 32 (by decide) rfl rfl) rfl rfl hl.1 rfl (lv_room (Nat.le_of_ble_eq_true rfl)) dX11_mend_53 ⟨Nat.le_refl _, Nat.le_refl _⟩) hA hS (fun f_71 L_72 Q_73 H locs hq hP hS => ?_)
        refine lv_aload_n hx hb dX11_mend_56 rfl (lv_at hl 2 rfl) ?_
        refine sg_get (ci := 11) (v := .ref (h 1)) (C := RX11) (T := TX11) (N := 10) hx hb hts (by decide +kernel) hown hK hP 0 (by decide) rfl rfl 0 (by decide) (hts (.fieldLink RX11 12 "SetAgain" "chair" "LSetAgain$Chair;") (by decide +kernel)) (fun _ h9 => h9) rfl dX11_mend_57 ?_
        refine lv_iload hx hb dX11_mend_60 (lv_at hl 1 rfl) ?_
        refine lv_iload_n hx hb dX11_mend_62 rfl (lv_at hl 5 rfl) ?_
        refine sg_callv (va_runV (As := [.int 67, .int x2]) (rest := []) ⟨hx, hb, hml, hown, hts⟩ (cf_X0_becomes l D ca za h hh f_71 L_72 Q_73 67 x2 (by first | omega | decide) H.size) (cwV 2 hts gX11_mend_X0_becomes rfl rfl rfl (by decide +kernel) ⟨Nat.le_of_ble_eq_true rfl, Nat.le_of_ble_eq_true rfl⟩) (sg_preV (ci := 0) (C := RX0) (T := TX0) (N := 5) hA hK hP hS hZ 1 (by decide) rfl rfl) rfl rfl hl.1 rfl (lv_room (Nat.le_of_ble_eq_true rfl)) dX11_mend_63 ⟨Nat.le_refl _, Nat.le_refl _⟩) hA hS (fun f_74 L_75 Q_76 H locs hq hP hS => ?_)
        refine lv_iload hx hb dX11_mend_66 (lv_at hl 0 rfl) ?_
        exact hret _ _ _ _ (1) f_74 L_75 Q_76 dX11_mend_68 hP hS ⟨trivial, Or.inl ⟨rfl, by omega⟩⟩
    · skip
      have q_77 := hq
      refine lv_if_ne (tgt := 26) hx hb dX11_mend_21 (by decide) (fun c => absurd c (by decide)) (fun c => ?_)
      refine lv_iconst (v := (-1)) hx hb dX11_mend_24 (by decide) ?_
      exact hret _ _ _ _ (-1) f0X L0 Q0 dX11_mend_25 hP hS ⟨trivial, Or.inr (Or.inr (Or.inr (⟨rfl, by omega⟩)))⟩
  · skip
    have q_78 := hq
    have k_79 : (9 : Int32).toInt = 9 := (by decide)
    obtain rfl : x1 = 9 := Int32.toInt_inj.mp (by omega)
    have k_80 : (1 : Int32).toInt = 1 := (by decide)
    obtain rfl : x0 = 1 := Int32.toInt_inj.mp (by omega)
    refine lv_istore (lv' := [(4, .int 68), (0, .ref (h 0)), (1, .int 1), (2, .int 9), (3, .int x2)]) hx hb dX11_mend_9 hl (by decide) rfl (fun ls hl => ?_)
    refine lv_iload hx hb dX11_mend_11 (lv_at hl 0 rfl) ?_
    refine lv_if_lt (tgt := 24) hx hb dX11_mend_13 (by decide) (fun c => absurd c (by decide)) (fun c => ?_)
    refine lv_iload_n hx hb dX11_mend_16 rfl (lv_at hl 3 rfl) ?_
    refine lv_iload_n hx hb dX11_mend_17 rfl (lv_at hl 4 rfl) ?_
    refine sg_calli (va_runS (As := [.int 9, .int x2]) (rest := []) ⟨hx, hb, hml, hown, hts⟩ (cf_X11_fits_9 l D ca za h hh f0X L0 Q0 x2 H.size) (va_cwS 2 hts gX11_mend_X11_fits rfl rfl rfl (by decide +kernel) ⟨Nat.le_of_ble_eq_true rfl, Nat.le_of_ble_eq_true rfl⟩) (sg_preS hA hK hP hS hZ) rfl rfl hl.1 rfl (lv_room (Nat.le_of_ble_eq_true rfl)) dX11_mend_18 ⟨Nat.le_refl _, Nat.le_refl _⟩) hA hS (fun r_84 f_81 L_82 Q_83 H locs hq hP hS => ?_)
    obtain ⟨⟨ef9, eL9, eQ9⟩, hq⟩ := hq
    rw [ef9, eL9, eQ9] at hP; clear ef9 eL9 eQ9
    have k_85 : (9 : Int32).toInt = 9 := by decide
    rcases hq with ⟨rfl, hq⟩ | ⟨rfl, hq⟩
    · skip
      have q_86 := hq
      refine lv_if_ne (tgt := 26) hx hb dX11_mend_21 (by decide) (fun c => ?_) (fun c => absurd c (by decide))
      refine lv_aload_n hx hb dX11_mend_26 rfl (lv_at hl 1 rfl) ?_
      refine sg_get (ci := 11) (v := .ref (h 1)) (C := RX11) (T := TX11) (N := 10) hx hb hts (by decide +kernel) hown hK hP 0 (by decide) rfl rfl 0 (by decide) (hts (.fieldLink RX11 12 "SetAgain" "chair" "LSetAgain$Chair;") (by decide +kernel)) (fun _ h9 => h9) rfl dX11_mend_27 ?_
      refine sg_get (ci := 0) (v := .ref (h 2)) (C := RX0) (T := TX0) (N := 5) hx hb hts (by decide +kernel) hown hK hP 1 (by decide) rfl rfl 0 (by decide) (hts (.fieldLink RX11 112 "SetAgain$Chair" "told" "[I") (by decide +kernel)) (fun _ h9 => h9) rfl dX11_mend_30 ?_
      refine lv_iload hx hb dX11_mend_33 (lv_at hl 0 rfl) ?_
      refine sg_iald hx hb hK hP 2 (by decide) 0 rfl rfl (i := 68) (vp_in_iff.mpr (by decide)) dX11_mend_35 ?_
      refine W.eq (g2 := F0 m 36 ls [.int 1]) (by rw [show f0X 2 (Int32.toNatClampNeg 68) = 1 from rfl]) ?_
      refine lv_istore (lv' := [(5, .int 1), (4, .int 68), (0, .ref (h 0)), (1, .int 1), (2, .int 9), (3, .int x2)]) hx hb dX11_mend_36 hl (by decide) rfl (fun ls hl => ?_)
      refine lv_iload hx hb dX11_mend_38 (lv_at hl 0 rfl) ?_
      refine lv_iload_n hx hb dX11_mend_40 rfl (lv_at hl 5 rfl) ?_
      refine lv_icmp_eq (tgt := 66) hx hb dX11_mend_41 (by decide) (fun c => ?_) (fun c => ?_)
      · skip
        have c_87 : 1 = x2.toInt := (by have z := Int32.toInt_inj.mpr c; have k0 : (1 : Int32).toInt = 1 := (by decide); omega)
        refine lv_iload hx hb dX11_mend_66 (lv_at hl 0 rfl) ?_
        exact hret _ _ _ _ (1) f0X L0 Q0 dX11_mend_68 hP hS ⟨trivial, Or.inl ⟨rfl, by omega⟩⟩
      · skip
        have c_88 : 1 ≠ x2.toInt := (by have z := bn_ne c; have k0 : (1 : Int32).toInt = 1 := (by decide); omega)
        refine lv_aload_n hx hb dX11_mend_44 rfl (lv_at hl 2 rfl) ?_
        refine sg_get (ci := 11) (v := .ref (h 32)) (C := RX11) (T := TX11) (N := 10) hx hb hts (by decide +kernel) hown hK hP 0 (by decide) rfl rfl 7 (by decide) (hts (.fieldLink RX11 67 "SetAgain" "changes" "LSetAgain$Changes;") (by decide +kernel)) (fun _ h9 => h9) rfl dX11_mend_45 ?_
        refine lv_iload hx hb dX11_mend_48 (lv_at hl 1 rfl) ?_
        refine lv_iload hx hb dX11_mend_50 (lv_at hl 0 rfl) ?_
        refine lv_iload_n hx hb dX11_mend_52 rfl (lv_at hl 5 rfl) ?_
        refine sg_callv (va_runV (As := [.int 68, .int 1, .int x2]) (rest := []) ⟨hx, hb, hml, hown, hts⟩ (cf_X1_comes l D ca za h hh f0X L0 Q0 68 1 x2 rfl H.size) (cwV 3 hts gX11_mend_X1_comes rfl rfl rfl (by decide +kernel) ⟨Nat.le_of_ble_eq_true rfl, Nat.le_of_ble_eq_true rfl⟩) (sg_preV (ci := 1) (C := RX1) (T := TX1) (N := 5) hA hK hP hS hZ 32 (by decide) rfl rfl) rfl rfl hl.1 rfl (lv_room (Nat.le_of_ble_eq_true rfl)) dX11_mend_53 ⟨Nat.le_refl _, Nat.le_refl _⟩) hA hS (fun f_89 L_90 Q_91 H locs hq hP hS => ?_)
        refine lv_aload_n hx hb dX11_mend_56 rfl (lv_at hl 2 rfl) ?_
        refine sg_get (ci := 11) (v := .ref (h 1)) (C := RX11) (T := TX11) (N := 10) hx hb hts (by decide +kernel) hown hK hP 0 (by decide) rfl rfl 0 (by decide) (hts (.fieldLink RX11 12 "SetAgain" "chair" "LSetAgain$Chair;") (by decide +kernel)) (fun _ h9 => h9) rfl dX11_mend_57 ?_
        refine lv_iload hx hb dX11_mend_60 (lv_at hl 1 rfl) ?_
        refine lv_iload_n hx hb dX11_mend_62 rfl (lv_at hl 5 rfl) ?_
        refine sg_callv (va_runV (As := [.int 68, .int x2]) (rest := []) ⟨hx, hb, hml, hown, hts⟩ (cf_X0_becomes l D ca za h hh f_89 L_90 Q_91 68 x2 (by first | omega | decide) H.size) (cwV 2 hts gX11_mend_X0_becomes rfl rfl rfl (by decide +kernel) ⟨Nat.le_of_ble_eq_true rfl, Nat.le_of_ble_eq_true rfl⟩) (sg_preV (ci := 0) (C := RX0) (T := TX0) (N := 5) hA hK hP hS hZ 1 (by decide) rfl rfl) rfl rfl hl.1 rfl (lv_room (Nat.le_of_ble_eq_true rfl)) dX11_mend_63 ⟨Nat.le_refl _, Nat.le_refl _⟩) hA hS (fun f_92 L_93 Q_94 H locs hq hP hS => ?_)
        refine lv_iload hx hb dX11_mend_66 (lv_at hl 0 rfl) ?_
        exact hret _ _ _ _ (1) f_92 L_93 Q_94 dX11_mend_68 hP hS ⟨trivial, Or.inl ⟨rfl, by omega⟩⟩
    · skip
      have q_95 := hq
      refine lv_if_ne (tgt := 26) hx hb dX11_mend_21 (by decide) (fun c => absurd c (by decide)) (fun c => ?_)
      refine lv_iconst (v := (-1)) hx hb dX11_mend_24 (by decide) ?_
      exact hret _ _ _ _ (-1) f0X L0 Q0 dX11_mend_25 hP hS ⟨trivial, Or.inr (Or.inr (Or.inr (⟨rfl, by omega⟩)))⟩
  · skip
    have q_96 := hq
    have k_97 : (9 : Int32).toInt = 9 := (by decide)
    obtain rfl : x1 = 9 := Int32.toInt_inj.mp (by omega)
    have k_98 : (2 : Int32).toInt = 2 := (by decide)
    obtain rfl : x0 = 2 := Int32.toInt_inj.mp (by omega)
    refine lv_istore (lv' := [(4, .int 69), (0, .ref (h 0)), (1, .int 2), (2, .int 9), (3, .int x2)]) hx hb dX11_mend_9 hl (by decide) rfl (fun ls hl => ?_)
    refine lv_iload hx hb dX11_mend_11 (lv_at hl 0 rfl) ?_
    refine lv_if_lt (tgt := 24) hx hb dX11_mend_13 (by decide) (fun c => absurd c (by decide)) (fun c => ?_)
    refine lv_iload_n hx hb dX11_mend_16 rfl (lv_at hl 3 rfl) ?_
    refine lv_iload_n hx hb dX11_mend_17 rfl (lv_at hl 4 rfl) ?_
    refine sg_calli (va_runS (As := [.int 9, .int x2]) (rest := []) ⟨hx, hb, hml, hown, hts⟩ (cf_X11_fits_9 l D ca za h hh f0X L0 Q0 x2 H.size) (va_cwS 2 hts gX11_mend_X11_fits rfl rfl rfl (by decide +kernel) ⟨Nat.le_of_ble_eq_true rfl, Nat.le_of_ble_eq_true rfl⟩) (sg_preS hA hK hP hS hZ) rfl rfl hl.1 rfl (lv_room (Nat.le_of_ble_eq_true rfl)) dX11_mend_18 ⟨Nat.le_refl _, Nat.le_refl _⟩) hA hS (fun r_102 f_99 L_100 Q_101 H locs hq hP hS => ?_)
    obtain ⟨⟨ef9, eL9, eQ9⟩, hq⟩ := hq
    rw [ef9, eL9, eQ9] at hP; clear ef9 eL9 eQ9
    have k_103 : (9 : Int32).toInt = 9 := by decide
    rcases hq with ⟨rfl, hq⟩ | ⟨rfl, hq⟩
    · skip
      have q_104 := hq
      refine lv_if_ne (tgt := 26) hx hb dX11_mend_21 (by decide) (fun c => ?_) (fun c => absurd c (by decide))
      refine lv_aload_n hx hb dX11_mend_26 rfl (lv_at hl 1 rfl) ?_
      refine sg_get (ci := 11) (v := .ref (h 1)) (C := RX11) (T := TX11) (N := 10) hx hb hts (by decide +kernel) hown hK hP 0 (by decide) rfl rfl 0 (by decide) (hts (.fieldLink RX11 12 "SetAgain" "chair" "LSetAgain$Chair;") (by decide +kernel)) (fun _ h9 => h9) rfl dX11_mend_27 ?_
      refine sg_get (ci := 0) (v := .ref (h 2)) (C := RX0) (T := TX0) (N := 5) hx hb hts (by decide +kernel) hown hK hP 1 (by decide) rfl rfl 0 (by decide) (hts (.fieldLink RX11 112 "SetAgain$Chair" "told" "[I") (by decide +kernel)) (fun _ h9 => h9) rfl dX11_mend_30 ?_
      refine lv_iload hx hb dX11_mend_33 (lv_at hl 0 rfl) ?_
      refine sg_iald hx hb hK hP 2 (by decide) 0 rfl rfl (i := 69) (vp_in_iff.mpr (by decide)) dX11_mend_35 ?_
      refine W.eq (g2 := F0 m 36 ls [.int 1]) (by rw [show f0X 2 (Int32.toNatClampNeg 69) = 1 from rfl]) ?_
      refine lv_istore (lv' := [(5, .int 1), (4, .int 69), (0, .ref (h 0)), (1, .int 2), (2, .int 9), (3, .int x2)]) hx hb dX11_mend_36 hl (by decide) rfl (fun ls hl => ?_)
      refine lv_iload hx hb dX11_mend_38 (lv_at hl 0 rfl) ?_
      refine lv_iload_n hx hb dX11_mend_40 rfl (lv_at hl 5 rfl) ?_
      refine lv_icmp_eq (tgt := 66) hx hb dX11_mend_41 (by decide) (fun c => ?_) (fun c => ?_)
      · skip
        have c_105 : 1 = x2.toInt := (by have z := Int32.toInt_inj.mpr c; have k0 : (1 : Int32).toInt = 1 := (by decide); omega)
        refine lv_iload hx hb dX11_mend_66 (lv_at hl 0 rfl) ?_
        exact hret _ _ _ _ (1) f0X L0 Q0 dX11_mend_68 hP hS ⟨trivial, Or.inl ⟨rfl, by omega⟩⟩
      · skip
        have c_106 : 1 ≠ x2.toInt := (by have z := bn_ne c; have k0 : (1 : Int32).toInt = 1 := (by decide); omega)
        refine lv_aload_n hx hb dX11_mend_44 rfl (lv_at hl 2 rfl) ?_
        refine sg_get (ci := 11) (v := .ref (h 32)) (C := RX11) (T := TX11) (N := 10) hx hb hts (by decide +kernel) hown hK hP 0 (by decide) rfl rfl 7 (by decide) (hts (.fieldLink RX11 67 "SetAgain" "changes" "LSetAgain$Changes;") (by decide +kernel)) (fun _ h9 => h9) rfl dX11_mend_45 ?_
        refine lv_iload hx hb dX11_mend_48 (lv_at hl 1 rfl) ?_
        refine lv_iload hx hb dX11_mend_50 (lv_at hl 0 rfl) ?_
        refine lv_iload_n hx hb dX11_mend_52 rfl (lv_at hl 5 rfl) ?_
        refine sg_callv (va_runV (As := [.int 69, .int 1, .int x2]) (rest := []) ⟨hx, hb, hml, hown, hts⟩ (cf_X1_comes l D ca za h hh f0X L0 Q0 69 1 x2 rfl H.size) (cwV 3 hts gX11_mend_X1_comes rfl rfl rfl (by decide +kernel) ⟨Nat.le_of_ble_eq_true rfl, Nat.le_of_ble_eq_true rfl⟩) (sg_preV (ci := 1) (C := RX1) (T := TX1) (N := 5) hA hK hP hS hZ 32 (by decide) rfl rfl) rfl rfl hl.1 rfl (lv_room (Nat.le_of_ble_eq_true rfl)) dX11_mend_53 ⟨Nat.le_refl _, Nat.le_refl _⟩) hA hS (fun f_107 L_108 Q_109 H locs hq hP hS => ?_)
        refine lv_aload_n hx hb dX11_mend_56 rfl (lv_at hl 2 rfl) ?_
        refine sg_get (ci := 11) (v := .ref (h 1)) (C := RX11) (T := TX11) (N := 10) hx hb hts (by decide +kernel) hown hK hP 0 (by decide) rfl rfl 0 (by decide) (hts (.fieldLink RX11 12 "SetAgain" "chair" "LSetAgain$Chair;") (by decide +kernel)) (fun _ h9 => h9) rfl dX11_mend_57 ?_
        refine lv_iload hx hb dX11_mend_60 (lv_at hl 1 rfl) ?_
        refine lv_iload_n hx hb dX11_mend_62 rfl (lv_at hl 5 rfl) ?_
        refine sg_callv (va_runV (As := [.int 69, .int x2]) (rest := []) ⟨hx, hb, hml, hown, hts⟩ (cf_X0_becomes l D ca za h hh f_107 L_108 Q_109 69 x2 (by first | omega | decide) H.size) (cwV 2 hts gX11_mend_X0_becomes rfl rfl rfl (by decide +kernel) ⟨Nat.le_of_ble_eq_true rfl, Nat.le_of_ble_eq_true rfl⟩) (sg_preV (ci := 0) (C := RX0) (T := TX0) (N := 5) hA hK hP hS hZ 1 (by decide) rfl rfl) rfl rfl hl.1 rfl (lv_room (Nat.le_of_ble_eq_true rfl)) dX11_mend_63 ⟨Nat.le_refl _, Nat.le_refl _⟩) hA hS (fun f_110 L_111 Q_112 H locs hq hP hS => ?_)
        refine lv_iload hx hb dX11_mend_66 (lv_at hl 0 rfl) ?_
        exact hret _ _ _ _ (1) f_110 L_111 Q_112 dX11_mend_68 hP hS ⟨trivial, Or.inl ⟨rfl, by omega⟩⟩
    · skip
      have q_113 := hq
      refine lv_if_ne (tgt := 26) hx hb dX11_mend_21 (by decide) (fun c => absurd c (by decide)) (fun c => ?_)
      refine lv_iconst (v := (-1)) hx hb dX11_mend_24 (by decide) ?_
      exact hret _ _ _ _ (-1) f0X L0 Q0 dX11_mend_25 hP hS ⟨trivial, Or.inr (Or.inr (Or.inr (⟨rfl, by omega⟩)))⟩
  · skip
    have q_114 := hq
    have k_115 : (10 : Int32).toInt = 10 := (by decide)
    obtain rfl : x1 = 10 := Int32.toInt_inj.mp (by omega)
    have k_116 : (0 : Int32).toInt = 0 := (by decide)
    obtain rfl : x0 = 0 := Int32.toInt_inj.mp (by omega)
    refine lv_istore (lv' := [(4, .int 70), (0, .ref (h 0)), (1, .int 0), (2, .int 10), (3, .int x2)]) hx hb dX11_mend_9 hl (by decide) rfl (fun ls hl => ?_)
    refine lv_iload hx hb dX11_mend_11 (lv_at hl 0 rfl) ?_
    refine lv_if_lt (tgt := 24) hx hb dX11_mend_13 (by decide) (fun c => absurd c (by decide)) (fun c => ?_)
    refine lv_iload_n hx hb dX11_mend_16 rfl (lv_at hl 3 rfl) ?_
    refine lv_iload_n hx hb dX11_mend_17 rfl (lv_at hl 4 rfl) ?_
    refine sg_calli (va_runS (As := [.int 10, .int x2]) (rest := []) ⟨hx, hb, hml, hown, hts⟩ (cf_X11_fits_10 l D ca za h hh f0X L0 Q0 x2 H.size) (va_cwS 2 hts gX11_mend_X11_fits rfl rfl rfl (by decide +kernel) ⟨Nat.le_of_ble_eq_true rfl, Nat.le_of_ble_eq_true rfl⟩) (sg_preS hA hK hP hS hZ) rfl rfl hl.1 rfl (lv_room (Nat.le_of_ble_eq_true rfl)) dX11_mend_18 ⟨Nat.le_refl _, Nat.le_refl _⟩) hA hS (fun r_120 f_117 L_118 Q_119 H locs hq hP hS => ?_)
    obtain ⟨⟨ef9, eL9, eQ9⟩, hq⟩ := hq
    rw [ef9, eL9, eQ9] at hP; clear ef9 eL9 eQ9
    have k_121 : (10 : Int32).toInt = 10 := by decide
    rcases hq with ⟨rfl, hq⟩ | ⟨rfl, hq⟩
    · skip
      have q_122 := hq
      refine lv_if_ne (tgt := 26) hx hb dX11_mend_21 (by decide) (fun c => ?_) (fun c => absurd c (by decide))
      refine lv_aload_n hx hb dX11_mend_26 rfl (lv_at hl 1 rfl) ?_
      refine sg_get (ci := 11) (v := .ref (h 1)) (C := RX11) (T := TX11) (N := 10) hx hb hts (by decide +kernel) hown hK hP 0 (by decide) rfl rfl 0 (by decide) (hts (.fieldLink RX11 12 "SetAgain" "chair" "LSetAgain$Chair;") (by decide +kernel)) (fun _ h9 => h9) rfl dX11_mend_27 ?_
      refine sg_get (ci := 0) (v := .ref (h 2)) (C := RX0) (T := TX0) (N := 5) hx hb hts (by decide +kernel) hown hK hP 1 (by decide) rfl rfl 0 (by decide) (hts (.fieldLink RX11 112 "SetAgain$Chair" "told" "[I") (by decide +kernel)) (fun _ h9 => h9) rfl dX11_mend_30 ?_
      refine lv_iload hx hb dX11_mend_33 (lv_at hl 0 rfl) ?_
      refine sg_iald hx hb hK hP 2 (by decide) 0 rfl rfl (i := 70) (vp_in_iff.mpr (by decide)) dX11_mend_35 ?_
      refine W.eq (g2 := F0 m 36 ls [.int 3]) (by rw [show f0X 2 (Int32.toNatClampNeg 70) = 3 from rfl]) ?_
      refine lv_istore (lv' := [(5, .int 3), (4, .int 70), (0, .ref (h 0)), (1, .int 0), (2, .int 10), (3, .int x2)]) hx hb dX11_mend_36 hl (by decide) rfl (fun ls hl => ?_)
      refine lv_iload hx hb dX11_mend_38 (lv_at hl 0 rfl) ?_
      refine lv_iload_n hx hb dX11_mend_40 rfl (lv_at hl 5 rfl) ?_
      refine lv_icmp_eq (tgt := 66) hx hb dX11_mend_41 (by decide) (fun c => ?_) (fun c => ?_)
      · skip
        have c_123 : 3 = x2.toInt := (by have z := Int32.toInt_inj.mpr c; have k0 : (3 : Int32).toInt = 3 := (by decide); omega)
        refine lv_iload hx hb dX11_mend_66 (lv_at hl 0 rfl) ?_
        exact hret _ _ _ _ (3) f0X L0 Q0 dX11_mend_68 hP hS ⟨trivial, Or.inr (Or.inr (Or.inl ⟨rfl, by omega⟩))⟩
      · skip
        have c_124 : 3 ≠ x2.toInt := (by have z := bn_ne c; have k0 : (3 : Int32).toInt = 3 := (by decide); omega)
        refine lv_aload_n hx hb dX11_mend_44 rfl (lv_at hl 2 rfl) ?_
        refine sg_get (ci := 11) (v := .ref (h 32)) (C := RX11) (T := TX11) (N := 10) hx hb hts (by decide +kernel) hown hK hP 0 (by decide) rfl rfl 7 (by decide) (hts (.fieldLink RX11 67 "SetAgain" "changes" "LSetAgain$Changes;") (by decide +kernel)) (fun _ h9 => h9) rfl dX11_mend_45 ?_
        refine lv_iload hx hb dX11_mend_48 (lv_at hl 1 rfl) ?_
        refine lv_iload hx hb dX11_mend_50 (lv_at hl 0 rfl) ?_
        refine lv_iload_n hx hb dX11_mend_52 rfl (lv_at hl 5 rfl) ?_
        refine sg_callv (va_runV (As := [.int 70, .int 3, .int x2]) (rest := []) ⟨hx, hb, hml, hown, hts⟩ (cf_X1_comes l D ca za h hh f0X L0 Q0 70 3 x2 rfl H.size) (cwV 3 hts gX11_mend_X1_comes rfl rfl rfl (by decide +kernel) ⟨Nat.le_of_ble_eq_true rfl, Nat.le_of_ble_eq_true rfl⟩) (sg_preV (ci := 1) (C := RX1) (T := TX1) (N := 5) hA hK hP hS hZ 32 (by decide) rfl rfl) rfl rfl hl.1 rfl (lv_room (Nat.le_of_ble_eq_true rfl)) dX11_mend_53 ⟨Nat.le_refl _, Nat.le_refl _⟩) hA hS (fun f_125 L_126 Q_127 H locs hq hP hS => ?_)
        refine lv_aload_n hx hb dX11_mend_56 rfl (lv_at hl 2 rfl) ?_
        refine sg_get (ci := 11) (v := .ref (h 1)) (C := RX11) (T := TX11) (N := 10) hx hb hts (by decide +kernel) hown hK hP 0 (by decide) rfl rfl 0 (by decide) (hts (.fieldLink RX11 12 "SetAgain" "chair" "LSetAgain$Chair;") (by decide +kernel)) (fun _ h9 => h9) rfl dX11_mend_57 ?_
        refine lv_iload hx hb dX11_mend_60 (lv_at hl 1 rfl) ?_
        refine lv_iload_n hx hb dX11_mend_62 rfl (lv_at hl 5 rfl) ?_
        refine sg_callv (va_runV (As := [.int 70, .int x2]) (rest := []) ⟨hx, hb, hml, hown, hts⟩ (cf_X0_becomes l D ca za h hh f_125 L_126 Q_127 70 x2 (by first | omega | decide) H.size) (cwV 2 hts gX11_mend_X0_becomes rfl rfl rfl (by decide +kernel) ⟨Nat.le_of_ble_eq_true rfl, Nat.le_of_ble_eq_true rfl⟩) (sg_preV (ci := 0) (C := RX0) (T := TX0) (N := 5) hA hK hP hS hZ 1 (by decide) rfl rfl) rfl rfl hl.1 rfl (lv_room (Nat.le_of_ble_eq_true rfl)) dX11_mend_63 ⟨Nat.le_refl _, Nat.le_refl _⟩) hA hS (fun f_128 L_129 Q_130 H locs hq hP hS => ?_)
        refine lv_iload hx hb dX11_mend_66 (lv_at hl 0 rfl) ?_
        exact hret _ _ _ _ (3) f_128 L_129 Q_130 dX11_mend_68 hP hS ⟨trivial, Or.inr (Or.inr (Or.inl ⟨rfl, by omega⟩))⟩
    · skip
      have q_131 := hq
      refine lv_if_ne (tgt := 26) hx hb dX11_mend_21 (by decide) (fun c => absurd c (by decide)) (fun c => ?_)
      refine lv_iconst (v := (-1)) hx hb dX11_mend_24 (by decide) ?_
      exact hret _ _ _ _ (-1) f0X L0 Q0 dX11_mend_25 hP hS ⟨trivial, Or.inr (Or.inr (Or.inr (⟨rfl, by omega⟩)))⟩

set_option maxHeartbeats 4000000 in
set_option maxRecDepth 100000 in
theorem cf_X11_of (l : Launch) (D : va_G) (ca : Nat → ClassId) (za h : Nat → Nat) (hh : sgH 52 h) (x0 : Int32) (x1 : Int32) (sz : Nat) : Met l yX11_of wsX11_of { frames := 1, cells := 0, slots := 0, locals := 22 } (sgP D vwCl (tyX ca) 52 h (eX ca h) zcX za f0X L0 Q0 sz [.ref (h 0), .int x0, .int x1]) (sgQi D vwCl 52 h (eX ca h) sz (fun r f1 L1 Q1 => True ∧ ((r = 30 ∧ (x1.toInt = 11 ∧ 0 ≤ x0.toInt ∧ x0.toInt ≤ 2)) ∨ (r = 1 ∧ (x1.toInt = 9 ∧ 0 ≤ x0.toInt ∧ x0.toInt ≤ 2)) ∨ (r = 0 ∧ (x1.toInt = 8 ∧ 0 ≤ x0.toInt ∧ x0.toInt ≤ 2)) ∨ (r = 3 ∧ (x1.toInt = 10 ∧ x0.toInt = 0)) ∨ (r = (-1) ∧ (¬ (x1.toInt = 11 ∧ 0 ≤ x0.toInt ∧ x0.toInt ≤ 2) ∧ ¬ (x1.toInt = 9 ∧ 0 ≤ x0.toInt ∧ x0.toInt ≤ 2) ∧ ¬ (x1.toInt = 8 ∧ 0 ≤ x0.toInt ∧ x0.toInt ≤ 2) ∧ ¬ (x1.toInt = 10 ∧ x0.toInt = 0)))))) 0 0 (sgA 52 h sz) := by
  refine sg_ofWi (cc := cX11_of) (maxL := 4) RX11 (by decide) rfl rfl (Nat.le_of_ble_eq_true rfl) ?_
  intro p e s m below meth c Qz ls hx hb hml hown hts hK hZ hP hS hl hret
  have hA := sgY.self (n := 52) (h := h) (sz := s.heap.size)
  have hl : lv_has ls 4 [(0, .ref (h 0)), (1, .int x0), (2, .int x1)] := hl
  obtain ⟨H, hH⟩ : ∃ z : Heap, z = s.heap := ⟨_, rfl⟩
  obtain ⟨locs, hlo⟩ : ∃ z : List Loc, z = [] := ⟨_, rfl⟩
  have hP : va_P D vwCl (sgw 52 h (eX ca h) f0X L0 Q0) H := by rw [hH]; exact hP
  have hS : va_S (sgA 52 h s.heap.size) s.heap H locs := by rw [hH, hlo]; exact hS
  suffices hgo : W p l e ({ frames := 1, cells := 0, slots := 0, locals := 22 }) s m ([.ref (h 0), .int x0, .int x1] : List Value).toArray below meth c H locs 0 0 Qz (F0 m 0 ls []) by rw [hH, hlo] at hgo; exact hgo
  refine lv_iload_n hx hb dX11_of_0 rfl (lv_at hl 2 rfl) ?_
  refine lv_bipush (v := 11) hx hb dX11_of_1 (by decide) ?_
  refine lv_icmp_ne (tgt := 27) hx hb dX11_of_3 (by decide) (fun c => ?_) (fun c => ?_)
  · skip
    have c_1 : x1.toInt ≠ 11 := (by have z := bn_ne c; have k1 : (11 : Int32).toInt = 11 := (by decide); omega)
    refine lv_aload_n hx hb dX11_of_27 rfl (lv_at hl 0 rfl) ?_
    refine sg_get (ci := 11) (v := .ref (h 1)) (C := RX11) (T := TX11) (N := 10) hx hb hts (by decide +kernel) hown hK hP 0 (by decide) rfl rfl 0 (by decide) (hts (.fieldLink RX11 12 "SetAgain" "chair" "LSetAgain$Chair;") (by decide +kernel)) (fun _ h9 => h9) rfl dX11_of_28 ?_
    refine lv_iload_n hx hb dX11_of_31 rfl (lv_at hl 1 rfl) ?_
    refine lv_iload_n hx hb dX11_of_32 rfl (lv_at hl 2 rfl) ?_
    refine sg_calli (va_runV (As := [.int x0, .int x1]) (rest := []) ⟨hx, hb, hml, hown, hts⟩ (cf_X0_placeOf l D ca za h hh f0X L0 Q0 x0 x1 rfl H.size) (cwV 2 hts gX11_of_X0_placeOf rfl rfl rfl (by decide +kernel) ⟨Nat.le_of_ble_eq_true rfl, Nat.le_of_ble_eq_true rfl⟩) (sg_preV (ci := 0) (C := RX0) (T := TX0) (N := 5) hA hK hP hS hZ 1 (by decide) rfl rfl) rfl rfl hl.1 rfl (lv_room (Nat.le_of_ble_eq_true rfl)) dX11_of_33 ⟨Nat.le_refl _, Nat.le_refl _⟩) hA hS (fun r_6 f_3 L_4 Q_5 H locs hq hP hS => ?_)
    obtain ⟨⟨ef9, eL9, eQ9⟩, hq⟩ := hq
    rw [ef9, eL9, eQ9] at hP; clear ef9 eL9 eQ9
    rcases hq with ⟨rfl, hq⟩ | ⟨rfl, hq⟩ | ⟨rfl, hq⟩ | ⟨rfl, hq⟩ | ⟨rfl, hq⟩ | ⟨rfl, hq⟩ | ⟨rfl, hq⟩ | ⟨rfl, hq⟩
    · skip
      have q_7 := hq
      refine lv_istore_n (lv' := [(3, .int (-1)), (0, .ref (h 0)), (1, .int x0), (2, .int x1)]) hx hb dX11_of_36 rfl hl (by decide) rfl (fun ls hl => ?_)
      refine lv_iload_n hx hb dX11_of_37 rfl (lv_at hl 0 rfl) ?_
      refine lv_if_ge (tgt := 45) hx hb dX11_of_38 (by decide) (fun c => absurd c (by decide)) (fun c => ?_)
      refine lv_iconst (v := (-1)) hx hb dX11_of_41 (by decide) ?_
      refine lv_goto (tgt := 54) hx hb dX11_of_42 (by decide) ?_
      exact hret _ _ _ _ (-1) f0X L0 Q0 dX11_of_54 hP hS ⟨trivial, Or.inr (Or.inr (Or.inr (Or.inr (⟨rfl, by omega⟩))))⟩
    · skip
      have q_8 := hq
      have k_9 : (8 : Int32).toInt = 8 := (by decide)
      obtain rfl : x1 = 8 := Int32.toInt_inj.mp (by omega)
      have k_10 : (0 : Int32).toInt = 0 := (by decide)
      obtain rfl : x0 = 0 := Int32.toInt_inj.mp (by omega)
      refine lv_istore_n (lv' := [(3, .int 64), (0, .ref (h 0)), (1, .int 0), (2, .int 8)]) hx hb dX11_of_36 rfl hl (by decide) rfl (fun ls hl => ?_)
      refine lv_iload_n hx hb dX11_of_37 rfl (lv_at hl 0 rfl) ?_
      refine lv_if_ge (tgt := 45) hx hb dX11_of_38 (by decide) (fun c => ?_) (fun c => absurd c (by decide))
      refine lv_aload_n hx hb dX11_of_45 rfl (lv_at hl 1 rfl) ?_
      refine sg_get (ci := 11) (v := .ref (h 1)) (C := RX11) (T := TX11) (N := 10) hx hb hts (by decide +kernel) hown hK hP 0 (by decide) rfl rfl 0 (by decide) (hts (.fieldLink RX11 12 "SetAgain" "chair" "LSetAgain$Chair;") (by decide +kernel)) (fun _ h9 => h9) rfl dX11_of_46 ?_
      refine sg_get (ci := 0) (v := .ref (h 2)) (C := RX0) (T := TX0) (N := 5) hx hb hts (by decide +kernel) hown hK hP 1 (by decide) rfl rfl 0 (by decide) (hts (.fieldLink RX11 112 "SetAgain$Chair" "told" "[I") (by decide +kernel)) (fun _ h9 => h9) rfl dX11_of_49 ?_
      refine lv_iload_n hx hb dX11_of_52 rfl (lv_at hl 0 rfl) ?_
      refine sg_iald hx hb hK hP 2 (by decide) 0 rfl rfl (i := 64) (vp_in_iff.mpr (by decide)) dX11_of_53 ?_
      refine W.eq (g2 := F0 m 54 ls [.int 0]) (by rw [show f0X 2 (Int32.toNatClampNeg 64) = 0 from rfl]) ?_
      exact hret _ _ _ _ (0) f0X L0 Q0 dX11_of_54 hP hS ⟨trivial, Or.inr (Or.inr (Or.inl ⟨rfl, by omega⟩))⟩
    · skip
      have q_11 := hq
      have k_12 : (8 : Int32).toInt = 8 := (by decide)
      obtain rfl : x1 = 8 := Int32.toInt_inj.mp (by omega)
      have k_13 : (1 : Int32).toInt = 1 := (by decide)
      obtain rfl : x0 = 1 := Int32.toInt_inj.mp (by omega)
      refine lv_istore_n (lv' := [(3, .int 65), (0, .ref (h 0)), (1, .int 1), (2, .int 8)]) hx hb dX11_of_36 rfl hl (by decide) rfl (fun ls hl => ?_)
      refine lv_iload_n hx hb dX11_of_37 rfl (lv_at hl 0 rfl) ?_
      refine lv_if_ge (tgt := 45) hx hb dX11_of_38 (by decide) (fun c => ?_) (fun c => absurd c (by decide))
      refine lv_aload_n hx hb dX11_of_45 rfl (lv_at hl 1 rfl) ?_
      refine sg_get (ci := 11) (v := .ref (h 1)) (C := RX11) (T := TX11) (N := 10) hx hb hts (by decide +kernel) hown hK hP 0 (by decide) rfl rfl 0 (by decide) (hts (.fieldLink RX11 12 "SetAgain" "chair" "LSetAgain$Chair;") (by decide +kernel)) (fun _ h9 => h9) rfl dX11_of_46 ?_
      refine sg_get (ci := 0) (v := .ref (h 2)) (C := RX0) (T := TX0) (N := 5) hx hb hts (by decide +kernel) hown hK hP 1 (by decide) rfl rfl 0 (by decide) (hts (.fieldLink RX11 112 "SetAgain$Chair" "told" "[I") (by decide +kernel)) (fun _ h9 => h9) rfl dX11_of_49 ?_
      refine lv_iload_n hx hb dX11_of_52 rfl (lv_at hl 0 rfl) ?_
      refine sg_iald hx hb hK hP 2 (by decide) 0 rfl rfl (i := 65) (vp_in_iff.mpr (by decide)) dX11_of_53 ?_
      refine W.eq (g2 := F0 m 54 ls [.int 0]) (by rw [show f0X 2 (Int32.toNatClampNeg 65) = 0 from rfl]) ?_
      exact hret _ _ _ _ (0) f0X L0 Q0 dX11_of_54 hP hS ⟨trivial, Or.inr (Or.inr (Or.inl ⟨rfl, by omega⟩))⟩
    · skip
      have q_14 := hq
      have k_15 : (8 : Int32).toInt = 8 := (by decide)
      obtain rfl : x1 = 8 := Int32.toInt_inj.mp (by omega)
      have k_16 : (2 : Int32).toInt = 2 := (by decide)
      obtain rfl : x0 = 2 := Int32.toInt_inj.mp (by omega)
      refine lv_istore_n (lv' := [(3, .int 66), (0, .ref (h 0)), (1, .int 2), (2, .int 8)]) hx hb dX11_of_36 rfl hl (by decide) rfl (fun ls hl => ?_)
      refine lv_iload_n hx hb dX11_of_37 rfl (lv_at hl 0 rfl) ?_
      refine lv_if_ge (tgt := 45) hx hb dX11_of_38 (by decide) (fun c => ?_) (fun c => absurd c (by decide))
      refine lv_aload_n hx hb dX11_of_45 rfl (lv_at hl 1 rfl) ?_
      refine sg_get (ci := 11) (v := .ref (h 1)) (C := RX11) (T := TX11) (N := 10) hx hb hts (by decide +kernel) hown hK hP 0 (by decide) rfl rfl 0 (by decide) (hts (.fieldLink RX11 12 "SetAgain" "chair" "LSetAgain$Chair;") (by decide +kernel)) (fun _ h9 => h9) rfl dX11_of_46 ?_
      refine sg_get (ci := 0) (v := .ref (h 2)) (C := RX0) (T := TX0) (N := 5) hx hb hts (by decide +kernel) hown hK hP 1 (by decide) rfl rfl 0 (by decide) (hts (.fieldLink RX11 112 "SetAgain$Chair" "told" "[I") (by decide +kernel)) (fun _ h9 => h9) rfl dX11_of_49 ?_
      refine lv_iload_n hx hb dX11_of_52 rfl (lv_at hl 0 rfl) ?_
      refine sg_iald hx hb hK hP 2 (by decide) 0 rfl rfl (i := 66) (vp_in_iff.mpr (by decide)) dX11_of_53 ?_
      refine W.eq (g2 := F0 m 54 ls [.int 0]) (by rw [show f0X 2 (Int32.toNatClampNeg 66) = 0 from rfl]) ?_
      exact hret _ _ _ _ (0) f0X L0 Q0 dX11_of_54 hP hS ⟨trivial, Or.inr (Or.inr (Or.inl ⟨rfl, by omega⟩))⟩
    · skip
      have q_17 := hq
      have k_18 : (9 : Int32).toInt = 9 := (by decide)
      obtain rfl : x1 = 9 := Int32.toInt_inj.mp (by omega)
      have k_19 : (0 : Int32).toInt = 0 := (by decide)
      obtain rfl : x0 = 0 := Int32.toInt_inj.mp (by omega)
      refine lv_istore_n (lv' := [(3, .int 67), (0, .ref (h 0)), (1, .int 0), (2, .int 9)]) hx hb dX11_of_36 rfl hl (by decide) rfl (fun ls hl => ?_)
      refine lv_iload_n hx hb dX11_of_37 rfl (lv_at hl 0 rfl) ?_
      refine lv_if_ge (tgt := 45) hx hb dX11_of_38 (by decide) (fun c => ?_) (fun c => absurd c (by decide))
      refine lv_aload_n hx hb dX11_of_45 rfl (lv_at hl 1 rfl) ?_
      refine sg_get (ci := 11) (v := .ref (h 1)) (C := RX11) (T := TX11) (N := 10) hx hb hts (by decide +kernel) hown hK hP 0 (by decide) rfl rfl 0 (by decide) (hts (.fieldLink RX11 12 "SetAgain" "chair" "LSetAgain$Chair;") (by decide +kernel)) (fun _ h9 => h9) rfl dX11_of_46 ?_
      refine sg_get (ci := 0) (v := .ref (h 2)) (C := RX0) (T := TX0) (N := 5) hx hb hts (by decide +kernel) hown hK hP 1 (by decide) rfl rfl 0 (by decide) (hts (.fieldLink RX11 112 "SetAgain$Chair" "told" "[I") (by decide +kernel)) (fun _ h9 => h9) rfl dX11_of_49 ?_
      refine lv_iload_n hx hb dX11_of_52 rfl (lv_at hl 0 rfl) ?_
      refine sg_iald hx hb hK hP 2 (by decide) 0 rfl rfl (i := 67) (vp_in_iff.mpr (by decide)) dX11_of_53 ?_
      refine W.eq (g2 := F0 m 54 ls [.int 1]) (by rw [show f0X 2 (Int32.toNatClampNeg 67) = 1 from rfl]) ?_
      exact hret _ _ _ _ (1) f0X L0 Q0 dX11_of_54 hP hS ⟨trivial, Or.inr (Or.inl ⟨rfl, by omega⟩)⟩
    · skip
      have q_20 := hq
      have k_21 : (9 : Int32).toInt = 9 := (by decide)
      obtain rfl : x1 = 9 := Int32.toInt_inj.mp (by omega)
      have k_22 : (1 : Int32).toInt = 1 := (by decide)
      obtain rfl : x0 = 1 := Int32.toInt_inj.mp (by omega)
      refine lv_istore_n (lv' := [(3, .int 68), (0, .ref (h 0)), (1, .int 1), (2, .int 9)]) hx hb dX11_of_36 rfl hl (by decide) rfl (fun ls hl => ?_)
      refine lv_iload_n hx hb dX11_of_37 rfl (lv_at hl 0 rfl) ?_
      refine lv_if_ge (tgt := 45) hx hb dX11_of_38 (by decide) (fun c => ?_) (fun c => absurd c (by decide))
      refine lv_aload_n hx hb dX11_of_45 rfl (lv_at hl 1 rfl) ?_
      refine sg_get (ci := 11) (v := .ref (h 1)) (C := RX11) (T := TX11) (N := 10) hx hb hts (by decide +kernel) hown hK hP 0 (by decide) rfl rfl 0 (by decide) (hts (.fieldLink RX11 12 "SetAgain" "chair" "LSetAgain$Chair;") (by decide +kernel)) (fun _ h9 => h9) rfl dX11_of_46 ?_
      refine sg_get (ci := 0) (v := .ref (h 2)) (C := RX0) (T := TX0) (N := 5) hx hb hts (by decide +kernel) hown hK hP 1 (by decide) rfl rfl 0 (by decide) (hts (.fieldLink RX11 112 "SetAgain$Chair" "told" "[I") (by decide +kernel)) (fun _ h9 => h9) rfl dX11_of_49 ?_
      refine lv_iload_n hx hb dX11_of_52 rfl (lv_at hl 0 rfl) ?_
      refine sg_iald hx hb hK hP 2 (by decide) 0 rfl rfl (i := 68) (vp_in_iff.mpr (by decide)) dX11_of_53 ?_
      refine W.eq (g2 := F0 m 54 ls [.int 1]) (by rw [show f0X 2 (Int32.toNatClampNeg 68) = 1 from rfl]) ?_
      exact hret _ _ _ _ (1) f0X L0 Q0 dX11_of_54 hP hS ⟨trivial, Or.inr (Or.inl ⟨rfl, by omega⟩)⟩
    · skip
      have q_23 := hq
      have k_24 : (9 : Int32).toInt = 9 := (by decide)
      obtain rfl : x1 = 9 := Int32.toInt_inj.mp (by omega)
      have k_25 : (2 : Int32).toInt = 2 := (by decide)
      obtain rfl : x0 = 2 := Int32.toInt_inj.mp (by omega)
      refine lv_istore_n (lv' := [(3, .int 69), (0, .ref (h 0)), (1, .int 2), (2, .int 9)]) hx hb dX11_of_36 rfl hl (by decide) rfl (fun ls hl => ?_)
      refine lv_iload_n hx hb dX11_of_37 rfl (lv_at hl 0 rfl) ?_
      refine lv_if_ge (tgt := 45) hx hb dX11_of_38 (by decide) (fun c => ?_) (fun c => absurd c (by decide))
      refine lv_aload_n hx hb dX11_of_45 rfl (lv_at hl 1 rfl) ?_
      refine sg_get (ci := 11) (v := .ref (h 1)) (C := RX11) (T := TX11) (N := 10) hx hb hts (by decide +kernel) hown hK hP 0 (by decide) rfl rfl 0 (by decide) (hts (.fieldLink RX11 12 "SetAgain" "chair" "LSetAgain$Chair;") (by decide +kernel)) (fun _ h9 => h9) rfl dX11_of_46 ?_
      refine sg_get (ci := 0) (v := .ref (h 2)) (C := RX0) (T := TX0) (N := 5) hx hb hts (by decide +kernel) hown hK hP 1 (by decide) rfl rfl 0 (by decide) (hts (.fieldLink RX11 112 "SetAgain$Chair" "told" "[I") (by decide +kernel)) (fun _ h9 => h9) rfl dX11_of_49 ?_
      refine lv_iload_n hx hb dX11_of_52 rfl (lv_at hl 0 rfl) ?_
      refine sg_iald hx hb hK hP 2 (by decide) 0 rfl rfl (i := 69) (vp_in_iff.mpr (by decide)) dX11_of_53 ?_
      refine W.eq (g2 := F0 m 54 ls [.int 1]) (by rw [show f0X 2 (Int32.toNatClampNeg 69) = 1 from rfl]) ?_
      exact hret _ _ _ _ (1) f0X L0 Q0 dX11_of_54 hP hS ⟨trivial, Or.inr (Or.inl ⟨rfl, by omega⟩)⟩
    · skip
      have q_26 := hq
      have k_27 : (10 : Int32).toInt = 10 := (by decide)
      obtain rfl : x1 = 10 := Int32.toInt_inj.mp (by omega)
      have k_28 : (0 : Int32).toInt = 0 := (by decide)
      obtain rfl : x0 = 0 := Int32.toInt_inj.mp (by omega)
      refine lv_istore_n (lv' := [(3, .int 70), (0, .ref (h 0)), (1, .int 0), (2, .int 10)]) hx hb dX11_of_36 rfl hl (by decide) rfl (fun ls hl => ?_)
      refine lv_iload_n hx hb dX11_of_37 rfl (lv_at hl 0 rfl) ?_
      refine lv_if_ge (tgt := 45) hx hb dX11_of_38 (by decide) (fun c => ?_) (fun c => absurd c (by decide))
      refine lv_aload_n hx hb dX11_of_45 rfl (lv_at hl 1 rfl) ?_
      refine sg_get (ci := 11) (v := .ref (h 1)) (C := RX11) (T := TX11) (N := 10) hx hb hts (by decide +kernel) hown hK hP 0 (by decide) rfl rfl 0 (by decide) (hts (.fieldLink RX11 12 "SetAgain" "chair" "LSetAgain$Chair;") (by decide +kernel)) (fun _ h9 => h9) rfl dX11_of_46 ?_
      refine sg_get (ci := 0) (v := .ref (h 2)) (C := RX0) (T := TX0) (N := 5) hx hb hts (by decide +kernel) hown hK hP 1 (by decide) rfl rfl 0 (by decide) (hts (.fieldLink RX11 112 "SetAgain$Chair" "told" "[I") (by decide +kernel)) (fun _ h9 => h9) rfl dX11_of_49 ?_
      refine lv_iload_n hx hb dX11_of_52 rfl (lv_at hl 0 rfl) ?_
      refine sg_iald hx hb hK hP 2 (by decide) 0 rfl rfl (i := 70) (vp_in_iff.mpr (by decide)) dX11_of_53 ?_
      refine W.eq (g2 := F0 m 54 ls [.int 3]) (by rw [show f0X 2 (Int32.toNatClampNeg 70) = 3 from rfl]) ?_
      exact hret _ _ _ _ (3) f0X L0 Q0 dX11_of_54 hP hS ⟨trivial, Or.inr (Or.inr (Or.inr (Or.inl ⟨rfl, by omega⟩)))⟩
  · skip
    have c_2 : x1.toInt = 11 := (by have z := Int32.toInt_inj.mpr c; have k1 : (11 : Int32).toInt = 11 := (by decide); omega)
    refine lv_iload_n hx hb dX11_of_6 rfl (lv_at hl 1 rfl) ?_
    refine sg_calli (va_runS (As := [.int x0]) (rest := []) ⟨hx, hb, hml, hown, hts⟩ (cf_X11_isPart l D ca za h hh f0X L0 Q0 x0 H.size) (va_cwS 1 hts gX11_of_X11_isPart rfl rfl rfl (by decide +kernel) ⟨Nat.le_of_ble_eq_true rfl, Nat.le_of_ble_eq_true rfl⟩) (sg_preS hA hK hP hS hZ) rfl rfl hl.1 rfl (lv_room (Nat.le_of_ble_eq_true rfl)) dX11_of_7 ⟨Nat.le_refl _, Nat.le_refl _⟩) hA hS (fun r_32 f_29 L_30 Q_31 H locs hq hP hS => ?_)
    obtain ⟨⟨ef9, eL9, eQ9⟩, hq⟩ := hq
    rw [ef9, eL9, eQ9] at hP; clear ef9 eL9 eQ9
    rcases hq with ⟨rfl, hq⟩ | ⟨rfl, hq⟩
    · skip
      have q_33 := hq
      refine lv_if_eq (tgt := 25) hx hb dX11_of_10 (by decide) (fun c => absurd c (by decide)) (fun c => ?_)
      refine lv_aload_n hx hb dX11_of_13 rfl (lv_at hl 0 rfl) ?_
      refine sg_get (ci := 11) (v := .ref (h 1)) (C := RX11) (T := TX11) (N := 10) hx hb hts (by decide +kernel) hown hK hP 0 (by decide) rfl rfl 0 (by decide) (hts (.fieldLink RX11 12 "SetAgain" "chair" "LSetAgain$Chair;") (by decide +kernel)) (fun _ h9 => h9) rfl dX11_of_14 ?_
      refine sg_get (ci := 0) (v := .ref (h 3)) (C := RX0) (T := TX0) (N := 5) hx hb hts (by decide +kernel) hown hK hP 1 (by decide) rfl rfl 1 (by decide) (hts (.fieldLink RX11 126 "SetAgain$Chair" "stands" "[I") (by decide +kernel)) (fun _ h9 => h9) rfl dX11_of_17 ?_
      refine lv_iload_n hx hb dX11_of_20 rfl (lv_at hl 1 rfl) ?_
      refine sg_iald hx hb hK hP 3 (by decide) 0 rfl rfl (i := x0) (vp_in_iff.mpr ⟨by omega, by omega⟩) dX11_of_21 ?_
      refine lv_topi (fun v_34 ev_34 => ?_)
      have q_35 : v_34.toInt = 30 := by rw [ev_34, f0X_st (by omega) (by omega)]; decide
      refine lv_goto (tgt := 26) hx hb dX11_of_22 (by decide) ?_
      exact hret _ _ _ _ (v_34) f0X L0 Q0 dX11_of_26 hP hS ⟨trivial, (by first | exact Or.inl ⟨Int32.toInt_inj.mp (by have k9 : (30 : Int32).toInt = 30 := (by decide); omega), by omega⟩ | exact Or.inr (Or.inl ⟨Int32.toInt_inj.mp (by have k9 : (1 : Int32).toInt = 1 := (by decide); omega), by omega⟩) | exact Or.inr (Or.inr (Or.inl ⟨Int32.toInt_inj.mp (by have k9 : (0 : Int32).toInt = 0 := (by decide); omega), by omega⟩)) | exact Or.inr (Or.inr (Or.inr (Or.inl ⟨Int32.toInt_inj.mp (by have k9 : (3 : Int32).toInt = 3 := (by decide); omega), by omega⟩))) | exact Or.inr (Or.inr (Or.inr (Or.inr (⟨Int32.toInt_inj.mp (by have k9 : ((-1) : Int32).toInt = (-1) := (by decide); omega), by omega⟩)))))⟩
    · skip
      have q_36 := hq
      refine lv_if_eq (tgt := 25) hx hb dX11_of_10 (by decide) (fun c => ?_) (fun c => absurd c (by decide))
      refine lv_iconst (v := (-1)) hx hb dX11_of_25 (by decide) ?_
      exact hret _ _ _ _ (-1) f0X L0 Q0 dX11_of_26 hP hS ⟨trivial, Or.inr (Or.inr (Or.inr (Or.inr (⟨rfl, by omega⟩))))⟩

set_option maxHeartbeats 4000000 in
set_option maxRecDepth 100000 in
theorem cf_X5_takes (l : Launch) (D : va_G) (ca : Nat → ClassId) (za h : Nat → Nat) (hh : sgH 52 h) (f : sg_F) (L : sg_L) (Q : sg_Q) (x0 : Int32) (hs : f 4 1 = 0) (sz : Nat) : Met l yX5_takes wsX5_takes { frames := 0, cells := 0, slots := 0, locals := 0 } (sgP D vwCl (tyX ca) 52 h (eX ca h) zcX za f L Q sz [.ref (h 4), .int x0]) (sgQi D vwCl 52 h (eX ca h) sz (fun r f1 L1 Q1 => True ∧ ((r = 1 ∧ (True))))) 0 0 (sgA 52 h sz) := by
  refine sg_ofWi (cc := cX5_takes) (maxL := 2) RX5 (by decide) rfl rfl (Nat.le_of_ble_eq_true rfl) ?_
  intro p e s m below meth c Qz ls hx hb hml hown hts hK hZ hP hS hl hret
  have hA := sgY.self (n := 52) (h := h) (sz := s.heap.size)
  have hl : lv_has ls 2 [(0, .ref (h 4)), (1, .int x0)] := hl
  obtain ⟨H, hH⟩ : ∃ z : Heap, z = s.heap := ⟨_, rfl⟩
  obtain ⟨locs, hlo⟩ : ∃ z : List Loc, z = [] := ⟨_, rfl⟩
  have hP : va_P D vwCl (sgw 52 h (eX ca h) f L Q) H := by rw [hH]; exact hP
  have hS : va_S (sgA 52 h s.heap.size) s.heap H locs := by rw [hH, hlo]; exact hS
  suffices hgo : W p l e ({ frames := 0, cells := 0, slots := 0, locals := 0 }) s m ([.ref (h 4), .int x0] : List Value).toArray below meth c H locs 0 0 Qz (F0 m 0 ls []) by rw [hH, hlo] at hgo; exact hgo
  refine lv_aload_n hx hb dX5_takes_0 rfl (lv_at hl 0 rfl) ?_
  refine sg_get (ci := 5) (v := .int 0) (C := RX5) (T := TX5) (N := 10) hx hb hts (by decide +kernel) hown hK hP 4 (by decide) rfl rfl 1 (by decide) (hts (.fieldLink RX5 24 "SetAgain$Law" "length" "I") (by decide +kernel)) (fun _ h9 => h9) (congrArg (fun z => some (Value.int z)) (show f 4 1 = 0 from hs)) dX5_takes_1 ?_
  refine lv_bipush (v := 120) hx hb dX5_takes_4 (by decide) ?_
  refine lv_icmp_lt (tgt := 12) hx hb dX5_takes_6 (by decide) (fun c => ?_) (fun c => absurd c (by decide))
  refine lv_aload_n hx hb dX5_takes_12 rfl (lv_at hl 0 rfl) ?_
  refine sg_get (ci := 5) (v := .ref (h 5)) (C := RX5) (T := TX5) (N := 10) hx hb hts (by decide +kernel) hown hK hP 4 (by decide) rfl rfl 0 (by decide) (hts (.fieldLink RX5 11 "SetAgain$Law" "tape" "[I") (by decide +kernel)) (fun _ h9 => h9) rfl dX5_takes_13 ?_
  refine lv_aload_n hx hb dX5_takes_16 rfl (lv_at hl 0 rfl) ?_
  refine sg_get (ci := 5) (v := .int 0) (C := RX5) (T := TX5) (N := 10) hx hb hts (by decide +kernel) hown hK hP 4 (by decide) rfl rfl 1 (by decide) (hts (.fieldLink RX5 24 "SetAgain$Law" "length" "I") (by decide +kernel)) (fun _ h9 => h9) (congrArg (fun z => some (Value.int z)) (show f 4 1 = 0 from hs)) dX5_takes_17 ?_
  refine lv_iload_n hx hb dX5_takes_20 rfl (lv_at hl 1 rfl) ?_
  refine sg_iast hx hb hh hA hK hP hS 5 (by decide) 0 (fun _ => rfl) rfl (i := 0) (x := x0) (vp_in_iff.mpr (by decide)) dX5_takes_21 (fun f_1 H locs ef_1 hP hS => ?_)
  refine lv_aload_n hx hb dX5_takes_22 rfl (lv_at hl 0 rfl) ?_
  refine lv_dup hx hb dX5_takes_23 rfl ?_
  refine sg_get (ci := 5) (v := .int 0) (C := RX5) (T := TX5) (N := 10) hx hb hts (by decide +kernel) hown hK hP 4 (by decide) rfl rfl 1 (by decide) (hts (.fieldLink RX5 24 "SetAgain$Law" "length" "I") (by decide +kernel)) (fun _ h9 => h9) (congrArg (fun z => some (Value.int z)) (show f_1 4 1 = 0 from (by rw [ef_1]; exact (show _ = _ from hs)))) dX5_takes_24 ?_
  refine lv_iconst (v := 1) hx hb dX5_takes_27 (by decide) ?_
  refine lv_iadd hx hb dX5_takes_28 ?_
  refine W.eq (g2 := F0 m 29 ls [.int 1, .ref (h 4)]) (by rw [show (0 + 1 : Int32) = 1 from by decide]) ?_
  refine sg_put (ci := 5) (x := 1) (ty := .int) (C := RX5) (T := TX5) (N := 10) hx hb hts (by decide +kernel) tyX5 tyX5_ok nmX5 hown hh hA hK hP hS 4 (by decide) rfl rfl 1 (by decide) (hts (.fieldLink RX5 24 "SetAgain$Law" "length" "I") (by decide +kernel)) (fun _ h9 => h9) rfl rfl (by decide +kernel) rfl rfl (Nat.le_of_ble_eq_true rfl) dX5_takes_29 (fun f_2 H locs ef_2 hP hS => ?_)
  refine lv_aload_n hx hb dX5_takes_32 rfl (lv_at hl 0 rfl) ?_
  refine sg_get (ci := 5) (v := .int 1) (C := RX5) (T := TX5) (N := 10) hx hb hts (by decide +kernel) hown hK hP 4 (by decide) rfl rfl 1 (by decide) (hts (.fieldLink RX5 24 "SetAgain$Law" "length" "I") (by decide +kernel)) (fun _ h9 => h9) (congrArg (fun z => some (Value.int z)) (show f_2 4 1 = 1 from (by rw [ef_2]; rfl))) dX5_takes_33 ?_
  exact hret _ _ _ _ (1) f_2 L Q dX5_takes_36 hP hS ⟨trivial, ⟨rfl, trivial⟩⟩

set_option maxHeartbeats 4000000 in
set_option maxRecDepth 100000 in
theorem cf_X11_feed (l : Launch) (D : va_G) (ca : Nat → ClassId) (za h : Nat → Nat) (hh : sgH 52 h) (x0 : Int32) (sz : Nat) : Met l yX11_feed wsX11_feed { frames := 1, cells := 0, slots := 0, locals := 21 } (sgP D vwCl (tyX ca) 52 h (eX ca h) zcX za f0X L0 Q0 sz [.ref (h 0), .int x0]) (sgQi D vwCl 52 h (eX ca h) sz (fun r f1 L1 Q1 => True ∧ ((r = 1 ∧ (0 ≤ x0.toInt ∧ x0.toInt ≤ 255)) ∨ (r = (-1) ∧ (¬ (0 ≤ x0.toInt ∧ x0.toInt ≤ 255)))))) 0 0 (sgA 52 h sz) := by
  refine sg_ofWi (cc := cX11_feed) (maxL := 2) RX11 (by decide) rfl rfl (Nat.le_of_ble_eq_true rfl) ?_
  intro p e s m below meth c Qz ls hx hb hml hown hts hK hZ hP hS hl hret
  have hA := sgY.self (n := 52) (h := h) (sz := s.heap.size)
  have hl : lv_has ls 2 [(0, .ref (h 0)), (1, .int x0)] := hl
  obtain ⟨H, hH⟩ : ∃ z : Heap, z = s.heap := ⟨_, rfl⟩
  obtain ⟨locs, hlo⟩ : ∃ z : List Loc, z = [] := ⟨_, rfl⟩
  have hP : va_P D vwCl (sgw 52 h (eX ca h) f0X L0 Q0) H := by rw [hH]; exact hP
  have hS : va_S (sgA 52 h s.heap.size) s.heap H locs := by rw [hH, hlo]; exact hS
  suffices hgo : W p l e ({ frames := 1, cells := 0, slots := 0, locals := 21 }) s m ([.ref (h 0), .int x0] : List Value).toArray below meth c H locs 0 0 Qz (F0 m 0 ls []) by rw [hH, hlo] at hgo; exact hgo
  refine lv_iload_n hx hb dX11_feed_0 rfl (lv_at hl 1 rfl) ?_
  refine lv_if_lt (tgt := 11) hx hb dX11_feed_1 (by decide) (fun c => ?_) (fun c => ?_)
  · skip
    have c_1 : x0.toInt < 0 := (by have z := bn_lt c; have k1 : (0 : Int32).toInt = 0 := (by decide); omega)
    refine lv_iconst (v := (-1)) hx hb dX11_feed_11 (by decide) ?_
    refine lv_goto (tgt := 26) hx hb dX11_feed_12 (by decide) ?_
    exact hret _ _ _ _ (-1) f0X L0 Q0 dX11_feed_26 hP hS ⟨trivial, Or.inr (⟨rfl, by omega⟩)⟩
  · skip
    have c_2 : 0 ≤ x0.toInt := (by have z := bn_nlt c; have k1 : (0 : Int32).toInt = 0 := (by decide); omega)
    refine lv_iload_n hx hb dX11_feed_4 rfl (lv_at hl 1 rfl) ?_
    refine lv_sipush (v := 255) hx hb dX11_feed_5 (by decide) ?_
    refine lv_icmp_le (tgt := 15) hx hb dX11_feed_8 (by decide) (fun c => ?_) (fun c => ?_)
    · skip
      have c_3 : x0.toInt ≤ 255 := (by have z := bn_le c; have k1 : (255 : Int32).toInt = 255 := (by decide); omega)
      refine lv_aload_n hx hb dX11_feed_15 rfl (lv_at hl 0 rfl) ?_
      refine sg_get (ci := 11) (v := .ref (h 1)) (C := RX11) (T := TX11) (N := 10) hx hb hts (by decide +kernel) hown hK hP 0 (by decide) rfl rfl 0 (by decide) (hts (.fieldLink RX11 12 "SetAgain" "chair" "LSetAgain$Chair;") (by decide +kernel)) (fun _ h9 => h9) rfl dX11_feed_16 ?_
      refine sg_get (ci := 0) (v := .ref (h 4)) (C := RX0) (T := TX0) (N := 5) hx hb hts (by decide +kernel) hown hK hP 1 (by decide) rfl rfl 2 (by decide) (hts (.fieldLink RX11 129 "SetAgain$Chair" "law" "LSetAgain$Law;") (by decide +kernel)) (fun _ h9 => h9) rfl dX11_feed_19 ?_
      refine lv_iload_n hx hb dX11_feed_22 rfl (lv_at hl 1 rfl) ?_
      refine sg_calli (va_runV (As := [.int x0]) (rest := []) ⟨hx, hb, hml, hown, hts⟩ (cf_X5_takes l D ca za h hh f0X L0 Q0 x0 rfl H.size) (cwV 1 hts gX11_feed_X5_takes rfl rfl rfl (by decide +kernel) ⟨Nat.le_of_ble_eq_true rfl, Nat.le_of_ble_eq_true rfl⟩) (sg_preV (ci := 5) (C := RX5) (T := TX5) (N := 10) hA hK hP hS hZ 4 (by decide) rfl rfl) rfl rfl hl.1 rfl (lv_room (Nat.le_of_ble_eq_true rfl)) dX11_feed_23 ⟨Nat.le_refl _, Nat.le_refl _⟩) hA hS (fun r_8 f_5 L_6 Q_7 H locs hq hP hS => ?_)
      obtain ⟨-, hq⟩ := hq
      obtain ⟨rfl, hq⟩ := hq
      have q_9 := hq
      exact hret _ _ _ _ (1) f_5 L_6 Q_7 dX11_feed_26 hP hS ⟨trivial, Or.inl ⟨rfl, by omega⟩⟩
    · skip
      have c_4 : 255 < x0.toInt := (by have z := bn_nle c; have k1 : (255 : Int32).toInt = 255 := (by decide); omega)
      refine lv_iconst (v := (-1)) hx hb dX11_feed_11 (by decide) ?_
      refine lv_goto (tgt := 26) hx hb dX11_feed_12 (by decide) ?_
      exact hret _ _ _ _ (-1) f0X L0 Q0 dX11_feed_26 hP hS ⟨trivial, Or.inr (⟨rfl, by omega⟩)⟩

set_option maxHeartbeats 4000000 in
set_option maxRecDepth 100000 in
theorem cf_X5_next_a (l : Launch) (D : va_G) (ca : Nat → ClassId) (za h : Nat → Nat) (hh : sgH 52 h) (f : sg_F) (L : sg_L) (Q : sg_Q) (h1 : f 4 1 = 0) (h6 : f 4 6 = 0) (h8 : f 4 8 = 0) (h7 : f 4 7 = (-1)) (sz : Nat) : Met l yX5_next wsX5_next { frames := 0, cells := 0, slots := 0, locals := 0 } (sgP D vwCl (tyX ca) 52 h (eX ca h) zcX za f L Q sz [.ref (h 4)]) (sgQi D vwCl 52 h (eX ca h) sz (fun r f1 L1 Q1 => (f1 = f ∧ L1 = L ∧ Q1 = Q) ∧ ((r = (-1) ∧ (True))))) 0 0 (sgA 52 h sz) := by
  refine sg_ofWi (cc := cX5_next) (maxL := 1) RX5 (by decide) rfl rfl (Nat.le_of_ble_eq_true rfl) ?_
  intro p e s m below meth c Qz ls hx hb hml hown hts hK hZ hP hS hl hret
  have hA := sgY.self (n := 52) (h := h) (sz := s.heap.size)
  have hl : lv_has ls 1 [(0, .ref (h 4))] := hl
  obtain ⟨H, hH⟩ : ∃ z : Heap, z = s.heap := ⟨_, rfl⟩
  obtain ⟨locs, hlo⟩ : ∃ z : List Loc, z = [] := ⟨_, rfl⟩
  have hP : va_P D vwCl (sgw 52 h (eX ca h) f L Q) H := by rw [hH]; exact hP
  have hS : va_S (sgA 52 h s.heap.size) s.heap H locs := by rw [hH, hlo]; exact hS
  suffices hgo : W p l e ({ frames := 0, cells := 0, slots := 0, locals := 0 }) s m ([.ref (h 4)] : List Value).toArray below meth c H locs 0 0 Qz (F0 m 0 ls []) by rw [hH, hlo] at hgo; exact hgo
  refine lv_aload_n hx hb dX5_next_0 rfl (lv_at hl 0 rfl) ?_
  refine sg_get (ci := 5) (v := .int (-1)) (C := RX5) (T := TX5) (N := 10) hx hb hts (by decide +kernel) hown hK hP 4 (by decide) rfl rfl 7 (by decide) (hts (.fieldLink RX5 31 "SetAgain$Law" "fault" "I") (by decide +kernel)) (fun _ h9 => h9) (congrArg (fun z => some (Value.int z)) (show f 4 7 = (-1) from h7)) dX5_next_1 ?_
  refine lv_if_ge (tgt := 30) hx hb dX5_next_4 (by decide) (fun c => absurd c (by decide)) (fun c => ?_)
  refine lv_aload_n hx hb dX5_next_7 rfl (lv_at hl 0 rfl) ?_
  refine sg_get (ci := 5) (v := .int 0) (C := RX5) (T := TX5) (N := 10) hx hb hts (by decide +kernel) hown hK hP 4 (by decide) rfl rfl 6 (by decide) (hts (.fieldLink RX5 28 "SetAgain$Law" "at" "I") (by decide +kernel)) (fun _ h9 => h9) (congrArg (fun z => some (Value.int z)) (show f 4 6 = 0 from h6)) dX5_next_8 ?_
  refine lv_aload_n hx hb dX5_next_11 rfl (lv_at hl 0 rfl) ?_
  refine sg_get (ci := 5) (v := .int 0) (C := RX5) (T := TX5) (N := 10) hx hb hts (by decide +kernel) hown hK hP 4 (by decide) rfl rfl 1 (by decide) (hts (.fieldLink RX5 24 "SetAgain$Law" "length" "I") (by decide +kernel)) (fun _ h9 => h9) (congrArg (fun z => some (Value.int z)) (show f 4 1 = 0 from h1)) dX5_next_12 ?_
  refine lv_icmp_ge (tgt := 30) hx hb dX5_next_15 (by decide) (fun c => ?_) (fun c => absurd c (by decide))
  refine lv_iconst (v := (-1)) hx hb dX5_next_30 (by decide) ?_
  exact hret _ _ _ _ (-1) f L Q dX5_next_31 hP hS ⟨⟨rfl, rfl, rfl⟩, ⟨rfl, trivial⟩⟩

set_option maxHeartbeats 4000000 in
set_option maxRecDepth 100000 in
theorem cf_X5_next_b (l : Launch) (D : va_G) (ca : Nat → ClassId) (za h : Nat → Nat) (hh : sgH 52 h) (f : sg_F) (L : sg_L) (Q : sg_Q) (h1 : f 4 1 = 0) (h6 : f 4 6 = 0) (h8 : f 4 8 = 0) (h7 : f 4 7 = 0) (sz : Nat) : Met l yX5_next wsX5_next { frames := 0, cells := 0, slots := 0, locals := 0 } (sgP D vwCl (tyX ca) 52 h (eX ca h) zcX za f L Q sz [.ref (h 4)]) (sgQi D vwCl 52 h (eX ca h) sz (fun r f1 L1 Q1 => (f1 = f ∧ L1 = L ∧ Q1 = Q) ∧ ((r = (-1) ∧ (True))))) 0 0 (sgA 52 h sz) := by
  refine sg_ofWi (cc := cX5_next) (maxL := 1) RX5 (by decide) rfl rfl (Nat.le_of_ble_eq_true rfl) ?_
  intro p e s m below meth c Qz ls hx hb hml hown hts hK hZ hP hS hl hret
  have hA := sgY.self (n := 52) (h := h) (sz := s.heap.size)
  have hl : lv_has ls 1 [(0, .ref (h 4))] := hl
  obtain ⟨H, hH⟩ : ∃ z : Heap, z = s.heap := ⟨_, rfl⟩
  obtain ⟨locs, hlo⟩ : ∃ z : List Loc, z = [] := ⟨_, rfl⟩
  have hP : va_P D vwCl (sgw 52 h (eX ca h) f L Q) H := by rw [hH]; exact hP
  have hS : va_S (sgA 52 h s.heap.size) s.heap H locs := by rw [hH, hlo]; exact hS
  suffices hgo : W p l e ({ frames := 0, cells := 0, slots := 0, locals := 0 }) s m ([.ref (h 4)] : List Value).toArray below meth c H locs 0 0 Qz (F0 m 0 ls []) by rw [hH, hlo] at hgo; exact hgo
  refine lv_aload_n hx hb dX5_next_0 rfl (lv_at hl 0 rfl) ?_
  refine sg_get (ci := 5) (v := .int 0) (C := RX5) (T := TX5) (N := 10) hx hb hts (by decide +kernel) hown hK hP 4 (by decide) rfl rfl 7 (by decide) (hts (.fieldLink RX5 31 "SetAgain$Law" "fault" "I") (by decide +kernel)) (fun _ h9 => h9) (congrArg (fun z => some (Value.int z)) (show f 4 7 = 0 from h7)) dX5_next_1 ?_
  refine lv_if_ge (tgt := 30) hx hb dX5_next_4 (by decide) (fun c => ?_) (fun c => absurd c (by decide))
  refine lv_iconst (v := (-1)) hx hb dX5_next_30 (by decide) ?_
  exact hret _ _ _ _ (-1) f L Q dX5_next_31 hP hS ⟨⟨rfl, rfl, rfl⟩, ⟨rfl, trivial⟩⟩

set_option maxHeartbeats 4000000 in
set_option maxRecDepth 100000 in
theorem cf_X5_isDigit (l : Launch) (D : va_G) (ca : Nat → ClassId) (za h : Nat → Nat) (hh : sgH 52 h) (f : sg_F) (L : sg_L) (Q : sg_Q) (sz : Nat) : Met l yX5_isDigit wsX5_isDigit { frames := 0, cells := 0, slots := 0, locals := 0 } (sgP D vwCl (tyX ca) 52 h (eX ca h) zcX za f L Q sz [.int (-1)]) (sgQi D vwCl 52 h (eX ca h) sz (fun r f1 L1 Q1 => (f1 = f ∧ L1 = L ∧ Q1 = Q) ∧ ((r = 0 ∧ (True))))) 0 0 (sgA 52 h sz) := by
  refine sg_ofWz (cc := cX5_isDigit) (maxL := 1) RX5 (by decide) rfl rfl (Nat.le_of_ble_eq_true rfl) ?_
  intro p e s m below meth c Qz ls hx hb hml hown hts hK hZ hP hS hl hret
  have hA := sgY.self (n := 52) (h := h) (sz := s.heap.size)
  have hl : lv_has ls 1 [(0, .int (-1))] := hl
  obtain ⟨H, hH⟩ : ∃ z : Heap, z = s.heap := ⟨_, rfl⟩
  obtain ⟨locs, hlo⟩ : ∃ z : List Loc, z = [] := ⟨_, rfl⟩
  have hP : va_P D vwCl (sgw 52 h (eX ca h) f L Q) H := by rw [hH]; exact hP
  have hS : va_S (sgA 52 h s.heap.size) s.heap H locs := by rw [hH, hlo]; exact hS
  suffices hgo : W p l e ({ frames := 0, cells := 0, slots := 0, locals := 0 }) s m ([.int (-1)] : List Value).toArray below meth c H locs 0 0 Qz (F0 m 0 ls []) by rw [hH, hlo] at hgo; exact hgo
  refine lv_iload_n hx hb dX5_isDigit_0 rfl (lv_at hl 0 rfl) ?_
  refine lv_bipush (v := 48) hx hb dX5_isDigit_1 (by decide) ?_
  refine lv_icmp_lt (tgt := 16) hx hb dX5_isDigit_3 (by decide) (fun c => ?_) (fun c => absurd c (by decide))
  refine lv_iconst (v := 0) hx hb dX5_isDigit_16 (by decide) ?_
  exact hret _ _ _ _ (0) f L Q dX5_isDigit_17 (by decide) hP hS ⟨⟨rfl, rfl, rfl⟩, ⟨rfl, trivial⟩⟩

set_option maxHeartbeats 4000000 in
set_option maxRecDepth 100000 in
theorem cf_X5_isName (l : Launch) (D : va_G) (ca : Nat → ClassId) (za h : Nat → Nat) (hh : sgH 52 h) (f : sg_F) (L : sg_L) (Q : sg_Q) (sz : Nat) : Met l yX5_isName wsX5_isName { frames := 0, cells := 0, slots := 0, locals := 0 } (sgP D vwCl (tyX ca) 52 h (eX ca h) zcX za f L Q sz [.int (-1)]) (sgQi D vwCl 52 h (eX ca h) sz (fun r f1 L1 Q1 => (f1 = f ∧ L1 = L ∧ Q1 = Q) ∧ ((r = 0 ∧ (True))))) 0 0 (sgA 52 h sz) := by
  refine sg_ofWz (cc := cX5_isName) (maxL := 1) RX5 (by decide) rfl rfl (Nat.le_of_ble_eq_true rfl) ?_
  intro p e s m below meth c Qz ls hx hb hml hown hts hK hZ hP hS hl hret
  have hA := sgY.self (n := 52) (h := h) (sz := s.heap.size)
  have hl : lv_has ls 1 [(0, .int (-1))] := hl
  obtain ⟨H, hH⟩ : ∃ z : Heap, z = s.heap := ⟨_, rfl⟩
  obtain ⟨locs, hlo⟩ : ∃ z : List Loc, z = [] := ⟨_, rfl⟩
  have hP : va_P D vwCl (sgw 52 h (eX ca h) f L Q) H := by rw [hH]; exact hP
  have hS : va_S (sgA 52 h s.heap.size) s.heap H locs := by rw [hH, hlo]; exact hS
  suffices hgo : W p l e ({ frames := 0, cells := 0, slots := 0, locals := 0 }) s m ([.int (-1)] : List Value).toArray below meth c H locs 0 0 Qz (F0 m 0 ls []) by rw [hH, hlo] at hgo; exact hgo
  refine lv_iload_n hx hb dX5_isName_0 rfl (lv_at hl 0 rfl) ?_
  refine lv_bipush (v := 100) hx hb dX5_isName_1 (by decide) ?_
  refine lv_icmp_eq (tgt := 36) hx hb dX5_isName_3 (by decide) (fun c => absurd c (by decide)) (fun c => ?_)
  refine lv_iload_n hx hb dX5_isName_6 rfl (lv_at hl 0 rfl) ?_
  refine lv_bipush (v := 117) hx hb dX5_isName_7 (by decide) ?_
  refine lv_icmp_eq (tgt := 36) hx hb dX5_isName_9 (by decide) (fun c => absurd c (by decide)) (fun c => ?_)
  refine lv_iload_n hx hb dX5_isName_12 rfl (lv_at hl 0 rfl) ?_
  refine lv_bipush (v := 115) hx hb dX5_isName_13 (by decide) ?_
  refine lv_icmp_eq (tgt := 36) hx hb dX5_isName_15 (by decide) (fun c => absurd c (by decide)) (fun c => ?_)
  refine lv_iload_n hx hb dX5_isName_18 rfl (lv_at hl 0 rfl) ?_
  refine lv_bipush (v := 119) hx hb dX5_isName_19 (by decide) ?_
  refine lv_icmp_eq (tgt := 36) hx hb dX5_isName_21 (by decide) (fun c => absurd c (by decide)) (fun c => ?_)
  refine lv_iload_n hx hb dX5_isName_24 rfl (lv_at hl 0 rfl) ?_
  refine lv_bipush (v := 104) hx hb dX5_isName_25 (by decide) ?_
  refine lv_icmp_eq (tgt := 36) hx hb dX5_isName_27 (by decide) (fun c => absurd c (by decide)) (fun c => ?_)
  refine lv_iload_n hx hb dX5_isName_30 rfl (lv_at hl 0 rfl) ?_
  refine lv_bipush (v := 107) hx hb dX5_isName_31 (by decide) ?_
  refine lv_icmp_ne (tgt := 40) hx hb dX5_isName_33 (by decide) (fun c => ?_) (fun c => absurd c (by decide))
  refine lv_iconst (v := 0) hx hb dX5_isName_40 (by decide) ?_
  exact hret _ _ _ _ (0) f L Q dX5_isName_41 (by decide) hP hS ⟨⟨rfl, rfl, rfl⟩, ⟨rfl, trivial⟩⟩

set_option maxHeartbeats 4000000 in
set_option maxRecDepth 100000 in
theorem cf_X5_fail (l : Launch) (D : va_G) (ca : Nat → ClassId) (za h : Nat → Nat) (hh : sgH 52 h) (f : sg_F) (L : sg_L) (Q : sg_Q) (h1 : f 4 1 = 0) (h6 : f 4 6 = 0) (h8 : f 4 8 = 0) (h7 : f 4 7 = (-1)) (sz : Nat) : Met l yX5_fail wsX5_fail { frames := 0, cells := 0, slots := 0, locals := 0 } (sgP D vwCl (tyX ca) 52 h (eX ca h) zcX za f L Q sz [.ref (h 4)]) (sgQv D vwCl 52 h (eX ca h) sz (fun f1 L1 Q1 => (f1 4 1 = 0 ∧ f1 4 6 = 0 ∧ f1 4 7 = 0 ∧ f1 4 8 = 0))) 0 0 (sgA 52 h sz) := by
  refine sg_ofWv (cc := cX5_fail) (maxL := 1) RX5 (by decide) rfl rfl (Nat.le_of_ble_eq_true rfl) ?_
  intro p e s m below meth c Qz ls hx hb hml hown hts hK hZ hP hS hl hret
  have hA := sgY.self (n := 52) (h := h) (sz := s.heap.size)
  have hl : lv_has ls 1 [(0, .ref (h 4))] := hl
  obtain ⟨H, hH⟩ : ∃ z : Heap, z = s.heap := ⟨_, rfl⟩
  obtain ⟨locs, hlo⟩ : ∃ z : List Loc, z = [] := ⟨_, rfl⟩
  have hP : va_P D vwCl (sgw 52 h (eX ca h) f L Q) H := by rw [hH]; exact hP
  have hS : va_S (sgA 52 h s.heap.size) s.heap H locs := by rw [hH, hlo]; exact hS
  suffices hgo : W p l e ({ frames := 0, cells := 0, slots := 0, locals := 0 }) s m ([.ref (h 4)] : List Value).toArray below meth c H locs 0 0 Qz (F0 m 0 ls []) by rw [hH, hlo] at hgo; exact hgo
  refine lv_aload_n hx hb dX5_fail_0 rfl (lv_at hl 0 rfl) ?_
  refine sg_get (ci := 5) (v := .int (-1)) (C := RX5) (T := TX5) (N := 10) hx hb hts (by decide +kernel) hown hK hP 4 (by decide) rfl rfl 7 (by decide) (hts (.fieldLink RX5 31 "SetAgain$Law" "fault" "I") (by decide +kernel)) (fun _ h9 => h9) (congrArg (fun z => some (Value.int z)) (show f 4 7 = (-1) from h7)) dX5_fail_1 ?_
  refine lv_if_ge (tgt := 15) hx hb dX5_fail_4 (by decide) (fun c => absurd c (by decide)) (fun c => ?_)
  refine lv_aload_n hx hb dX5_fail_7 rfl (lv_at hl 0 rfl) ?_
  refine lv_aload_n hx hb dX5_fail_8 rfl (lv_at hl 0 rfl) ?_
  refine sg_get (ci := 5) (v := .int 0) (C := RX5) (T := TX5) (N := 10) hx hb hts (by decide +kernel) hown hK hP 4 (by decide) rfl rfl 6 (by decide) (hts (.fieldLink RX5 28 "SetAgain$Law" "at" "I") (by decide +kernel)) (fun _ h9 => h9) (congrArg (fun z => some (Value.int z)) (show f 4 6 = 0 from h6)) dX5_fail_9 ?_
  refine sg_put (ci := 5) (x := 0) (ty := .int) (C := RX5) (T := TX5) (N := 10) hx hb hts (by decide +kernel) tyX5 tyX5_ok nmX5 hown hh hA hK hP hS 4 (by decide) rfl rfl 7 (by decide) (hts (.fieldLink RX5 31 "SetAgain$Law" "fault" "I") (by decide +kernel)) (fun _ h9 => h9) rfl rfl (by decide +kernel) rfl rfl (Nat.le_of_ble_eq_true rfl) dX5_fail_12 (fun f_1 H locs ef_1 hP hS => ?_)
  exact hret _ _ _ _ f_1 L Q dX5_fail_15 hP hS ⟨(show _ = _ from (by rw [ef_1]; exact (show _ = _ from h1))), (show _ = _ from (by rw [ef_1]; exact (show _ = _ from h6))), (show _ = _ from (by rw [ef_1]; rfl)), (show _ = _ from (by rw [ef_1]; exact (show _ = _ from h8)))⟩

set_option maxHeartbeats 4000000 in
set_option maxRecDepth 100000 in
theorem cf_X5_operand (l : Launch) (D : va_G) (ca : Nat → ClassId) (za h : Nat → Nat) (hh : sgH 52 h) (f : sg_F) (L : sg_L) (Q : sg_Q) (h1 : f 4 1 = 0) (h6 : f 4 6 = 0) (h8 : f 4 8 = 0) (h7 : f 4 7 = (-1)) (sz : Nat) : Met l yX5_operand wsX5_operand { frames := 1, cells := 0, slots := 0, locals := 20 } (sgP D vwCl (tyX ca) 52 h (eX ca h) zcX za f L Q sz [.ref (h 4), .int 0]) (sgQv D vwCl 52 h (eX ca h) sz (fun f1 L1 Q1 => (f1 4 1 = 0 ∧ f1 4 6 = 0 ∧ f1 4 7 = 0 ∧ f1 4 8 = 0))) 0 0 (sgA 52 h sz) := by
  refine sg_ofWv (cc := cX5_operand) (maxL := 3) RX5 (by decide) rfl rfl (Nat.le_of_ble_eq_true rfl) ?_
  intro p e s m below meth c Qz ls hx hb hml hown hts hK hZ hP hS hl hret
  have hA := sgY.self (n := 52) (h := h) (sz := s.heap.size)
  have hl : lv_has ls 3 [(0, .ref (h 4)), (1, .int 0)] := hl
  obtain ⟨H, hH⟩ : ∃ z : Heap, z = s.heap := ⟨_, rfl⟩
  obtain ⟨locs, hlo⟩ : ∃ z : List Loc, z = [] := ⟨_, rfl⟩
  have hP : va_P D vwCl (sgw 52 h (eX ca h) f L Q) H := by rw [hH]; exact hP
  have hS : va_S (sgA 52 h s.heap.size) s.heap H locs := by rw [hH, hlo]; exact hS
  suffices hgo : W p l e ({ frames := 1, cells := 0, slots := 0, locals := 20 }) s m ([.ref (h 4), .int 0] : List Value).toArray below meth c H locs 0 0 Qz (F0 m 0 ls []) by rw [hH, hlo] at hgo; exact hgo
  refine lv_aload_n hx hb dX5_operand_0 rfl (lv_at hl 0 rfl) ?_
  refine sg_calli (va_runV (As := []) (rest := []) ⟨hx, hb, hml, hown, hts⟩ (cf_X5_next_a l D ca za h hh f L Q (h1) (h6) (h8) (h7) H.size) (cwV 0 hts gX5_operand_X5_next rfl rfl rfl (by decide +kernel) ⟨Nat.le_of_ble_eq_true rfl, Nat.le_of_ble_eq_true rfl⟩) (sg_preV (ci := 5) (C := RX5) (T := TX5) (N := 10) hA hK hP hS hZ 4 (by decide) rfl rfl) rfl rfl hl.1 rfl (lv_room (Nat.le_of_ble_eq_true rfl)) dX5_operand_1 ⟨Nat.le_refl _, Nat.le_refl _⟩) hA hS (fun r_4 f_1 L_2 Q_3 H locs hq hP hS => ?_)
  obtain ⟨⟨ef9, eL9, eQ9⟩, hq⟩ := hq
  rw [ef9, eL9, eQ9] at hP; clear ef9 eL9 eQ9
  obtain ⟨rfl, hq⟩ := hq
  have q_5 := hq
  refine lv_istore_n (lv' := [(2, .int (-1)), (0, .ref (h 4)), (1, .int 0)]) hx hb dX5_operand_4 rfl hl (by decide) rfl (fun ls hl => ?_)
  refine lv_iload_n hx hb dX5_operand_5 rfl (lv_at hl 0 rfl) ?_
  refine sg_calli (va_runS (As := [.int (-1)]) (rest := []) ⟨hx, hb, hml, hown, hts⟩ (cf_X5_isDigit l D ca za h hh f L Q H.size) (va_cwS 1 hts gX5_operand_X5_isDigit rfl rfl rfl (by decide +kernel) ⟨Nat.le_of_ble_eq_true rfl, Nat.le_of_ble_eq_true rfl⟩) (sg_preS hA hK hP hS hZ) rfl rfl hl.1 rfl (lv_room (Nat.le_of_ble_eq_true rfl)) dX5_operand_6 ⟨Nat.le_refl _, Nat.le_refl _⟩) hA hS (fun r_9 f_6 L_7 Q_8 H locs hq hP hS => ?_)
  obtain ⟨⟨ef9, eL9, eQ9⟩, hq⟩ := hq
  rw [ef9, eL9, eQ9] at hP; clear ef9 eL9 eQ9
  have k_10 : ((-1) : Int32).toInt = (-1) := by decide
  obtain ⟨rfl, hq⟩ := hq
  have q_11 := hq
  refine lv_if_eq (tgt := 19) hx hb dX5_operand_9 (by decide) (fun c => ?_) (fun c => absurd c (by decide))
  refine lv_iload_n hx hb dX5_operand_19 rfl (lv_at hl 0 rfl) ?_
  refine sg_calli (va_runS (As := [.int (-1)]) (rest := []) ⟨hx, hb, hml, hown, hts⟩ (cf_X5_isName l D ca za h hh f L Q H.size) (va_cwS 1 hts gX5_operand_X5_isName rfl rfl rfl (by decide +kernel) ⟨Nat.le_of_ble_eq_true rfl, Nat.le_of_ble_eq_true rfl⟩) (sg_preS hA hK hP hS hZ) rfl rfl hl.1 rfl (lv_room (Nat.le_of_ble_eq_true rfl)) dX5_operand_20 ⟨Nat.le_refl _, Nat.le_refl _⟩) hA hS (fun r_15 f_12 L_13 Q_14 H locs hq hP hS => ?_)
  obtain ⟨⟨ef9, eL9, eQ9⟩, hq⟩ := hq
  rw [ef9, eL9, eQ9] at hP; clear ef9 eL9 eQ9
  have k_16 : ((-1) : Int32).toInt = (-1) := by decide
  obtain ⟨rfl, hq⟩ := hq
  have q_17 := hq
  refine lv_if_eq (tgt := 44) hx hb dX5_operand_23 (by decide) (fun c => ?_) (fun c => absurd c (by decide))
  refine lv_iload_n hx hb dX5_operand_44 rfl (lv_at hl 0 rfl) ?_
  refine lv_bipush (v := 40) hx hb dX5_operand_45 (by decide) ?_
  refine lv_icmp_eq (tgt := 62) hx hb dX5_operand_47 (by decide) (fun c => absurd c (by decide)) (fun c => ?_)
  refine lv_iload_n hx hb dX5_operand_50 rfl (lv_at hl 0 rfl) ?_
  refine lv_bipush (v := 33) hx hb dX5_operand_51 (by decide) ?_
  refine lv_icmp_eq (tgt := 62) hx hb dX5_operand_53 (by decide) (fun c => absurd c (by decide)) (fun c => ?_)
  refine lv_iload_n hx hb dX5_operand_56 rfl (lv_at hl 0 rfl) ?_
  refine lv_bipush (v := 45) hx hb dX5_operand_57 (by decide) ?_
  refine lv_icmp_ne (tgt := 68) hx hb dX5_operand_59 (by decide) (fun c => ?_) (fun c => absurd c (by decide))
  refine lv_aload_n hx hb dX5_operand_68 rfl (lv_at hl 1 rfl) ?_
  refine sg_callv (va_runV (As := []) (rest := []) ⟨hx, hb, hml, hown, hts⟩ (cf_X5_fail l D ca za h hh f L Q (h1) (h6) (h8) (h7) H.size) (cwV 0 hts gX5_operand_X5_fail rfl rfl rfl (by decide +kernel) ⟨Nat.le_of_ble_eq_true rfl, Nat.le_of_ble_eq_true rfl⟩) (sg_preV (ci := 5) (C := RX5) (T := TX5) (N := 10) hA hK hP hS hZ 4 (by decide) rfl rfl) rfl rfl hl.1 rfl (lv_room (Nat.le_of_ble_eq_true rfl)) dX5_operand_69 ⟨Nat.le_refl _, Nat.le_refl _⟩) hA hS (fun f_18 L_19 Q_20 H locs hq hP hS => ?_)
  obtain ⟨h_21, h_22, h_23, h_24⟩ := hq
  refine lv_goto (tgt := 93) hx hb dX5_operand_72 (by decide) ?_
  exact hret _ _ _ _ f_18 L_19 Q_20 dX5_operand_93 hP hS ⟨(show _ = _ from h_21), (show _ = _ from h_22), (show _ = _ from h_23), (show _ = _ from h_24)⟩

set_option maxHeartbeats 4000000 in
set_option maxRecDepth 100000 in
theorem cf_X5_product (l : Launch) (D : va_G) (ca : Nat → ClassId) (za h : Nat → Nat) (hh : sgH 52 h) (f : sg_F) (L : sg_L) (Q : sg_Q) (h1 : f 4 1 = 0) (h6 : f 4 6 = 0) (h8 : f 4 8 = 0) (h7 : f 4 7 = (-1)) (sz : Nat) : Met l yX5_product wsX5_product { frames := 2, cells := 0, slots := 0, locals := 42 } (sgP D vwCl (tyX ca) 52 h (eX ca h) zcX za f L Q sz [.ref (h 4), .int 0]) (sgQv D vwCl 52 h (eX ca h) sz (fun f1 L1 Q1 => (f1 4 1 = 0 ∧ f1 4 6 = 0 ∧ f1 4 7 = 0 ∧ f1 4 8 = 0))) 0 0 (sgA 52 h sz) := by
  refine sg_ofWv (cc := cX5_product) (maxL := 4) RX5 (by decide) rfl rfl (Nat.le_of_ble_eq_true rfl) ?_
  intro p e s m below meth c Qz ls hx hb hml hown hts hK hZ hP hS hl hret
  have hA := sgY.self (n := 52) (h := h) (sz := s.heap.size)
  have hl : lv_has ls 4 [(0, .ref (h 4)), (1, .int 0)] := hl
  obtain ⟨H, hH⟩ : ∃ z : Heap, z = s.heap := ⟨_, rfl⟩
  obtain ⟨locs, hlo⟩ : ∃ z : List Loc, z = [] := ⟨_, rfl⟩
  have hP : va_P D vwCl (sgw 52 h (eX ca h) f L Q) H := by rw [hH]; exact hP
  have hS : va_S (sgA 52 h s.heap.size) s.heap H locs := by rw [hH, hlo]; exact hS
  suffices hgo : W p l e ({ frames := 2, cells := 0, slots := 0, locals := 42 }) s m ([.ref (h 4), .int 0] : List Value).toArray below meth c H locs 0 0 Qz (F0 m 0 ls []) by rw [hH, hlo] at hgo; exact hgo
  refine lv_aload_n hx hb dX5_product_0 rfl (lv_at hl 0 rfl) ?_
  refine lv_iload_n hx hb dX5_product_1 rfl (lv_at hl 1 rfl) ?_
  refine sg_callv (va_runV (As := [.int 0]) (rest := []) ⟨hx, hb, hml, hown, hts⟩ (cf_X5_operand l D ca za h hh f L Q (h1) (h6) (h8) (h7) H.size) (cwV 1 hts gX5_product_X5_operand rfl rfl rfl (by decide +kernel) ⟨Nat.le_of_ble_eq_true rfl, Nat.le_of_ble_eq_true rfl⟩) (sg_preV (ci := 5) (C := RX5) (T := TX5) (N := 10) hA hK hP hS hZ 4 (by decide) rfl rfl) rfl rfl hl.1 rfl (lv_room (Nat.le_of_ble_eq_true rfl)) dX5_product_2 ⟨Nat.le_refl _, Nat.le_refl _⟩) hA hS (fun f_1 L_2 Q_3 H locs hq hP hS => ?_)
  obtain ⟨h_4, h_5, h_6, h_7⟩ := hq
  refine lv_aload_n hx hb dX5_product_5 rfl (lv_at hl 0 rfl) ?_
  refine sg_calli (va_runV (As := []) (rest := []) ⟨hx, hb, hml, hown, hts⟩ (cf_X5_next_b l D ca za h hh f_1 L_2 Q_3 (h_4) (h_5) (h_7) (h_6) H.size) (cwV 0 hts gX5_product_X5_next rfl rfl rfl (by decide +kernel) ⟨Nat.le_of_ble_eq_true rfl, Nat.le_of_ble_eq_true rfl⟩) (sg_preV (ci := 5) (C := RX5) (T := TX5) (N := 10) hA hK hP hS hZ 4 (by decide) rfl rfl) rfl rfl hl.1 rfl (lv_room (Nat.le_of_ble_eq_true rfl)) dX5_product_6 ⟨Nat.le_refl _, Nat.le_refl _⟩) hA hS (fun r_11 f_8 L_9 Q_10 H locs hq hP hS => ?_)
  obtain ⟨⟨ef9, eL9, eQ9⟩, hq⟩ := hq
  rw [ef9, eL9, eQ9] at hP; clear ef9 eL9 eQ9
  obtain ⟨rfl, hq⟩ := hq
  have q_12 := hq
  refine lv_istore_n (lv' := [(2, .int (-1)), (0, .ref (h 4)), (1, .int 0)]) hx hb dX5_product_9 rfl hl (by decide) rfl (fun ls hl => ?_)
  refine lv_iconst (v := 0) hx hb dX5_product_10 (by decide) ?_
  refine lv_istore_n (lv' := [(3, .int 0), (2, .int (-1)), (0, .ref (h 4)), (1, .int 0)]) hx hb dX5_product_11 rfl hl (by decide) rfl (fun ls hl => ?_)
  refine lv_iload_n hx hb dX5_product_12 rfl (lv_at hl 0 rfl) ?_
  refine lv_bipush (v := 120) hx hb dX5_product_13 (by decide) ?_
  refine lv_icmp_ge (tgt := 67) hx hb dX5_product_15 (by decide) (fun c => absurd c (by decide)) (fun c => ?_)
  refine lv_iload_n hx hb dX5_product_18 rfl (lv_at hl 1 rfl) ?_
  refine lv_bipush (v := 42) hx hb dX5_product_19 (by decide) ?_
  refine lv_icmp_eq (tgt := 36) hx hb dX5_product_21 (by decide) (fun c => absurd c (by decide)) (fun c => ?_)
  refine lv_iload_n hx hb dX5_product_24 rfl (lv_at hl 1 rfl) ?_
  refine lv_bipush (v := 47) hx hb dX5_product_25 (by decide) ?_
  refine lv_icmp_eq (tgt := 36) hx hb dX5_product_27 (by decide) (fun c => absurd c (by decide)) (fun c => ?_)
  refine lv_iload_n hx hb dX5_product_30 rfl (lv_at hl 1 rfl) ?_
  refine lv_bipush (v := 37) hx hb dX5_product_31 (by decide) ?_
  refine lv_icmp_ne (tgt := 67) hx hb dX5_product_33 (by decide) (fun c => ?_) (fun c => absurd c (by decide))
  exact hret _ _ _ _ f_1 L_2 Q_3 dX5_product_67 hP hS ⟨(show _ = _ from h_4), (show _ = _ from h_5), (show _ = _ from h_6), (show _ = _ from h_7)⟩

set_option maxHeartbeats 4000000 in
set_option maxRecDepth 100000 in
theorem cf_X5_sum (l : Launch) (D : va_G) (ca : Nat → ClassId) (za h : Nat → Nat) (hh : sgH 52 h) (f : sg_F) (L : sg_L) (Q : sg_Q) (h1 : f 4 1 = 0) (h6 : f 4 6 = 0) (h8 : f 4 8 = 0) (h7 : f 4 7 = (-1)) (sz : Nat) : Met l yX5_sum wsX5_sum { frames := 3, cells := 0, slots := 0, locals := 65 } (sgP D vwCl (tyX ca) 52 h (eX ca h) zcX za f L Q sz [.ref (h 4), .int 0]) (sgQv D vwCl 52 h (eX ca h) sz (fun f1 L1 Q1 => (f1 4 1 = 0 ∧ f1 4 6 = 0 ∧ f1 4 7 = 0 ∧ f1 4 8 = 0))) 0 0 (sgA 52 h sz) := by
  refine sg_ofWv (cc := cX5_sum) (maxL := 4) RX5 (by decide) rfl rfl (Nat.le_of_ble_eq_true rfl) ?_
  intro p e s m below meth c Qz ls hx hb hml hown hts hK hZ hP hS hl hret
  have hA := sgY.self (n := 52) (h := h) (sz := s.heap.size)
  have hl : lv_has ls 4 [(0, .ref (h 4)), (1, .int 0)] := hl
  obtain ⟨H, hH⟩ : ∃ z : Heap, z = s.heap := ⟨_, rfl⟩
  obtain ⟨locs, hlo⟩ : ∃ z : List Loc, z = [] := ⟨_, rfl⟩
  have hP : va_P D vwCl (sgw 52 h (eX ca h) f L Q) H := by rw [hH]; exact hP
  have hS : va_S (sgA 52 h s.heap.size) s.heap H locs := by rw [hH, hlo]; exact hS
  suffices hgo : W p l e ({ frames := 3, cells := 0, slots := 0, locals := 65 }) s m ([.ref (h 4), .int 0] : List Value).toArray below meth c H locs 0 0 Qz (F0 m 0 ls []) by rw [hH, hlo] at hgo; exact hgo
  refine lv_aload_n hx hb dX5_sum_0 rfl (lv_at hl 0 rfl) ?_
  refine lv_iload_n hx hb dX5_sum_1 rfl (lv_at hl 1 rfl) ?_
  refine sg_callv (va_runV (As := [.int 0]) (rest := []) ⟨hx, hb, hml, hown, hts⟩ (cf_X5_product l D ca za h hh f L Q (h1) (h6) (h8) (h7) H.size) (cwV 1 hts gX5_sum_X5_product rfl rfl rfl (by decide +kernel) ⟨Nat.le_of_ble_eq_true rfl, Nat.le_of_ble_eq_true rfl⟩) (sg_preV (ci := 5) (C := RX5) (T := TX5) (N := 10) hA hK hP hS hZ 4 (by decide) rfl rfl) rfl rfl hl.1 rfl (lv_room (Nat.le_of_ble_eq_true rfl)) dX5_sum_2 ⟨Nat.le_refl _, Nat.le_refl _⟩) hA hS (fun f_1 L_2 Q_3 H locs hq hP hS => ?_)
  obtain ⟨h_4, h_5, h_6, h_7⟩ := hq
  refine lv_aload_n hx hb dX5_sum_5 rfl (lv_at hl 0 rfl) ?_
  refine sg_calli (va_runV (As := []) (rest := []) ⟨hx, hb, hml, hown, hts⟩ (cf_X5_next_b l D ca za h hh f_1 L_2 Q_3 (h_4) (h_5) (h_7) (h_6) H.size) (cwV 0 hts gX5_sum_X5_next rfl rfl rfl (by decide +kernel) ⟨Nat.le_of_ble_eq_true rfl, Nat.le_of_ble_eq_true rfl⟩) (sg_preV (ci := 5) (C := RX5) (T := TX5) (N := 10) hA hK hP hS hZ 4 (by decide) rfl rfl) rfl rfl hl.1 rfl (lv_room (Nat.le_of_ble_eq_true rfl)) dX5_sum_6 ⟨Nat.le_refl _, Nat.le_refl _⟩) hA hS (fun r_11 f_8 L_9 Q_10 H locs hq hP hS => ?_)
  obtain ⟨⟨ef9, eL9, eQ9⟩, hq⟩ := hq
  rw [ef9, eL9, eQ9] at hP; clear ef9 eL9 eQ9
  obtain ⟨rfl, hq⟩ := hq
  have q_12 := hq
  refine lv_istore_n (lv' := [(2, .int (-1)), (0, .ref (h 4)), (1, .int 0)]) hx hb dX5_sum_9 rfl hl (by decide) rfl (fun ls hl => ?_)
  refine lv_iconst (v := 0) hx hb dX5_sum_10 (by decide) ?_
  refine lv_istore_n (lv' := [(3, .int 0), (2, .int (-1)), (0, .ref (h 4)), (1, .int 0)]) hx hb dX5_sum_11 rfl hl (by decide) rfl (fun ls hl => ?_)
  refine lv_iload_n hx hb dX5_sum_12 rfl (lv_at hl 0 rfl) ?_
  refine lv_bipush (v := 120) hx hb dX5_sum_13 (by decide) ?_
  refine lv_icmp_ge (tgt := 61) hx hb dX5_sum_15 (by decide) (fun c => absurd c (by decide)) (fun c => ?_)
  refine lv_iload_n hx hb dX5_sum_18 rfl (lv_at hl 1 rfl) ?_
  refine lv_bipush (v := 43) hx hb dX5_sum_19 (by decide) ?_
  refine lv_icmp_eq (tgt := 30) hx hb dX5_sum_21 (by decide) (fun c => absurd c (by decide)) (fun c => ?_)
  refine lv_iload_n hx hb dX5_sum_24 rfl (lv_at hl 1 rfl) ?_
  refine lv_bipush (v := 45) hx hb dX5_sum_25 (by decide) ?_
  refine lv_icmp_ne (tgt := 61) hx hb dX5_sum_27 (by decide) (fun c => ?_) (fun c => absurd c (by decide))
  exact hret _ _ _ _ f_1 L_2 Q_3 dX5_sum_61 hP hS ⟨(show _ = _ from h_4), (show _ = _ from h_5), (show _ = _ from h_6), (show _ = _ from h_7)⟩

set_option maxHeartbeats 4000000 in
set_option maxRecDepth 100000 in
theorem cf_X5_compared (l : Launch) (D : va_G) (ca : Nat → ClassId) (za h : Nat → Nat) (hh : sgH 52 h) (f : sg_F) (L : sg_L) (Q : sg_Q) (h1 : f 4 1 = 0) (h6 : f 4 6 = 0) (h8 : f 4 8 = 0) (h7 : f 4 7 = (-1)) (sz : Nat) : Met l yX5_compared wsX5_compared { frames := 4, cells := 0, slots := 0, locals := 88 } (sgP D vwCl (tyX ca) 52 h (eX ca h) zcX za f L Q sz [.ref (h 4), .int 0]) (sgQv D vwCl 52 h (eX ca h) sz (fun f1 L1 Q1 => (f1 4 1 = 0 ∧ f1 4 6 = 0 ∧ f1 4 7 = 0 ∧ f1 4 8 = 0))) 0 0 (sgA 52 h sz) := by
  refine sg_ofWv (cc := cX5_compared) (maxL := 3) RX5 (by decide) rfl rfl (Nat.le_of_ble_eq_true rfl) ?_
  intro p e s m below meth c Qz ls hx hb hml hown hts hK hZ hP hS hl hret
  have hA := sgY.self (n := 52) (h := h) (sz := s.heap.size)
  have hl : lv_has ls 3 [(0, .ref (h 4)), (1, .int 0)] := hl
  obtain ⟨H, hH⟩ : ∃ z : Heap, z = s.heap := ⟨_, rfl⟩
  obtain ⟨locs, hlo⟩ : ∃ z : List Loc, z = [] := ⟨_, rfl⟩
  have hP : va_P D vwCl (sgw 52 h (eX ca h) f L Q) H := by rw [hH]; exact hP
  have hS : va_S (sgA 52 h s.heap.size) s.heap H locs := by rw [hH, hlo]; exact hS
  suffices hgo : W p l e ({ frames := 4, cells := 0, slots := 0, locals := 88 }) s m ([.ref (h 4), .int 0] : List Value).toArray below meth c H locs 0 0 Qz (F0 m 0 ls []) by rw [hH, hlo] at hgo; exact hgo
  refine lv_aload_n hx hb dX5_compared_0 rfl (lv_at hl 0 rfl) ?_
  refine lv_iload_n hx hb dX5_compared_1 rfl (lv_at hl 1 rfl) ?_
  refine sg_callv (va_runV (As := [.int 0]) (rest := []) ⟨hx, hb, hml, hown, hts⟩ (cf_X5_sum l D ca za h hh f L Q (h1) (h6) (h8) (h7) H.size) (cwV 1 hts gX5_compared_X5_sum rfl rfl rfl (by decide +kernel) ⟨Nat.le_of_ble_eq_true rfl, Nat.le_of_ble_eq_true rfl⟩) (sg_preV (ci := 5) (C := RX5) (T := TX5) (N := 10) hA hK hP hS hZ 4 (by decide) rfl rfl) rfl rfl hl.1 rfl (lv_room (Nat.le_of_ble_eq_true rfl)) dX5_compared_2 ⟨Nat.le_refl _, Nat.le_refl _⟩) hA hS (fun f_1 L_2 Q_3 H locs hq hP hS => ?_)
  obtain ⟨h_4, h_5, h_6, h_7⟩ := hq
  refine lv_aload_n hx hb dX5_compared_5 rfl (lv_at hl 0 rfl) ?_
  refine sg_calli (va_runV (As := []) (rest := []) ⟨hx, hb, hml, hown, hts⟩ (cf_X5_next_b l D ca za h hh f_1 L_2 Q_3 (h_4) (h_5) (h_7) (h_6) H.size) (cwV 0 hts gX5_compared_X5_next rfl rfl rfl (by decide +kernel) ⟨Nat.le_of_ble_eq_true rfl, Nat.le_of_ble_eq_true rfl⟩) (sg_preV (ci := 5) (C := RX5) (T := TX5) (N := 10) hA hK hP hS hZ 4 (by decide) rfl rfl) rfl rfl hl.1 rfl (lv_room (Nat.le_of_ble_eq_true rfl)) dX5_compared_6 ⟨Nat.le_refl _, Nat.le_refl _⟩) hA hS (fun r_11 f_8 L_9 Q_10 H locs hq hP hS => ?_)
  obtain ⟨⟨ef9, eL9, eQ9⟩, hq⟩ := hq
  rw [ef9, eL9, eQ9] at hP; clear ef9 eL9 eQ9
  obtain ⟨rfl, hq⟩ := hq
  have q_12 := hq
  refine lv_istore_n (lv' := [(2, .int (-1)), (0, .ref (h 4)), (1, .int 0)]) hx hb dX5_compared_9 rfl hl (by decide) rfl (fun ls hl => ?_)
  refine lv_iload_n hx hb dX5_compared_10 rfl (lv_at hl 0 rfl) ?_
  refine lv_bipush (v := 60) hx hb dX5_compared_11 (by decide) ?_
  refine lv_icmp_eq (tgt := 28) hx hb dX5_compared_13 (by decide) (fun c => absurd c (by decide)) (fun c => ?_)
  refine lv_iload_n hx hb dX5_compared_16 rfl (lv_at hl 0 rfl) ?_
  refine lv_bipush (v := 61) hx hb dX5_compared_17 (by decide) ?_
  refine lv_icmp_eq (tgt := 28) hx hb dX5_compared_19 (by decide) (fun c => absurd c (by decide)) (fun c => ?_)
  refine lv_iload_n hx hb dX5_compared_22 rfl (lv_at hl 0 rfl) ?_
  refine lv_bipush (v := 62) hx hb dX5_compared_23 (by decide) ?_
  refine lv_icmp_ne (tgt := 48) hx hb dX5_compared_25 (by decide) (fun c => ?_) (fun c => absurd c (by decide))
  exact hret _ _ _ _ f_1 L_2 Q_3 dX5_compared_48 hP hS ⟨(show _ = _ from h_4), (show _ = _ from h_5), (show _ = _ from h_6), (show _ = _ from h_7)⟩

set_option maxHeartbeats 4000000 in
set_option maxRecDepth 100000 in
theorem cf_X5_both (l : Launch) (D : va_G) (ca : Nat → ClassId) (za h : Nat → Nat) (hh : sgH 52 h) (f : sg_F) (L : sg_L) (Q : sg_Q) (h1 : f 4 1 = 0) (h6 : f 4 6 = 0) (h8 : f 4 8 = 0) (h7 : f 4 7 = (-1)) (sz : Nat) : Met l yX5_both wsX5_both { frames := 5, cells := 0, slots := 0, locals := 110 } (sgP D vwCl (tyX ca) 52 h (eX ca h) zcX za f L Q sz [.ref (h 4), .int 0]) (sgQv D vwCl 52 h (eX ca h) sz (fun f1 L1 Q1 => (f1 4 1 = 0 ∧ f1 4 6 = 0 ∧ f1 4 7 = 0 ∧ f1 4 8 = 0))) 0 0 (sgA 52 h sz) := by
  refine sg_ofWv (cc := cX5_both) (maxL := 3) RX5 (by decide) rfl rfl (Nat.le_of_ble_eq_true rfl) ?_
  intro p e s m below meth c Qz ls hx hb hml hown hts hK hZ hP hS hl hret
  have hA := sgY.self (n := 52) (h := h) (sz := s.heap.size)
  have hl : lv_has ls 3 [(0, .ref (h 4)), (1, .int 0)] := hl
  obtain ⟨H, hH⟩ : ∃ z : Heap, z = s.heap := ⟨_, rfl⟩
  obtain ⟨locs, hlo⟩ : ∃ z : List Loc, z = [] := ⟨_, rfl⟩
  have hP : va_P D vwCl (sgw 52 h (eX ca h) f L Q) H := by rw [hH]; exact hP
  have hS : va_S (sgA 52 h s.heap.size) s.heap H locs := by rw [hH, hlo]; exact hS
  suffices hgo : W p l e ({ frames := 5, cells := 0, slots := 0, locals := 110 }) s m ([.ref (h 4), .int 0] : List Value).toArray below meth c H locs 0 0 Qz (F0 m 0 ls []) by rw [hH, hlo] at hgo; exact hgo
  refine lv_aload_n hx hb dX5_both_0 rfl (lv_at hl 0 rfl) ?_
  refine lv_iload_n hx hb dX5_both_1 rfl (lv_at hl 1 rfl) ?_
  refine sg_callv (va_runV (As := [.int 0]) (rest := []) ⟨hx, hb, hml, hown, hts⟩ (cf_X5_compared l D ca za h hh f L Q (h1) (h6) (h8) (h7) H.size) (cwV 1 hts gX5_both_X5_compared rfl rfl rfl (by decide +kernel) ⟨Nat.le_of_ble_eq_true rfl, Nat.le_of_ble_eq_true rfl⟩) (sg_preV (ci := 5) (C := RX5) (T := TX5) (N := 10) hA hK hP hS hZ 4 (by decide) rfl rfl) rfl rfl hl.1 rfl (lv_room (Nat.le_of_ble_eq_true rfl)) dX5_both_2 ⟨Nat.le_refl _, Nat.le_refl _⟩) hA hS (fun f_1 L_2 Q_3 H locs hq hP hS => ?_)
  obtain ⟨h_4, h_5, h_6, h_7⟩ := hq
  refine lv_iconst (v := 0) hx hb dX5_both_5 (by decide) ?_
  refine lv_istore_n (lv' := [(2, .int 0), (0, .ref (h 4)), (1, .int 0)]) hx hb dX5_both_6 rfl hl (by decide) rfl (fun ls hl => ?_)
  refine lv_iload_n hx hb dX5_both_7 rfl (lv_at hl 0 rfl) ?_
  refine lv_bipush (v := 120) hx hb dX5_both_8 (by decide) ?_
  refine lv_icmp_ge (tgt := 49) hx hb dX5_both_10 (by decide) (fun c => absurd c (by decide)) (fun c => ?_)
  refine lv_aload_n hx hb dX5_both_13 rfl (lv_at hl 1 rfl) ?_
  refine sg_calli (va_runV (As := []) (rest := []) ⟨hx, hb, hml, hown, hts⟩ (cf_X5_next_b l D ca za h hh f_1 L_2 Q_3 (h_4) (h_5) (h_7) (h_6) H.size) (cwV 0 hts gX5_both_X5_next rfl rfl rfl (by decide +kernel) ⟨Nat.le_of_ble_eq_true rfl, Nat.le_of_ble_eq_true rfl⟩) (sg_preV (ci := 5) (C := RX5) (T := TX5) (N := 10) hA hK hP hS hZ 4 (by decide) rfl rfl) rfl rfl hl.1 rfl (lv_room (Nat.le_of_ble_eq_true rfl)) dX5_both_14 ⟨Nat.le_refl _, Nat.le_refl _⟩) hA hS (fun r_11 f_8 L_9 Q_10 H locs hq hP hS => ?_)
  obtain ⟨⟨ef9, eL9, eQ9⟩, hq⟩ := hq
  rw [ef9, eL9, eQ9] at hP; clear ef9 eL9 eQ9
  obtain ⟨rfl, hq⟩ := hq
  have q_12 := hq
  refine lv_bipush (v := 38) hx hb dX5_both_17 (by decide) ?_
  refine lv_icmp_ne (tgt := 49) hx hb dX5_both_19 (by decide) (fun c => ?_) (fun c => absurd c (by decide))
  exact hret _ _ _ _ f_1 L_2 Q_3 dX5_both_49 hP hS ⟨(show _ = _ from h_4), (show _ = _ from h_5), (show _ = _ from h_6), (show _ = _ from h_7)⟩

set_option maxHeartbeats 4000000 in
set_option maxRecDepth 100000 in
theorem cf_X5_either (l : Launch) (D : va_G) (ca : Nat → ClassId) (za h : Nat → Nat) (hh : sgH 52 h) (f : sg_F) (L : sg_L) (Q : sg_Q) (h1 : f 4 1 = 0) (h6 : f 4 6 = 0) (h8 : f 4 8 = 0) (h7 : f 4 7 = (-1)) (sz : Nat) : Met l yX5_either wsX5_either { frames := 6, cells := 0, slots := 0, locals := 132 } (sgP D vwCl (tyX ca) 52 h (eX ca h) zcX za f L Q sz [.ref (h 4), .int 0]) (sgQv D vwCl 52 h (eX ca h) sz (fun f1 L1 Q1 => (f1 4 1 = 0 ∧ f1 4 6 = 0 ∧ f1 4 7 = 0 ∧ f1 4 8 = 0))) 0 0 (sgA 52 h sz) := by
  refine sg_ofWv (cc := cX5_either) (maxL := 3) RX5 (by decide) rfl rfl (Nat.le_of_ble_eq_true rfl) ?_
  intro p e s m below meth c Qz ls hx hb hml hown hts hK hZ hP hS hl hret
  have hA := sgY.self (n := 52) (h := h) (sz := s.heap.size)
  have hl : lv_has ls 3 [(0, .ref (h 4)), (1, .int 0)] := hl
  obtain ⟨H, hH⟩ : ∃ z : Heap, z = s.heap := ⟨_, rfl⟩
  obtain ⟨locs, hlo⟩ : ∃ z : List Loc, z = [] := ⟨_, rfl⟩
  have hP : va_P D vwCl (sgw 52 h (eX ca h) f L Q) H := by rw [hH]; exact hP
  have hS : va_S (sgA 52 h s.heap.size) s.heap H locs := by rw [hH, hlo]; exact hS
  suffices hgo : W p l e ({ frames := 6, cells := 0, slots := 0, locals := 132 }) s m ([.ref (h 4), .int 0] : List Value).toArray below meth c H locs 0 0 Qz (F0 m 0 ls []) by rw [hH, hlo] at hgo; exact hgo
  refine lv_aload_n hx hb dX5_either_0 rfl (lv_at hl 0 rfl) ?_
  refine lv_iload_n hx hb dX5_either_1 rfl (lv_at hl 1 rfl) ?_
  refine sg_callv (va_runV (As := [.int 0]) (rest := []) ⟨hx, hb, hml, hown, hts⟩ (cf_X5_both l D ca za h hh f L Q (h1) (h6) (h8) (h7) H.size) (cwV 1 hts gX5_either_X5_both rfl rfl rfl (by decide +kernel) ⟨Nat.le_of_ble_eq_true rfl, Nat.le_of_ble_eq_true rfl⟩) (sg_preV (ci := 5) (C := RX5) (T := TX5) (N := 10) hA hK hP hS hZ 4 (by decide) rfl rfl) rfl rfl hl.1 rfl (lv_room (Nat.le_of_ble_eq_true rfl)) dX5_either_2 ⟨Nat.le_refl _, Nat.le_refl _⟩) hA hS (fun f_1 L_2 Q_3 H locs hq hP hS => ?_)
  obtain ⟨h_4, h_5, h_6, h_7⟩ := hq
  refine lv_iconst (v := 0) hx hb dX5_either_5 (by decide) ?_
  refine lv_istore_n (lv' := [(2, .int 0), (0, .ref (h 4)), (1, .int 0)]) hx hb dX5_either_6 rfl hl (by decide) rfl (fun ls hl => ?_)
  refine lv_iload_n hx hb dX5_either_7 rfl (lv_at hl 0 rfl) ?_
  refine lv_bipush (v := 120) hx hb dX5_either_8 (by decide) ?_
  refine lv_icmp_ge (tgt := 49) hx hb dX5_either_10 (by decide) (fun c => absurd c (by decide)) (fun c => ?_)
  refine lv_aload_n hx hb dX5_either_13 rfl (lv_at hl 1 rfl) ?_
  refine sg_calli (va_runV (As := []) (rest := []) ⟨hx, hb, hml, hown, hts⟩ (cf_X5_next_b l D ca za h hh f_1 L_2 Q_3 (h_4) (h_5) (h_7) (h_6) H.size) (cwV 0 hts gX5_either_X5_next rfl rfl rfl (by decide +kernel) ⟨Nat.le_of_ble_eq_true rfl, Nat.le_of_ble_eq_true rfl⟩) (sg_preV (ci := 5) (C := RX5) (T := TX5) (N := 10) hA hK hP hS hZ 4 (by decide) rfl rfl) rfl rfl hl.1 rfl (lv_room (Nat.le_of_ble_eq_true rfl)) dX5_either_14 ⟨Nat.le_refl _, Nat.le_refl _⟩) hA hS (fun r_11 f_8 L_9 Q_10 H locs hq hP hS => ?_)
  obtain ⟨⟨ef9, eL9, eQ9⟩, hq⟩ := hq
  rw [ef9, eL9, eQ9] at hP; clear ef9 eL9 eQ9
  obtain ⟨rfl, hq⟩ := hq
  have q_12 := hq
  refine lv_bipush (v := 124) hx hb dX5_either_17 (by decide) ?_
  refine lv_icmp_ne (tgt := 49) hx hb dX5_either_19 (by decide) (fun c => ?_) (fun c => absurd c (by decide))
  exact hret _ _ _ _ f_1 L_2 Q_3 dX5_either_49 hP hS ⟨(show _ = _ from h_4), (show _ = _ from h_5), (show _ = _ from h_6), (show _ = _ from h_7)⟩

set_option maxHeartbeats 4000000 in
set_option maxRecDepth 100000 in
theorem cf_X5_write (l : Launch) (D : va_G) (ca : Nat → ClassId) (za h : Nat → Nat) (hh : sgH 52 h) (f : sg_F) (L : sg_L) (Q : sg_Q) (h1 : f 4 1 = 0) (h6 : f 4 6 = 0) (h8 : f 4 8 = 0) (h7 : f 4 7 = 0) (sz : Nat) : Met l yX5_write wsX5_write { frames := 0, cells := 0, slots := 0, locals := 0 } (sgP D vwCl (tyX ca) 52 h (eX ca h) zcX za f L Q sz [.ref (h 4), .int 59]) (sgQv D vwCl 52 h (eX ca h) sz (fun f1 L1 Q1 => (f1 4 1 = 0 ∧ f1 4 6 = 0 ∧ f1 4 7 = 0))) 0 0 (sgA 52 h sz) := by
  refine sg_ofWv (cc := cX5_write) (maxL := 2) RX5 (by decide) rfl rfl (Nat.le_of_ble_eq_true rfl) ?_
  intro p e s m below meth c Qz ls hx hb hml hown hts hK hZ hP hS hl hret
  have hA := sgY.self (n := 52) (h := h) (sz := s.heap.size)
  have hl : lv_has ls 2 [(0, .ref (h 4)), (1, .int 59)] := hl
  obtain ⟨H, hH⟩ : ∃ z : Heap, z = s.heap := ⟨_, rfl⟩
  obtain ⟨locs, hlo⟩ : ∃ z : List Loc, z = [] := ⟨_, rfl⟩
  have hP : va_P D vwCl (sgw 52 h (eX ca h) f L Q) H := by rw [hH]; exact hP
  have hS : va_S (sgA 52 h s.heap.size) s.heap H locs := by rw [hH, hlo]; exact hS
  suffices hgo : W p l e ({ frames := 0, cells := 0, slots := 0, locals := 0 }) s m ([.ref (h 4), .int 59] : List Value).toArray below meth c H locs 0 0 Qz (F0 m 0 ls []) by rw [hH, hlo] at hgo; exact hgo
  refine lv_aload_n hx hb dX5_write_0 rfl (lv_at hl 0 rfl) ?_
  refine sg_get (ci := 5) (v := .int 0) (C := RX5) (T := TX5) (N := 10) hx hb hts (by decide +kernel) hown hK hP 4 (by decide) rfl rfl 8 (by decide) (hts (.fieldLink RX5 34 "SetAgain$Law" "drafted" "I") (by decide +kernel)) (fun _ h9 => h9) (congrArg (fun z => some (Value.int z)) (show f 4 8 = 0 from h8)) dX5_write_1 ?_
  refine lv_aload_n hx hb dX5_write_4 rfl (lv_at hl 0 rfl) ?_
  refine sg_get (ci := 5) (v := .ref (h 6)) (C := RX5) (T := TX5) (N := 10) hx hb hts (by decide +kernel) hown hK hP 4 (by decide) rfl rfl 3 (by decide) (hts (.fieldLink RX5 15 "SetAgain$Law" "draft" "[I") (by decide +kernel)) (fun _ h9 => h9) rfl dX5_write_5 ?_
  refine sg_alen hx hb hK hP 6 (by decide) 0 rfl rfl (v := 121) rfl dX5_write_8 ?_
  refine lv_icmp_ge (tgt := 32) hx hb dX5_write_9 (by decide) (fun c => absurd c (by decide)) (fun c => ?_)
  refine lv_aload_n hx hb dX5_write_12 rfl (lv_at hl 0 rfl) ?_
  refine sg_get (ci := 5) (v := .ref (h 6)) (C := RX5) (T := TX5) (N := 10) hx hb hts (by decide +kernel) hown hK hP 4 (by decide) rfl rfl 3 (by decide) (hts (.fieldLink RX5 15 "SetAgain$Law" "draft" "[I") (by decide +kernel)) (fun _ h9 => h9) rfl dX5_write_13 ?_
  refine lv_aload_n hx hb dX5_write_16 rfl (lv_at hl 0 rfl) ?_
  refine sg_get (ci := 5) (v := .int 0) (C := RX5) (T := TX5) (N := 10) hx hb hts (by decide +kernel) hown hK hP 4 (by decide) rfl rfl 8 (by decide) (hts (.fieldLink RX5 34 "SetAgain$Law" "drafted" "I") (by decide +kernel)) (fun _ h9 => h9) (congrArg (fun z => some (Value.int z)) (show f 4 8 = 0 from h8)) dX5_write_17 ?_
  refine lv_iload_n hx hb dX5_write_20 rfl (lv_at hl 1 rfl) ?_
  refine sg_iast hx hb hh hA hK hP hS 6 (by decide) 0 (fun _ => rfl) rfl (i := 0) (x := 59) (vp_in_iff.mpr (by decide)) dX5_write_21 (fun f_1 H locs ef_1 hP hS => ?_)
  refine lv_aload_n hx hb dX5_write_22 rfl (lv_at hl 0 rfl) ?_
  refine lv_dup hx hb dX5_write_23 rfl ?_
  refine sg_get (ci := 5) (v := .int 0) (C := RX5) (T := TX5) (N := 10) hx hb hts (by decide +kernel) hown hK hP 4 (by decide) rfl rfl 8 (by decide) (hts (.fieldLink RX5 34 "SetAgain$Law" "drafted" "I") (by decide +kernel)) (fun _ h9 => h9) (congrArg (fun z => some (Value.int z)) (show f_1 4 8 = 0 from (by rw [ef_1]; exact (show _ = _ from h8)))) dX5_write_24 ?_
  refine lv_iconst (v := 1) hx hb dX5_write_27 (by decide) ?_
  refine lv_iadd hx hb dX5_write_28 ?_
  refine W.eq (g2 := F0 m 29 ls [.int 1, .ref (h 4)]) (by rw [show (0 + 1 : Int32) = 1 from by decide]) ?_
  refine sg_put (ci := 5) (x := 1) (ty := .int) (C := RX5) (T := TX5) (N := 10) hx hb hts (by decide +kernel) tyX5 tyX5_ok nmX5 hown hh hA hK hP hS 4 (by decide) rfl rfl 8 (by decide) (hts (.fieldLink RX5 34 "SetAgain$Law" "drafted" "I") (by decide +kernel)) (fun _ h9 => h9) rfl rfl (by decide +kernel) rfl rfl (Nat.le_of_ble_eq_true rfl) dX5_write_29 (fun f_2 H locs ef_2 hP hS => ?_)
  exact hret _ _ _ _ f_2 L Q dX5_write_32 hP hS ⟨(show _ = _ from (by rw [ef_2]; exact (show _ = _ from (by rw [ef_1]; exact (show _ = _ from h1))))), (show _ = _ from (by rw [ef_2]; exact (show _ = _ from (by rw [ef_1]; exact (show _ = _ from h6))))), (show _ = _ from (by rw [ef_2]; exact (show _ = _ from (by rw [ef_1]; exact (show _ = _ from h7)))))⟩

set_option maxHeartbeats 4000000 in
set_option maxRecDepth 100000 in
theorem cf_X5_line (l : Launch) (D : va_G) (ca : Nat → ClassId) (za h : Nat → Nat) (hh : sgH 52 h) (f : sg_F) (L : sg_L) (Q : sg_Q) (h1 : f 4 1 = 0) (h6 : f 4 6 = 0) (h8 : f 4 8 = 0) (h7 : f 4 7 = (-1)) (sz : Nat) : Met l yX5_line wsX5_line { frames := 7, cells := 0, slots := 0, locals := 154 } (sgP D vwCl (tyX ca) 52 h (eX ca h) zcX za f L Q sz [.ref (h 4)]) (sgQv D vwCl 52 h (eX ca h) sz (fun f1 L1 Q1 => (f1 4 1 = 0 ∧ f1 4 6 = 0 ∧ f1 4 7 = 0))) 0 0 (sgA 52 h sz) := by
  refine sg_ofWv (cc := cX5_line) (maxL := 1) RX5 (by decide) rfl rfl (Nat.le_of_ble_eq_true rfl) ?_
  intro p e s m below meth c Qz ls hx hb hml hown hts hK hZ hP hS hl hret
  have hA := sgY.self (n := 52) (h := h) (sz := s.heap.size)
  have hl : lv_has ls 1 [(0, .ref (h 4))] := hl
  obtain ⟨H, hH⟩ : ∃ z : Heap, z = s.heap := ⟨_, rfl⟩
  obtain ⟨locs, hlo⟩ : ∃ z : List Loc, z = [] := ⟨_, rfl⟩
  have hP : va_P D vwCl (sgw 52 h (eX ca h) f L Q) H := by rw [hH]; exact hP
  have hS : va_S (sgA 52 h s.heap.size) s.heap H locs := by rw [hH, hlo]; exact hS
  suffices hgo : W p l e ({ frames := 7, cells := 0, slots := 0, locals := 154 }) s m ([.ref (h 4)] : List Value).toArray below meth c H locs 0 0 Qz (F0 m 0 ls []) by rw [hH, hlo] at hgo; exact hgo
  refine lv_aload_n hx hb dX5_line_0 rfl (lv_at hl 0 rfl) ?_
  refine lv_iconst (v := 0) hx hb dX5_line_1 (by decide) ?_
  refine sg_callv (va_runV (As := [.int 0]) (rest := []) ⟨hx, hb, hml, hown, hts⟩ (cf_X5_either l D ca za h hh f L Q (h1) (h6) (h8) (h7) H.size) (cwV 1 hts gX5_line_X5_either rfl rfl rfl (by decide +kernel) ⟨Nat.le_of_ble_eq_true rfl, Nat.le_of_ble_eq_true rfl⟩) (sg_preV (ci := 5) (C := RX5) (T := TX5) (N := 10) hA hK hP hS hZ 4 (by decide) rfl rfl) rfl rfl hl.1 rfl (lv_room (Nat.le_of_ble_eq_true rfl)) dX5_line_2 ⟨Nat.le_refl _, Nat.le_refl _⟩) hA hS (fun f_1 L_2 Q_3 H locs hq hP hS => ?_)
  obtain ⟨h_4, h_5, h_6, h_7⟩ := hq
  refine lv_aload_n hx hb dX5_line_5 rfl (lv_at hl 0 rfl) ?_
  refine sg_calli (va_runV (As := []) (rest := []) ⟨hx, hb, hml, hown, hts⟩ (cf_X5_next_b l D ca za h hh f_1 L_2 Q_3 (h_4) (h_5) (h_7) (h_6) H.size) (cwV 0 hts gX5_line_X5_next rfl rfl rfl (by decide +kernel) ⟨Nat.le_of_ble_eq_true rfl, Nat.le_of_ble_eq_true rfl⟩) (sg_preV (ci := 5) (C := RX5) (T := TX5) (N := 10) hA hK hP hS hZ 4 (by decide) rfl rfl) rfl rfl hl.1 rfl (lv_room (Nat.le_of_ble_eq_true rfl)) dX5_line_6 ⟨Nat.le_refl _, Nat.le_refl _⟩) hA hS (fun r_11 f_8 L_9 Q_10 H locs hq hP hS => ?_)
  obtain ⟨⟨ef9, eL9, eQ9⟩, hq⟩ := hq
  rw [ef9, eL9, eQ9] at hP; clear ef9 eL9 eQ9
  obtain ⟨rfl, hq⟩ := hq
  have q_12 := hq
  refine lv_bipush (v := 63) hx hb dX5_line_9 (by decide) ?_
  refine lv_icmp_ne (tgt := 35) hx hb dX5_line_11 (by decide) (fun c => ?_) (fun c => absurd c (by decide))
  refine lv_aload_n hx hb dX5_line_35 rfl (lv_at hl 0 rfl) ?_
  refine lv_bipush (v := 59) hx hb dX5_line_36 (by decide) ?_
  refine sg_callv (va_runV (As := [.int 59]) (rest := []) ⟨hx, hb, hml, hown, hts⟩ (cf_X5_write l D ca za h hh f_1 L_2 Q_3 (h_4) (h_5) (h_7) (h_6) H.size) (cwV 1 hts gX5_line_X5_write rfl rfl rfl (by decide +kernel) ⟨Nat.le_of_ble_eq_true rfl, Nat.le_of_ble_eq_true rfl⟩) (sg_preV (ci := 5) (C := RX5) (T := TX5) (N := 10) hA hK hP hS hZ 4 (by decide) rfl rfl) rfl rfl hl.1 rfl (lv_room (Nat.le_of_ble_eq_true rfl)) dX5_line_38 ⟨Nat.le_refl _, Nat.le_refl _⟩) hA hS (fun f_13 L_14 Q_15 H locs hq hP hS => ?_)
  obtain ⟨h_16, h_17, h_18⟩ := hq
  exact hret _ _ _ _ f_13 L_14 Q_15 dX5_line_41 hP hS ⟨(show _ = _ from h_16), (show _ = _ from h_17), (show _ = _ from h_18)⟩

set_option maxHeartbeats 4000000 in
set_option maxRecDepth 100000 in
theorem cf_X5_next_c (l : Launch) (D : va_G) (ca : Nat → ClassId) (za h : Nat → Nat) (hh : sgH 52 h) (f : sg_F) (L : sg_L) (Q : sg_Q) (h1 : f 4 1 = 0) (h6 : f 4 6 = 0) (h7 : f 4 7 = 0) (sz : Nat) : Met l yX5_next wsX5_next { frames := 0, cells := 0, slots := 0, locals := 0 } (sgP D vwCl (tyX ca) 52 h (eX ca h) zcX za f L Q sz [.ref (h 4)]) (sgQi D vwCl 52 h (eX ca h) sz (fun r f1 L1 Q1 => (f1 = f ∧ L1 = L ∧ Q1 = Q) ∧ ((r = (-1) ∧ (True))))) 0 0 (sgA 52 h sz) := by
  refine sg_ofWi (cc := cX5_next) (maxL := 1) RX5 (by decide) rfl rfl (Nat.le_of_ble_eq_true rfl) ?_
  intro p e s m below meth c Qz ls hx hb hml hown hts hK hZ hP hS hl hret
  have hA := sgY.self (n := 52) (h := h) (sz := s.heap.size)
  have hl : lv_has ls 1 [(0, .ref (h 4))] := hl
  obtain ⟨H, hH⟩ : ∃ z : Heap, z = s.heap := ⟨_, rfl⟩
  obtain ⟨locs, hlo⟩ : ∃ z : List Loc, z = [] := ⟨_, rfl⟩
  have hP : va_P D vwCl (sgw 52 h (eX ca h) f L Q) H := by rw [hH]; exact hP
  have hS : va_S (sgA 52 h s.heap.size) s.heap H locs := by rw [hH, hlo]; exact hS
  suffices hgo : W p l e ({ frames := 0, cells := 0, slots := 0, locals := 0 }) s m ([.ref (h 4)] : List Value).toArray below meth c H locs 0 0 Qz (F0 m 0 ls []) by rw [hH, hlo] at hgo; exact hgo
  refine lv_aload_n hx hb dX5_next_0 rfl (lv_at hl 0 rfl) ?_
  refine sg_get (ci := 5) (v := .int 0) (C := RX5) (T := TX5) (N := 10) hx hb hts (by decide +kernel) hown hK hP 4 (by decide) rfl rfl 7 (by decide) (hts (.fieldLink RX5 31 "SetAgain$Law" "fault" "I") (by decide +kernel)) (fun _ h9 => h9) (congrArg (fun z => some (Value.int z)) (show f 4 7 = 0 from h7)) dX5_next_1 ?_
  refine lv_if_ge (tgt := 30) hx hb dX5_next_4 (by decide) (fun c => ?_) (fun c => absurd c (by decide))
  refine lv_iconst (v := (-1)) hx hb dX5_next_30 (by decide) ?_
  exact hret _ _ _ _ (-1) f L Q dX5_next_31 hP hS ⟨⟨rfl, rfl, rfl⟩, ⟨rfl, trivial⟩⟩

set_option maxHeartbeats 4000000 in
set_option maxRecDepth 100000 in
theorem cf_X5_lines (l : Launch) (D : va_G) (ca : Nat → ClassId) (za h : Nat → Nat) (hh : sgH 52 h) (f : sg_F) (L : sg_L) (Q : sg_Q) (h1 : f 4 1 = 0) (h6 : f 4 6 = 0) (h8 : f 4 8 = 0) (h7 : f 4 7 = (-1)) (sz : Nat) : Met l yX5_lines wsX5_lines { frames := 8, cells := 0, slots := 0, locals := 174 } (sgP D vwCl (tyX ca) 52 h (eX ca h) zcX za f L Q sz [.ref (h 4)]) (sgQv D vwCl 52 h (eX ca h) sz (fun f1 L1 Q1 => (f1 4 1 = 0 ∧ f1 4 6 = 0 ∧ f1 4 7 = 0))) 0 0 (sgA 52 h sz) := by
  refine sg_ofWv (cc := cX5_lines) (maxL := 2) RX5 (by decide) rfl rfl (Nat.le_of_ble_eq_true rfl) ?_
  intro p e s m below meth c Qz ls hx hb hml hown hts hK hZ hP hS hl hret
  have hA := sgY.self (n := 52) (h := h) (sz := s.heap.size)
  have hl : lv_has ls 2 [(0, .ref (h 4))] := hl
  obtain ⟨H, hH⟩ : ∃ z : Heap, z = s.heap := ⟨_, rfl⟩
  obtain ⟨locs, hlo⟩ : ∃ z : List Loc, z = [] := ⟨_, rfl⟩
  have hP : va_P D vwCl (sgw 52 h (eX ca h) f L Q) H := by rw [hH]; exact hP
  have hS : va_S (sgA 52 h s.heap.size) s.heap H locs := by rw [hH, hlo]; exact hS
  suffices hgo : W p l e ({ frames := 8, cells := 0, slots := 0, locals := 174 }) s m ([.ref (h 4)] : List Value).toArray below meth c H locs 0 0 Qz (F0 m 0 ls []) by rw [hH, hlo] at hgo; exact hgo
  refine lv_aload_n hx hb dX5_lines_0 rfl (lv_at hl 0 rfl) ?_
  refine sg_callv (va_runV (As := []) (rest := []) ⟨hx, hb, hml, hown, hts⟩ (cf_X5_line l D ca za h hh f L Q (h1) (h6) (h8) (h7) H.size) (cwV 0 hts gX5_lines_X5_line rfl rfl rfl (by decide +kernel) ⟨Nat.le_of_ble_eq_true rfl, Nat.le_of_ble_eq_true rfl⟩) (sg_preV (ci := 5) (C := RX5) (T := TX5) (N := 10) hA hK hP hS hZ 4 (by decide) rfl rfl) rfl rfl hl.1 rfl (lv_room (Nat.le_of_ble_eq_true rfl)) dX5_lines_1 ⟨Nat.le_refl _, Nat.le_refl _⟩) hA hS (fun f_1 L_2 Q_3 H locs hq hP hS => ?_)
  obtain ⟨h_4, h_5, h_6⟩ := hq
  refine lv_iconst (v := 0) hx hb dX5_lines_4 (by decide) ?_
  refine lv_istore_n (lv' := [(1, .int 0), (0, .ref (h 4))]) hx hb dX5_lines_5 rfl hl (by decide) rfl (fun ls hl => ?_)
  refine lv_iload_n hx hb dX5_lines_6 rfl (lv_at hl 0 rfl) ?_
  refine lv_bipush (v := 120) hx hb dX5_lines_7 (by decide) ?_
  refine lv_icmp_ge (tgt := 41) hx hb dX5_lines_9 (by decide) (fun c => absurd c (by decide)) (fun c => ?_)
  refine lv_aload_n hx hb dX5_lines_12 rfl (lv_at hl 1 rfl) ?_
  refine sg_calli (va_runV (As := []) (rest := []) ⟨hx, hb, hml, hown, hts⟩ (cf_X5_next_c l D ca za h hh f_1 L_2 Q_3 (h_4) (h_5) (h_6) H.size) (cwV 0 hts gX5_lines_X5_next rfl rfl rfl (by decide +kernel) ⟨Nat.le_of_ble_eq_true rfl, Nat.le_of_ble_eq_true rfl⟩) (sg_preV (ci := 5) (C := RX5) (T := TX5) (N := 10) hA hK hP hS hZ 4 (by decide) rfl rfl) rfl rfl hl.1 rfl (lv_room (Nat.le_of_ble_eq_true rfl)) dX5_lines_13 ⟨Nat.le_refl _, Nat.le_refl _⟩) hA hS (fun r_10 f_7 L_8 Q_9 H locs hq hP hS => ?_)
  obtain ⟨⟨ef9, eL9, eQ9⟩, hq⟩ := hq
  rw [ef9, eL9, eQ9] at hP; clear ef9 eL9 eQ9
  obtain ⟨rfl, hq⟩ := hq
  have q_11 := hq
  refine lv_bipush (v := 59) hx hb dX5_lines_16 (by decide) ?_
  refine lv_icmp_ne (tgt := 41) hx hb dX5_lines_18 (by decide) (fun c => ?_) (fun c => absurd c (by decide))
  refine lv_aload_n hx hb dX5_lines_41 rfl (lv_at hl 1 rfl) ?_
  refine sg_get (ci := 5) (v := .int 0) (C := RX5) (T := TX5) (N := 10) hx hb hts (by decide +kernel) hown hK hP 4 (by decide) rfl rfl 6 (by decide) (hts (.fieldLink RX5 28 "SetAgain$Law" "at" "I") (by decide +kernel)) (fun _ h9 => h9) (congrArg (fun z => some (Value.int z)) (show f_1 4 6 = 0 from h_5)) dX5_lines_42 ?_
  refine lv_aload_n hx hb dX5_lines_45 rfl (lv_at hl 1 rfl) ?_
  refine sg_get (ci := 5) (v := .int 0) (C := RX5) (T := TX5) (N := 10) hx hb hts (by decide +kernel) hown hK hP 4 (by decide) rfl rfl 1 (by decide) (hts (.fieldLink RX5 24 "SetAgain$Law" "length" "I") (by decide +kernel)) (fun _ h9 => h9) (congrArg (fun z => some (Value.int z)) (show f_1 4 1 = 0 from h_4)) dX5_lines_46 ?_
  refine lv_icmp_ge (tgt := 56) hx hb dX5_lines_49 (by decide) (fun c => ?_) (fun c => absurd c (by decide))
  exact hret _ _ _ _ f_1 L_2 Q_3 dX5_lines_56 hP hS ⟨(show _ = _ from h_4), (show _ = _ from h_5), (show _ = _ from h_6)⟩

set_option maxHeartbeats 4000000 in
set_option maxRecDepth 100000 in
theorem cf_X5_isRead (l : Launch) (D : va_G) (ca : Nat → ClassId) (za h : Nat → Nat) (hh : sgH 52 h)  (sz : Nat) : Met l yX5_isRead wsX5_isRead { frames := 9, cells := 0, slots := 0, locals := 195 } (sgP D vwCl (tyX ca) 52 h (eX ca h) zcX za f0X L0 Q0 sz [.ref (h 4)]) (sgQi D vwCl 52 h (eX ca h) sz (fun r f1 L1 Q1 => True ∧ ((r = (-100) ∧ (True))))) 0 0 (sgA 52 h sz) := by
  refine sg_ofWi (cc := cX5_isRead) (maxL := 1) RX5 (by decide) rfl rfl (Nat.le_of_ble_eq_true rfl) ?_
  intro p e s m below meth c Qz ls hx hb hml hown hts hK hZ hP hS hl hret
  have hA := sgY.self (n := 52) (h := h) (sz := s.heap.size)
  have hl : lv_has ls 1 [(0, .ref (h 4))] := hl
  obtain ⟨H, hH⟩ : ∃ z : Heap, z = s.heap := ⟨_, rfl⟩
  obtain ⟨locs, hlo⟩ : ∃ z : List Loc, z = [] := ⟨_, rfl⟩
  have hP : va_P D vwCl (sgw 52 h (eX ca h) f0X L0 Q0) H := by rw [hH]; exact hP
  have hS : va_S (sgA 52 h s.heap.size) s.heap H locs := by rw [hH, hlo]; exact hS
  suffices hgo : W p l e ({ frames := 9, cells := 0, slots := 0, locals := 195 }) s m ([.ref (h 4)] : List Value).toArray below meth c H locs 0 0 Qz (F0 m 0 ls []) by rw [hH, hlo] at hgo; exact hgo
  refine lv_aload_n hx hb dX5_isRead_0 rfl (lv_at hl 0 rfl) ?_
  refine lv_iconst (v := 0) hx hb dX5_isRead_1 (by decide) ?_
  refine sg_put (ci := 5) (x := 0) (ty := .int) (C := RX5) (T := TX5) (N := 10) hx hb hts (by decide +kernel) tyX5 tyX5_ok nmX5 hown hh hA hK hP hS 4 (by decide) rfl rfl 6 (by decide) (hts (.fieldLink RX5 28 "SetAgain$Law" "at" "I") (by decide +kernel)) (fun _ h9 => h9) rfl rfl (by decide +kernel) rfl rfl (Nat.le_of_ble_eq_true rfl) dX5_isRead_2 (fun f_1 H locs ef_1 hP hS => ?_)
  refine lv_aload_n hx hb dX5_isRead_5 rfl (lv_at hl 0 rfl) ?_
  refine lv_iconst (v := (-1)) hx hb dX5_isRead_6 (by decide) ?_
  refine sg_put (ci := 5) (x := (-1)) (ty := .int) (C := RX5) (T := TX5) (N := 10) hx hb hts (by decide +kernel) tyX5 tyX5_ok nmX5 hown hh hA hK hP hS 4 (by decide) rfl rfl 7 (by decide) (hts (.fieldLink RX5 31 "SetAgain$Law" "fault" "I") (by decide +kernel)) (fun _ h9 => h9) rfl rfl (by decide +kernel) rfl rfl (Nat.le_of_ble_eq_true rfl) dX5_isRead_7 (fun f_2 H locs ef_2 hP hS => ?_)
  refine lv_aload_n hx hb dX5_isRead_10 rfl (lv_at hl 0 rfl) ?_
  refine lv_iconst (v := 0) hx hb dX5_isRead_11 (by decide) ?_
  refine sg_put (ci := 5) (x := 0) (ty := .int) (C := RX5) (T := TX5) (N := 10) hx hb hts (by decide +kernel) tyX5 tyX5_ok nmX5 hown hh hA hK hP hS 4 (by decide) rfl rfl 8 (by decide) (hts (.fieldLink RX5 34 "SetAgain$Law" "drafted" "I") (by decide +kernel)) (fun _ h9 => h9) rfl rfl (by decide +kernel) rfl rfl (Nat.le_of_ble_eq_true rfl) dX5_isRead_12 (fun f_3 H locs ef_3 hP hS => ?_)
  refine lv_aload_n hx hb dX5_isRead_15 rfl (lv_at hl 0 rfl) ?_
  refine sg_callv (va_runV (As := []) (rest := []) ⟨hx, hb, hml, hown, hts⟩ (cf_X5_lines l D ca za h hh f_3 L0 Q0 ((by rw [ef_3]; exact (show _ = _ from (by rw [ef_2]; exact (show _ = _ from (by rw [ef_1]; exact rfl)))))) ((by rw [ef_3]; exact (show _ = _ from (by rw [ef_2]; exact (show _ = _ from (by rw [ef_1]; rfl)))))) ((by rw [ef_3]; rfl)) ((by rw [ef_3]; exact (show _ = _ from (by rw [ef_2]; rfl)))) H.size) (cwV 0 hts gX5_isRead_X5_lines rfl rfl rfl (by decide +kernel) ⟨Nat.le_of_ble_eq_true rfl, Nat.le_of_ble_eq_true rfl⟩) (sg_preV (ci := 5) (C := RX5) (T := TX5) (N := 10) hA hK hP hS hZ 4 (by decide) rfl rfl) rfl rfl hl.1 rfl (lv_room (Nat.le_of_ble_eq_true rfl)) dX5_isRead_16 ⟨Nat.le_refl _, Nat.le_refl _⟩) hA hS (fun f_4 L_5 Q_6 H locs hq hP hS => ?_)
  obtain ⟨h_7, h_8, h_9⟩ := hq
  refine lv_aload_n hx hb dX5_isRead_19 rfl (lv_at hl 0 rfl) ?_
  refine lv_iconst (v := 0) hx hb dX5_isRead_20 (by decide) ?_
  refine sg_put (ci := 5) (x := 0) (ty := .int) (C := RX5) (T := TX5) (N := 10) hx hb hts (by decide +kernel) tyX5 tyX5_ok nmX5 hown hh hA hK hP hS 4 (by decide) rfl rfl 1 (by decide) (hts (.fieldLink RX5 24 "SetAgain$Law" "length" "I") (by decide +kernel)) (fun _ h9 => h9) rfl rfl (by decide +kernel) rfl rfl (Nat.le_of_ble_eq_true rfl) dX5_isRead_21 (fun f_10 H locs ef_10 hP hS => ?_)
  refine lv_aload_n hx hb dX5_isRead_24 rfl (lv_at hl 0 rfl) ?_
  refine sg_get (ci := 5) (v := .int 0) (C := RX5) (T := TX5) (N := 10) hx hb hts (by decide +kernel) hown hK hP 4 (by decide) rfl rfl 7 (by decide) (hts (.fieldLink RX5 31 "SetAgain$Law" "fault" "I") (by decide +kernel)) (fun _ h9 => h9) (congrArg (fun z => some (Value.int z)) (show f_10 4 7 = 0 from (by rw [ef_10]; exact (show _ = _ from h_9)))) dX5_isRead_25 ?_
  refine lv_if_lt (tgt := 39) hx hb dX5_isRead_28 (by decide) (fun c => absurd c (by decide)) (fun c => ?_)
  refine lv_bipush (v := (-100)) hx hb dX5_isRead_31 (by decide) ?_
  refine lv_aload_n hx hb dX5_isRead_33 rfl (lv_at hl 0 rfl) ?_
  refine sg_get (ci := 5) (v := .int 0) (C := RX5) (T := TX5) (N := 10) hx hb hts (by decide +kernel) hown hK hP 4 (by decide) rfl rfl 7 (by decide) (hts (.fieldLink RX5 31 "SetAgain$Law" "fault" "I") (by decide +kernel)) (fun _ h9 => h9) (congrArg (fun z => some (Value.int z)) (show f_10 4 7 = 0 from (by rw [ef_10]; exact (show _ = _ from h_9)))) dX5_isRead_34 ?_
  refine lv_isub hx hb dX5_isRead_37 ?_
  refine W.eq (g2 := F0 m 38 ls [.int (-100)]) (by rw [show ((-100) - 0 : Int32) = (-100) from by decide]) ?_
  exact hret _ _ _ _ (-100) f_10 L_5 Q_6 dX5_isRead_38 hP hS ⟨trivial, ⟨rfl, trivial⟩⟩

set_option maxHeartbeats 4000000 in
set_option maxRecDepth 100000 in
theorem cf_X11_law (l : Launch) (D : va_G) (ca : Nat → ClassId) (za h : Nat → Nat) (hh : sgH 52 h)  (sz : Nat) : Met l yX11_law wsX11_law { frames := 10, cells := 0, slots := 0, locals := 215 } (sgP D vwCl (tyX ca) 52 h (eX ca h) zcX za f0X L0 Q0 sz [.ref (h 0)]) (sgQi D vwCl 52 h (eX ca h) sz (fun r f1 L1 Q1 => True ∧ ((r = (-100) ∧ (True))))) 0 0 (sgA 52 h sz) := by
  refine sg_ofWi (cc := cX11_law) (maxL := 2) RX11 (by decide) rfl rfl (Nat.le_of_ble_eq_true rfl) ?_
  intro p e s m below meth c Qz ls hx hb hml hown hts hK hZ hP hS hl hret
  have hA := sgY.self (n := 52) (h := h) (sz := s.heap.size)
  have hl : lv_has ls 2 [(0, .ref (h 0))] := hl
  obtain ⟨H, hH⟩ : ∃ z : Heap, z = s.heap := ⟨_, rfl⟩
  obtain ⟨locs, hlo⟩ : ∃ z : List Loc, z = [] := ⟨_, rfl⟩
  have hP : va_P D vwCl (sgw 52 h (eX ca h) f0X L0 Q0) H := by rw [hH]; exact hP
  have hS : va_S (sgA 52 h s.heap.size) s.heap H locs := by rw [hH, hlo]; exact hS
  suffices hgo : W p l e ({ frames := 10, cells := 0, slots := 0, locals := 215 }) s m ([.ref (h 0)] : List Value).toArray below meth c H locs 0 0 Qz (F0 m 0 ls []) by rw [hH, hlo] at hgo; exact hgo
  refine lv_aload_n hx hb dX11_law_0 rfl (lv_at hl 0 rfl) ?_
  refine sg_get (ci := 11) (v := .ref (h 1)) (C := RX11) (T := TX11) (N := 10) hx hb hts (by decide +kernel) hown hK hP 0 (by decide) rfl rfl 0 (by decide) (hts (.fieldLink RX11 12 "SetAgain" "chair" "LSetAgain$Chair;") (by decide +kernel)) (fun _ h9 => h9) rfl dX11_law_1 ?_
  refine sg_get (ci := 0) (v := .ref (h 4)) (C := RX0) (T := TX0) (N := 5) hx hb hts (by decide +kernel) hown hK hP 1 (by decide) rfl rfl 2 (by decide) (hts (.fieldLink RX11 129 "SetAgain$Chair" "law" "LSetAgain$Law;") (by decide +kernel)) (fun _ h9 => h9) rfl dX11_law_4 ?_
  refine sg_calli (va_runV (As := []) (rest := []) ⟨hx, hb, hml, hown, hts⟩ (cf_X5_isRead l D ca za h hh H.size) (cwV 0 hts gX11_law_X5_isRead rfl rfl rfl (by decide +kernel) ⟨Nat.le_of_ble_eq_true rfl, Nat.le_of_ble_eq_true rfl⟩) (sg_preV (ci := 5) (C := RX5) (T := TX5) (N := 10) hA hK hP hS hZ 4 (by decide) rfl rfl) rfl rfl hl.1 rfl (lv_room (Nat.le_of_ble_eq_true rfl)) dX11_law_7 ⟨Nat.le_refl _, Nat.le_refl _⟩) hA hS (fun r_4 f_1 L_2 Q_3 H locs hq hP hS => ?_)
  obtain ⟨-, hq⟩ := hq
  obtain ⟨rfl, hq⟩ := hq
  have q_5 := hq
  refine lv_istore_n (lv' := [(1, .int (-100)), (0, .ref (h 0))]) hx hb dX11_law_10 rfl hl (by decide) rfl (fun ls hl => ?_)
  refine lv_iload_n hx hb dX11_law_11 rfl (lv_at hl 0 rfl) ?_
  refine lv_iconst (v := 1) hx hb dX11_law_12 (by decide) ?_
  refine lv_icmp_ne (tgt := 23) hx hb dX11_law_13 (by decide) (fun c => ?_) (fun c => absurd c (by decide))
  refine lv_iload_n hx hb dX11_law_23 rfl (lv_at hl 0 rfl) ?_
  exact hret _ _ _ _ (-100) f_1 L_2 Q_3 dX11_law_24 hP hS ⟨trivial, ⟨rfl, trivial⟩⟩

set_option maxHeartbeats 4000000 in
set_option maxRecDepth 100000 in
theorem cf_X2_turns (l : Launch) (D : va_G) (ca : Nat → ClassId) (za h : Nat → Nat) (hh : sgH 52 h) (x0 : Int32) (x1 : Int32) (b0 : 0 ≤ x0.toInt ∧ x0.toInt ≤ 2) (b1 : 0 ≤ x1.toInt ∧ x1.toInt ≤ 60) (sz : Nat) : Met l yX2_turns wsX2_turns { frames := 1, cells := 0, slots := 0, locals := 21 } (sgP D vwCl (tyX ca) 52 h (eX ca h) zcX za f0X L0 Q0 sz [.ref (h 28), .int x0, .int x1]) (sgQi D vwCl 52 h (eX ca h) sz (fun r f1 L1 Q1 => True ∧ (((30 ≤ x1.toInt ∧ r.toInt = x1.toInt - 30) ∨ (x1.toInt < 30 ∧ r.toInt = 30 - x1.toInt))))) 0 0 (sgA 52 h sz) := by
  refine sg_ofWi (cc := cX2_turns) (maxL := 4) RX2 (by decide) rfl rfl (Nat.le_of_ble_eq_true rfl) ?_
  intro p e s m below meth c Qz ls hx hb hml hown hts hK hZ hP hS hl hret
  have hA := sgY.self (n := 52) (h := h) (sz := s.heap.size)
  have hl : lv_has ls 4 [(0, .ref (h 28)), (1, .int x0), (2, .int x1)] := hl
  obtain ⟨H, hH⟩ : ∃ z : Heap, z = s.heap := ⟨_, rfl⟩
  obtain ⟨locs, hlo⟩ : ∃ z : List Loc, z = [] := ⟨_, rfl⟩
  have hP : va_P D vwCl (sgw 52 h (eX ca h) f0X L0 Q0) H := by rw [hH]; exact hP
  have hS : va_S (sgA 52 h s.heap.size) s.heap H locs := by rw [hH, hlo]; exact hS
  suffices hgo : W p l e ({ frames := 1, cells := 0, slots := 0, locals := 21 }) s m ([.ref (h 28), .int x0, .int x1] : List Value).toArray below meth c H locs 0 0 Qz (F0 m 0 ls []) by rw [hH, hlo] at hgo; exact hgo
  refine lv_iload_n hx hb dX2_turns_0 rfl (lv_at hl 2 rfl) ?_
  refine lv_aload_n hx hb dX2_turns_1 rfl (lv_at hl 0 rfl) ?_
  refine sg_get (ci := 2) (v := .ref (h 1)) (C := RX2) (T := TX2) (N := 6) hx hb hts (by decide +kernel) hown hK hP 28 (by decide) rfl rfl 0 (by decide) (hts (.fieldLink RX2 21 "SetAgain$Deed" "chair" "LSetAgain$Chair;") (by decide +kernel)) (fun _ h9 => h9) rfl dX2_turns_2 ?_
  refine sg_get (ci := 0) (v := .ref (h 3)) (C := RX0) (T := TX0) (N := 5) hx hb hts (by decide +kernel) hown hK hP 1 (by decide) rfl rfl 1 (by decide) (hts (.fieldLink RX2 41 "SetAgain$Chair" "stands" "[I") (by decide +kernel)) (fun _ h9 => h9) rfl dX2_turns_5 ?_
  refine lv_iload_n hx hb dX2_turns_8 rfl (lv_at hl 1 rfl) ?_
  refine sg_iald hx hb hK hP 3 (by decide) 0 rfl rfl (i := x0) (vp_in_iff.mpr ⟨by omega, by omega⟩) dX2_turns_9 ?_
  refine lv_topi (fun v_1 ev_1 => ?_)
  have q_2 : v_1.toInt = 30 := by rw [ev_1, f0X_st (by omega) (by omega)]; decide
  refine lv_isub hx hb dX2_turns_10 ?_
  refine lv_topi (fun v_3 ev_3 => ?_)
  have q_4 : v_3.toInt = x1.toInt - v_1.toInt := by rw [ev_3]; exact (bn_subI (by omega) (by omega)).trans (by omega)
  refine va_mabs hx hb (hml.trans hl.1.symm) hown (hts (.methodLink RX2 63 Lib.Math.abs.name) (by decide +kernel)) (hts (.static Lib.Math.abs.name) (by decide +kernel)) (hts (.initialized "java/lang/Math") (by decide +kernel)) (hts (.code Lib.Math.abs.name Lib.Math.abs.code 1 (some .int)) (by decide +kernel)) (Nat.le_of_ble_eq_true rfl) (Nat.le_of_ble_eq_true rfl) (Nat.le_refl _) (Nat.le_refl _) dX2_turns_11 ?_
  refine lv_topi (fun v_5 ev_5 => ?_)
  have q_6 : (0 ≤ v_3.toInt ∧ v_5.toInt = v_3.toInt) ∨ (v_3.toInt < 0 ∧ v_5.toInt = -v_3.toInt) := by rw [ev_5]; exact bn_absI (by omega)
  refine lv_istore_n (lv' := [(3, .int v_5), (0, .ref (h 28)), (1, .int x0), (2, .int x1)]) hx hb dX2_turns_14 rfl hl (by decide) rfl (fun ls hl => ?_)
  refine lv_aload_n hx hb dX2_turns_15 rfl (lv_at hl 1 rfl) ?_
  refine sg_get (ci := 2) (v := .ref (h 1)) (C := RX2) (T := TX2) (N := 6) hx hb hts (by decide +kernel) hown hK hP 28 (by decide) rfl rfl 0 (by decide) (hts (.fieldLink RX2 21 "SetAgain$Deed" "chair" "LSetAgain$Chair;") (by decide +kernel)) (fun _ h9 => h9) rfl dX2_turns_16 ?_
  refine sg_get (ci := 0) (v := .ref (h 3)) (C := RX0) (T := TX0) (N := 5) hx hb hts (by decide +kernel) hown hK hP 1 (by decide) rfl rfl 1 (by decide) (hts (.fieldLink RX2 41 "SetAgain$Chair" "stands" "[I") (by decide +kernel)) (fun _ h9 => h9) rfl dX2_turns_19 ?_
  refine lv_iload_n hx hb dX2_turns_22 rfl (lv_at hl 2 rfl) ?_
  refine lv_iload_n hx hb dX2_turns_23 rfl (lv_at hl 3 rfl) ?_
  refine sg_iast hx hb hh hA hK hP hS 3 (by decide) 0 (fun _ => rfl) rfl (i := x0) (x := x1) (vp_in_iff.mpr ⟨by omega, by omega⟩) dX2_turns_24 (fun f_7 H locs ef_7 hP hS => ?_)
  refine lv_aload_n hx hb dX2_turns_25 rfl (lv_at hl 1 rfl) ?_
  refine sg_get (ci := 2) (v := .ref (h 29)) (C := RX2) (T := TX2) (N := 6) hx hb hts (by decide +kernel) hown hK hP 28 (by decide) rfl rfl 2 (by decide) (hts (.fieldLink RX2 11 "SetAgain$Deed" "told" "[I") (by decide +kernel)) (fun _ h9 => h9) rfl dX2_turns_26 ?_
  refine lv_iconst (v := 1) hx hb dX2_turns_29 (by decide) ?_
  refine lv_dup2_11 hx hb dX2_turns_30 rfl rfl ?_
  refine sg_iald hx hb hK hP 29 (by decide) 0 rfl rfl (i := 1) (vp_in_iff.mpr (by decide)) dX2_turns_31 ?_
  refine W.eq (g2 := F0 m 32 ls [.int 0, .int 1, .ref (h 29)]) (by rw [show f_7 29 (Int32.toNatClampNeg 1) = 0 from (by rw [ef_7]; exact rfl)]) ?_
  refine lv_iload_n hx hb dX2_turns_32 rfl (lv_at hl 0 rfl) ?_
  refine lv_iadd hx hb dX2_turns_33 ?_
  refine lv_topi (fun v_8 ev_8 => ?_)
  have q_9 : v_8.toInt = 0 + v_5.toInt := by rw [ev_8]; have k0 : (0 : Int32).toInt = 0 := (by decide); exact (bn_addI (by omega) (by omega)).trans (by omega)
  refine sg_iast hx hb hh hA hK hP hS 29 (by decide) 0 (fun _ => rfl) rfl (i := 1) (x := v_8) (vp_in_iff.mpr (by decide)) dX2_turns_34 (fun f_10 H locs ef_10 hP hS => ?_)
  refine lv_iload_n hx hb dX2_turns_35 rfl (lv_at hl 0 rfl) ?_
  exact hret _ _ _ _ (v_5) f_10 L0 Q0 dX2_turns_36 hP hS ⟨trivial, (by omega)⟩

set_option maxHeartbeats 4000000 in
set_option maxRecDepth 100000 in
theorem cf_X11_set (l : Launch) (D : va_G) (ca : Nat → ClassId) (za h : Nat → Nat) (hh : sgH 52 h) (x0 : Int32) (x1 : Int32) (sz : Nat) : Met l yX11_set wsX11_set { frames := 2, cells := 0, slots := 0, locals := 44 } (sgP D vwCl (tyX ca) 52 h (eX ca h) zcX za f0X L0 Q0 sz [.ref (h 0), .int x0, .int x1]) (sgQi D vwCl 52 h (eX ca h) sz (fun r f1 L1 Q1 => True ∧ (((0 ≤ x0.toInt ∧ x0.toInt ≤ 2) ∧ (0 ≤ x1.toInt ∧ x1.toInt ≤ 60) ∧ ((30 ≤ x1.toInt ∧ r.toInt = x1.toInt - 30) ∨ (x1.toInt < 30 ∧ r.toInt = 30 - x1.toInt))) ∨ (r = (-1) ∧ (¬ ((0 ≤ x0.toInt ∧ x0.toInt ≤ 2) ∧ (0 ≤ x1.toInt ∧ x1.toInt ≤ 60))))))) 0 0 (sgA 52 h sz) := by
  refine sg_ofWi (cc := cX11_set) (maxL := 3) RX11 (by decide) rfl rfl (Nat.le_of_ble_eq_true rfl) ?_
  intro p e s m below meth c Qz ls hx hb hml hown hts hK hZ hP hS hl hret
  have hA := sgY.self (n := 52) (h := h) (sz := s.heap.size)
  have hl : lv_has ls 3 [(0, .ref (h 0)), (1, .int x0), (2, .int x1)] := hl
  obtain ⟨H, hH⟩ : ∃ z : Heap, z = s.heap := ⟨_, rfl⟩
  obtain ⟨locs, hlo⟩ : ∃ z : List Loc, z = [] := ⟨_, rfl⟩
  have hP : va_P D vwCl (sgw 52 h (eX ca h) f0X L0 Q0) H := by rw [hH]; exact hP
  have hS : va_S (sgA 52 h s.heap.size) s.heap H locs := by rw [hH, hlo]; exact hS
  suffices hgo : W p l e ({ frames := 2, cells := 0, slots := 0, locals := 44 }) s m ([.ref (h 0), .int x0, .int x1] : List Value).toArray below meth c H locs 0 0 Qz (F0 m 0 ls []) by rw [hH, hlo] at hgo; exact hgo
  refine lv_iload_n hx hb dX11_set_0 rfl (lv_at hl 1 rfl) ?_
  refine sg_calli (va_runS (As := [.int x0]) (rest := []) ⟨hx, hb, hml, hown, hts⟩ (cf_X11_isPart l D ca za h hh f0X L0 Q0 x0 H.size) (va_cwS 1 hts gX11_set_X11_isPart rfl rfl rfl (by decide +kernel) ⟨Nat.le_of_ble_eq_true rfl, Nat.le_of_ble_eq_true rfl⟩) (sg_preS hA hK hP hS hZ) rfl rfl hl.1 rfl (lv_room (Nat.le_of_ble_eq_true rfl)) dX11_set_1 ⟨Nat.le_refl _, Nat.le_refl _⟩) hA hS (fun r_4 f_1 L_2 Q_3 H locs hq hP hS => ?_)
  obtain ⟨⟨ef9, eL9, eQ9⟩, hq⟩ := hq
  rw [ef9, eL9, eQ9] at hP; clear ef9 eL9 eQ9
  rcases hq with ⟨rfl, hq⟩ | ⟨rfl, hq⟩
  · skip
    have q_5 := hq
    refine lv_if_eq (tgt := 26) hx hb dX11_set_4 (by decide) (fun c => absurd c (by decide)) (fun c => ?_)
    refine lv_iload_n hx hb dX11_set_7 rfl (lv_at hl 2 rfl) ?_
    refine sg_calli (va_runS (As := [.int x1]) (rest := []) ⟨hx, hb, hml, hown, hts⟩ (cf_X11_isSetting l D ca za h hh f0X L0 Q0 x1 H.size) (va_cwS 1 hts gX11_set_X11_isSetting rfl rfl rfl (by decide +kernel) ⟨Nat.le_of_ble_eq_true rfl, Nat.le_of_ble_eq_true rfl⟩) (sg_preS hA hK hP hS hZ) rfl rfl hl.1 rfl (lv_room (Nat.le_of_ble_eq_true rfl)) dX11_set_8 ⟨Nat.le_refl _, Nat.le_refl _⟩) hA hS (fun r_9 f_6 L_7 Q_8 H locs hq hP hS => ?_)
    obtain ⟨⟨ef9, eL9, eQ9⟩, hq⟩ := hq
    rw [ef9, eL9, eQ9] at hP; clear ef9 eL9 eQ9
    rcases hq with ⟨rfl, hq⟩ | ⟨rfl, hq⟩
    · skip
      have q_10 := hq
      refine lv_if_eq (tgt := 26) hx hb dX11_set_11 (by decide) (fun c => absurd c (by decide)) (fun c => ?_)
      refine lv_aload_n hx hb dX11_set_14 rfl (lv_at hl 0 rfl) ?_
      refine sg_get (ci := 11) (v := .ref (h 28)) (C := RX11) (T := TX11) (N := 10) hx hb hts (by decide +kernel) hown hK hP 0 (by decide) rfl rfl 6 (by decide) (hts (.fieldLink RX11 60 "SetAgain" "deed" "LSetAgain$Deed;") (by decide +kernel)) (fun _ h9 => h9) rfl dX11_set_15 ?_
      refine lv_iload_n hx hb dX11_set_18 rfl (lv_at hl 1 rfl) ?_
      refine lv_iload_n hx hb dX11_set_19 rfl (lv_at hl 2 rfl) ?_
      refine sg_calli (va_runV (As := [.int x0, .int x1]) (rest := []) ⟨hx, hb, hml, hown, hts⟩ (cf_X2_turns l D ca za h hh x0 x1 (by first | omega | decide) (by first | omega | decide) H.size) (cwV 2 hts gX11_set_X2_turns rfl rfl rfl (by decide +kernel) ⟨Nat.le_of_ble_eq_true rfl, Nat.le_of_ble_eq_true rfl⟩) (sg_preV (ci := 2) (C := RX2) (T := TX2) (N := 6) hA hK hP hS hZ 28 (by decide) rfl rfl) rfl rfl hl.1 rfl (lv_room (Nat.le_of_ble_eq_true rfl)) dX11_set_20 ⟨Nat.le_refl _, Nat.le_refl _⟩) hA hS (fun r_14 f_11 L_12 Q_13 H locs hq hP hS => ?_)
      obtain ⟨-, hq⟩ := hq
      skip
      have q_15 := hq
      refine lv_goto (tgt := 27) hx hb dX11_set_23 (by decide) ?_
      exact hret _ _ _ _ (r_14) f_11 L_12 Q_13 dX11_set_27 hP hS ⟨trivial, (by first | exact Or.inl (by omega) | exact Or.inr (⟨Int32.toInt_inj.mp (by have k9 : ((-1) : Int32).toInt = (-1) := (by decide); omega), by omega⟩))⟩
    · skip
      have q_16 := hq
      refine lv_if_eq (tgt := 26) hx hb dX11_set_11 (by decide) (fun c => ?_) (fun c => absurd c (by decide))
      refine lv_iconst (v := (-1)) hx hb dX11_set_26 (by decide) ?_
      exact hret _ _ _ _ (-1) f0X L0 Q0 dX11_set_27 hP hS ⟨trivial, (by first | exact Or.inl (by have k9 : ((-1) : Int32).toInt = (-1) := (by decide); omega) | exact Or.inr (⟨rfl, by omega⟩))⟩
  · skip
    have q_17 := hq
    refine lv_if_eq (tgt := 26) hx hb dX11_set_4 (by decide) (fun c => ?_) (fun c => absurd c (by decide))
    refine lv_iconst (v := (-1)) hx hb dX11_set_26 (by decide) ?_
    exact hret _ _ _ _ (-1) f0X L0 Q0 dX11_set_27 hP hS ⟨trivial, (by first | exact Or.inl (by have k9 : ((-1) : Int32).toInt = (-1) := (by decide); omega) | exact Or.inr (⟨rfl, by omega⟩))⟩

set_option maxHeartbeats 4000000 in
set_option maxRecDepth 100000 in
theorem cf_X0_slipped_0 (l : Launch) (D : va_G) (ca : Nat → ClassId) (za h : Nat → Nat) (hh : sgH 52 h) (f : sg_F) (L : sg_L) (Q : sg_Q) (hs : f 2 64 = 0) (sz : Nat) : Met l yX0_slipped wsX0_slipped { frames := 1, cells := 0, slots := 0, locals := 21 } (sgP D vwCl (tyX ca) 52 h (eX ca h) zcX za f L Q sz [.ref (h 1), .int 0, .int 30]) (sgQi D vwCl 52 h (eX ca h) sz (fun r f1 L1 Q1 => (f1 = f ∧ L1 = L ∧ Q1 = Q) ∧ ((r = 30 ∧ (True))))) 0 0 (sgA 52 h sz) := by
  refine sg_ofWi (cc := cX0_slipped) (maxL := 3) RX0 (by decide) rfl rfl (Nat.le_of_ble_eq_true rfl) ?_
  intro p e s m below meth c Qz ls hx hb hml hown hts hK hZ hP hS hl hret
  have hA := sgY.self (n := 52) (h := h) (sz := s.heap.size)
  have hl : lv_has ls 3 [(0, .ref (h 1)), (1, .int 0), (2, .int 30)] := hl
  obtain ⟨H, hH⟩ : ∃ z : Heap, z = s.heap := ⟨_, rfl⟩
  obtain ⟨locs, hlo⟩ : ∃ z : List Loc, z = [] := ⟨_, rfl⟩
  have hP : va_P D vwCl (sgw 52 h (eX ca h) f L Q) H := by rw [hH]; exact hP
  have hS : va_S (sgA 52 h s.heap.size) s.heap H locs := by rw [hH, hlo]; exact hS
  suffices hgo : W p l e ({ frames := 1, cells := 0, slots := 0, locals := 21 }) s m ([.ref (h 1), .int 0, .int 30] : List Value).toArray below meth c H locs 0 0 Qz (F0 m 0 ls []) by rw [hH, hlo] at hgo; exact hgo
  refine lv_iconst (v := 0) hx hb dX0_slipped_0 (by decide) ?_
  refine lv_iload_n hx hb dX0_slipped_1 rfl (lv_at hl 2 rfl) ?_
  refine lv_aload_n hx hb dX0_slipped_2 rfl (lv_at hl 0 rfl) ?_
  refine sg_get (ci := 0) (v := .ref (h 2)) (C := RX0) (T := TX0) (N := 5) hx hb hts (by decide +kernel) hown hK hP 1 (by decide) rfl rfl 0 (by decide) (hts (.fieldLink RX0 11 "SetAgain$Chair" "told" "[I") (by decide +kernel)) (fun _ h9 => h9) rfl dX0_slipped_3 ?_
  refine lv_bipush (v := 64) hx hb dX0_slipped_6 (by decide) ?_
  refine lv_iload_n hx hb dX0_slipped_8 rfl (lv_at hl 1 rfl) ?_
  refine lv_iadd hx hb dX0_slipped_9 ?_
  refine W.eq (g2 := F0 m 10 ls [.int 64, .ref (h 2), .int 30, .int 0]) (by rw [show (64 + 0 : Int32) = 64 from by decide]) ?_
  refine sg_iald hx hb hK hP 2 (by decide) 0 rfl rfl (i := 64) (vp_in_iff.mpr (by decide)) dX0_slipped_10 ?_
  refine W.eq (g2 := F0 m 11 ls [.int 0, .int 30, .int 0]) (by rw [show f 2 (Int32.toNatClampNeg 64) = 0 from hs]) ?_
  refine lv_isub hx hb dX0_slipped_11 ?_
  refine W.eq (g2 := F0 m 12 ls [.int 30, .int 0]) (by rw [show (30 - 0 : Int32) = 30 from by decide]) ?_
  refine va_mmax hx hb (hml.trans hl.1.symm) hown (hts (.methodLink RX0 36 Lib.Math.max.name) (by decide +kernel)) (hts (.static Lib.Math.max.name) (by decide +kernel)) (hts (.initialized "java/lang/Math") (by decide +kernel)) (hts (.code Lib.Math.max.name Lib.Math.max.code 2 (some .int)) (by decide +kernel)) (Nat.le_of_ble_eq_true rfl) (Nat.le_of_ble_eq_true rfl) (Nat.le_refl _) (Nat.le_refl _) dX0_slipped_12 ?_
  refine W.eq (g2 := F0 m 15 ls [.int 30]) (by rfl) ?_
  exact hret _ _ _ _ (30) f L Q dX0_slipped_15 hP hS ⟨⟨rfl, rfl, rfl⟩, ⟨rfl, trivial⟩⟩

set_option maxHeartbeats 4000000 in
set_option maxRecDepth 100000 in
theorem cf_X0_slipped_1 (l : Launch) (D : va_G) (ca : Nat → ClassId) (za h : Nat → Nat) (hh : sgH 52 h) (f : sg_F) (L : sg_L) (Q : sg_Q) (hs : f 2 65 = 0) (sz : Nat) : Met l yX0_slipped wsX0_slipped { frames := 1, cells := 0, slots := 0, locals := 21 } (sgP D vwCl (tyX ca) 52 h (eX ca h) zcX za f L Q sz [.ref (h 1), .int 1, .int 30]) (sgQi D vwCl 52 h (eX ca h) sz (fun r f1 L1 Q1 => (f1 = f ∧ L1 = L ∧ Q1 = Q) ∧ ((r = 30 ∧ (True))))) 0 0 (sgA 52 h sz) := by
  refine sg_ofWi (cc := cX0_slipped) (maxL := 3) RX0 (by decide) rfl rfl (Nat.le_of_ble_eq_true rfl) ?_
  intro p e s m below meth c Qz ls hx hb hml hown hts hK hZ hP hS hl hret
  have hA := sgY.self (n := 52) (h := h) (sz := s.heap.size)
  have hl : lv_has ls 3 [(0, .ref (h 1)), (1, .int 1), (2, .int 30)] := hl
  obtain ⟨H, hH⟩ : ∃ z : Heap, z = s.heap := ⟨_, rfl⟩
  obtain ⟨locs, hlo⟩ : ∃ z : List Loc, z = [] := ⟨_, rfl⟩
  have hP : va_P D vwCl (sgw 52 h (eX ca h) f L Q) H := by rw [hH]; exact hP
  have hS : va_S (sgA 52 h s.heap.size) s.heap H locs := by rw [hH, hlo]; exact hS
  suffices hgo : W p l e ({ frames := 1, cells := 0, slots := 0, locals := 21 }) s m ([.ref (h 1), .int 1, .int 30] : List Value).toArray below meth c H locs 0 0 Qz (F0 m 0 ls []) by rw [hH, hlo] at hgo; exact hgo
  refine lv_iconst (v := 0) hx hb dX0_slipped_0 (by decide) ?_
  refine lv_iload_n hx hb dX0_slipped_1 rfl (lv_at hl 2 rfl) ?_
  refine lv_aload_n hx hb dX0_slipped_2 rfl (lv_at hl 0 rfl) ?_
  refine sg_get (ci := 0) (v := .ref (h 2)) (C := RX0) (T := TX0) (N := 5) hx hb hts (by decide +kernel) hown hK hP 1 (by decide) rfl rfl 0 (by decide) (hts (.fieldLink RX0 11 "SetAgain$Chair" "told" "[I") (by decide +kernel)) (fun _ h9 => h9) rfl dX0_slipped_3 ?_
  refine lv_bipush (v := 64) hx hb dX0_slipped_6 (by decide) ?_
  refine lv_iload_n hx hb dX0_slipped_8 rfl (lv_at hl 1 rfl) ?_
  refine lv_iadd hx hb dX0_slipped_9 ?_
  refine W.eq (g2 := F0 m 10 ls [.int 65, .ref (h 2), .int 30, .int 0]) (by rw [show (64 + 1 : Int32) = 65 from by decide]) ?_
  refine sg_iald hx hb hK hP 2 (by decide) 0 rfl rfl (i := 65) (vp_in_iff.mpr (by decide)) dX0_slipped_10 ?_
  refine W.eq (g2 := F0 m 11 ls [.int 0, .int 30, .int 0]) (by rw [show f 2 (Int32.toNatClampNeg 65) = 0 from hs]) ?_
  refine lv_isub hx hb dX0_slipped_11 ?_
  refine W.eq (g2 := F0 m 12 ls [.int 30, .int 0]) (by rw [show (30 - 0 : Int32) = 30 from by decide]) ?_
  refine va_mmax hx hb (hml.trans hl.1.symm) hown (hts (.methodLink RX0 36 Lib.Math.max.name) (by decide +kernel)) (hts (.static Lib.Math.max.name) (by decide +kernel)) (hts (.initialized "java/lang/Math") (by decide +kernel)) (hts (.code Lib.Math.max.name Lib.Math.max.code 2 (some .int)) (by decide +kernel)) (Nat.le_of_ble_eq_true rfl) (Nat.le_of_ble_eq_true rfl) (Nat.le_refl _) (Nat.le_refl _) dX0_slipped_12 ?_
  refine W.eq (g2 := F0 m 15 ls [.int 30]) (by rfl) ?_
  exact hret _ _ _ _ (30) f L Q dX0_slipped_15 hP hS ⟨⟨rfl, rfl, rfl⟩, ⟨rfl, trivial⟩⟩

set_option maxHeartbeats 4000000 in
set_option maxRecDepth 100000 in
theorem cf_X0_slipped_2 (l : Launch) (D : va_G) (ca : Nat → ClassId) (za h : Nat → Nat) (hh : sgH 52 h) (f : sg_F) (L : sg_L) (Q : sg_Q) (hs : f 2 66 = 0) (sz : Nat) : Met l yX0_slipped wsX0_slipped { frames := 1, cells := 0, slots := 0, locals := 21 } (sgP D vwCl (tyX ca) 52 h (eX ca h) zcX za f L Q sz [.ref (h 1), .int 2, .int 30]) (sgQi D vwCl 52 h (eX ca h) sz (fun r f1 L1 Q1 => (f1 = f ∧ L1 = L ∧ Q1 = Q) ∧ ((r = 30 ∧ (True))))) 0 0 (sgA 52 h sz) := by
  refine sg_ofWi (cc := cX0_slipped) (maxL := 3) RX0 (by decide) rfl rfl (Nat.le_of_ble_eq_true rfl) ?_
  intro p e s m below meth c Qz ls hx hb hml hown hts hK hZ hP hS hl hret
  have hA := sgY.self (n := 52) (h := h) (sz := s.heap.size)
  have hl : lv_has ls 3 [(0, .ref (h 1)), (1, .int 2), (2, .int 30)] := hl
  obtain ⟨H, hH⟩ : ∃ z : Heap, z = s.heap := ⟨_, rfl⟩
  obtain ⟨locs, hlo⟩ : ∃ z : List Loc, z = [] := ⟨_, rfl⟩
  have hP : va_P D vwCl (sgw 52 h (eX ca h) f L Q) H := by rw [hH]; exact hP
  have hS : va_S (sgA 52 h s.heap.size) s.heap H locs := by rw [hH, hlo]; exact hS
  suffices hgo : W p l e ({ frames := 1, cells := 0, slots := 0, locals := 21 }) s m ([.ref (h 1), .int 2, .int 30] : List Value).toArray below meth c H locs 0 0 Qz (F0 m 0 ls []) by rw [hH, hlo] at hgo; exact hgo
  refine lv_iconst (v := 0) hx hb dX0_slipped_0 (by decide) ?_
  refine lv_iload_n hx hb dX0_slipped_1 rfl (lv_at hl 2 rfl) ?_
  refine lv_aload_n hx hb dX0_slipped_2 rfl (lv_at hl 0 rfl) ?_
  refine sg_get (ci := 0) (v := .ref (h 2)) (C := RX0) (T := TX0) (N := 5) hx hb hts (by decide +kernel) hown hK hP 1 (by decide) rfl rfl 0 (by decide) (hts (.fieldLink RX0 11 "SetAgain$Chair" "told" "[I") (by decide +kernel)) (fun _ h9 => h9) rfl dX0_slipped_3 ?_
  refine lv_bipush (v := 64) hx hb dX0_slipped_6 (by decide) ?_
  refine lv_iload_n hx hb dX0_slipped_8 rfl (lv_at hl 1 rfl) ?_
  refine lv_iadd hx hb dX0_slipped_9 ?_
  refine W.eq (g2 := F0 m 10 ls [.int 66, .ref (h 2), .int 30, .int 0]) (by rw [show (64 + 2 : Int32) = 66 from by decide]) ?_
  refine sg_iald hx hb hK hP 2 (by decide) 0 rfl rfl (i := 66) (vp_in_iff.mpr (by decide)) dX0_slipped_10 ?_
  refine W.eq (g2 := F0 m 11 ls [.int 0, .int 30, .int 0]) (by rw [show f 2 (Int32.toNatClampNeg 66) = 0 from hs]) ?_
  refine lv_isub hx hb dX0_slipped_11 ?_
  refine W.eq (g2 := F0 m 12 ls [.int 30, .int 0]) (by rw [show (30 - 0 : Int32) = 30 from by decide]) ?_
  refine va_mmax hx hb (hml.trans hl.1.symm) hown (hts (.methodLink RX0 36 Lib.Math.max.name) (by decide +kernel)) (hts (.static Lib.Math.max.name) (by decide +kernel)) (hts (.initialized "java/lang/Math") (by decide +kernel)) (hts (.code Lib.Math.max.name Lib.Math.max.code 2 (some .int)) (by decide +kernel)) (Nat.le_of_ble_eq_true rfl) (Nat.le_of_ble_eq_true rfl) (Nat.le_refl _) (Nat.le_refl _) dX0_slipped_12 ?_
  refine W.eq (g2 := F0 m 15 ls [.int 30]) (by rfl) ?_
  exact hret _ _ _ _ (30) f L Q dX0_slipped_15 hP hS ⟨⟨rfl, rfl, rfl⟩, ⟨rfl, trivial⟩⟩

set_option maxHeartbeats 4000000 in
set_option maxRecDepth 100000 in
theorem cf_X2_allSlip (l : Launch) (D : va_G) (ca : Nat → ClassId) (za h : Nat → Nat) (hh : sgH 52 h)  (sz : Nat) : Met l yX2_allSlip wsX2_allSlip { frames := 2, cells := 0, slots := 0, locals := 43 } (sgP D vwCl (tyX ca) 52 h (eX ca h) zcX za f0X L0 Q0 sz [.ref (h 28)]) (sgQi D vwCl 52 h (eX ca h) sz (fun r f1 L1 Q1 => True ∧ ((r = 0 ∧ (True))))) 0 0 (sgA 52 h sz) := by
  refine sg_ofWi (cc := cX2_allSlip) (maxL := 4) RX2 (by decide) rfl rfl (Nat.le_of_ble_eq_true rfl) ?_
  intro p e s m below meth c Qz ls hx hb hml hown hts hK hZ hP hS hl hret
  have hA := sgY.self (n := 52) (h := h) (sz := s.heap.size)
  have hl : lv_has ls 4 [(0, .ref (h 28))] := hl
  obtain ⟨H, hH⟩ : ∃ z : Heap, z = s.heap := ⟨_, rfl⟩
  obtain ⟨locs, hlo⟩ : ∃ z : List Loc, z = [] := ⟨_, rfl⟩
  have hP : va_P D vwCl (sgw 52 h (eX ca h) f0X L0 Q0) H := by rw [hH]; exact hP
  have hS : va_S (sgA 52 h s.heap.size) s.heap H locs := by rw [hH, hlo]; exact hS
  suffices hgo : W p l e ({ frames := 2, cells := 0, slots := 0, locals := 43 }) s m ([.ref (h 28)] : List Value).toArray below meth c H locs 0 0 Qz (F0 m 0 ls []) by rw [hH, hlo] at hgo; exact hgo
  refine lv_iconst (v := 0) hx hb dX2_allSlip_0 (by decide) ?_
  refine lv_istore_n (lv' := [(1, .int 0), (0, .ref (h 28))]) hx hb dX2_allSlip_1 rfl hl (by decide) rfl (fun ls hl => ?_)
  refine lv_iconst (v := 0) hx hb dX2_allSlip_2 (by decide) ?_
  refine lv_istore_n (lv' := [(2, .int 0), (1, .int 0), (0, .ref (h 28))]) hx hb dX2_allSlip_3 rfl hl (by decide) rfl (fun ls hl => ?_)
  refine lv_iload_n hx hb dX2_allSlip_4 rfl (lv_at hl 0 rfl) ?_
  refine lv_iconst (v := 3) hx hb dX2_allSlip_5 (by decide) ?_
  refine lv_icmp_ge (tgt := 59) hx hb dX2_allSlip_6 (by decide) (fun c => absurd c (by decide)) (fun c => ?_)
  refine lv_aload_n hx hb dX2_allSlip_9 rfl (lv_at hl 2 rfl) ?_
  refine sg_get (ci := 2) (v := .ref (h 1)) (C := RX2) (T := TX2) (N := 6) hx hb hts (by decide +kernel) hown hK hP 28 (by decide) rfl rfl 0 (by decide) (hts (.fieldLink RX2 21 "SetAgain$Deed" "chair" "LSetAgain$Chair;") (by decide +kernel)) (fun _ h9 => h9) rfl dX2_allSlip_10 ?_
  refine lv_iload_n hx hb dX2_allSlip_13 rfl (lv_at hl 0 rfl) ?_
  refine lv_aload_n hx hb dX2_allSlip_14 rfl (lv_at hl 2 rfl) ?_
  refine sg_get (ci := 2) (v := .ref (h 1)) (C := RX2) (T := TX2) (N := 6) hx hb hts (by decide +kernel) hown hK hP 28 (by decide) rfl rfl 0 (by decide) (hts (.fieldLink RX2 21 "SetAgain$Deed" "chair" "LSetAgain$Chair;") (by decide +kernel)) (fun _ h9 => h9) rfl dX2_allSlip_15 ?_
  refine sg_get (ci := 0) (v := .ref (h 3)) (C := RX0) (T := TX0) (N := 5) hx hb hts (by decide +kernel) hown hK hP 1 (by decide) rfl rfl 1 (by decide) (hts (.fieldLink RX2 41 "SetAgain$Chair" "stands" "[I") (by decide +kernel)) (fun _ h9 => h9) rfl dX2_allSlip_18 ?_
  refine lv_iload_n hx hb dX2_allSlip_21 rfl (lv_at hl 0 rfl) ?_
  refine sg_iald hx hb hK hP 3 (by decide) 0 rfl rfl (i := 0) (vp_in_iff.mpr (by decide)) dX2_allSlip_22 ?_
  refine W.eq (g2 := F0 m 23 ls [.int 30, .int 0, .ref (h 1)]) (by rw [show f0X 3 (Int32.toNatClampNeg 0) = 30 from rfl]) ?_
  refine sg_calli (va_runV (As := [.int 0, .int 30]) (rest := []) ⟨hx, hb, hml, hown, hts⟩ (cf_X0_slipped_0 l D ca za h hh f0X L0 Q0 rfl H.size) (cwV 2 hts gX2_allSlip_X0_slipped rfl rfl rfl (by decide +kernel) ⟨Nat.le_of_ble_eq_true rfl, Nat.le_of_ble_eq_true rfl⟩) (sg_preV (ci := 0) (C := RX0) (T := TX0) (N := 5) hA hK hP hS hZ 1 (by decide) rfl rfl) rfl rfl hl.1 rfl (lv_room (Nat.le_of_ble_eq_true rfl)) dX2_allSlip_23 ⟨Nat.le_refl _, Nat.le_refl _⟩) hA hS (fun r_4 f_1 L_2 Q_3 H locs hq hP hS => ?_)
  obtain ⟨⟨ef9, eL9, eQ9⟩, hq⟩ := hq
  rw [ef9, eL9, eQ9] at hP; clear ef9 eL9 eQ9
  have k_5 : (0 : Int32).toInt = 0 := by decide
  have k_6 : (30 : Int32).toInt = 30 := by decide
  obtain ⟨rfl, hq⟩ := hq
  have q_7 := hq
  refine lv_istore_n (lv' := [(3, .int 30), (2, .int 0), (1, .int 0), (0, .ref (h 28))]) hx hb dX2_allSlip_26 rfl hl (by decide) rfl (fun ls hl => ?_)
  refine lv_iload_n hx hb dX2_allSlip_27 rfl (lv_at hl 0 rfl) ?_
  refine lv_aload_n hx hb dX2_allSlip_28 rfl (lv_at hl 3 rfl) ?_
  refine sg_get (ci := 2) (v := .ref (h 1)) (C := RX2) (T := TX2) (N := 6) hx hb hts (by decide +kernel) hown hK hP 28 (by decide) rfl rfl 0 (by decide) (hts (.fieldLink RX2 21 "SetAgain$Deed" "chair" "LSetAgain$Chair;") (by decide +kernel)) (fun _ h9 => h9) rfl dX2_allSlip_29 ?_
  refine sg_get (ci := 0) (v := .ref (h 3)) (C := RX0) (T := TX0) (N := 5) hx hb hts (by decide +kernel) hown hK hP 1 (by decide) rfl rfl 1 (by decide) (hts (.fieldLink RX2 41 "SetAgain$Chair" "stands" "[I") (by decide +kernel)) (fun _ h9 => h9) rfl dX2_allSlip_32 ?_
  refine lv_iload_n hx hb dX2_allSlip_35 rfl (lv_at hl 1 rfl) ?_
  refine sg_iald hx hb hK hP 3 (by decide) 0 rfl rfl (i := 0) (vp_in_iff.mpr (by decide)) dX2_allSlip_36 ?_
  refine W.eq (g2 := F0 m 37 ls [.int 30, .int 30]) (by rw [show f0X 3 (Int32.toNatClampNeg 0) = 30 from rfl]) ?_
  refine lv_icmp_eq (tgt := 43) hx hb dX2_allSlip_37 (by decide) (fun c => ?_) (fun c => absurd c (by decide))
  refine lv_aload_n hx hb dX2_allSlip_43 rfl (lv_at hl 3 rfl) ?_
  refine sg_get (ci := 2) (v := .ref (h 1)) (C := RX2) (T := TX2) (N := 6) hx hb hts (by decide +kernel) hown hK hP 28 (by decide) rfl rfl 0 (by decide) (hts (.fieldLink RX2 21 "SetAgain$Deed" "chair" "LSetAgain$Chair;") (by decide +kernel)) (fun _ h9 => h9) rfl dX2_allSlip_44 ?_
  refine sg_get (ci := 0) (v := .ref (h 3)) (C := RX0) (T := TX0) (N := 5) hx hb hts (by decide +kernel) hown hK hP 1 (by decide) rfl rfl 1 (by decide) (hts (.fieldLink RX2 41 "SetAgain$Chair" "stands" "[I") (by decide +kernel)) (fun _ h9 => h9) rfl dX2_allSlip_47 ?_
  refine lv_iload_n hx hb dX2_allSlip_50 rfl (lv_at hl 1 rfl) ?_
  refine lv_iload_n hx hb dX2_allSlip_51 rfl (lv_at hl 0 rfl) ?_
  refine sg_iast hx hb hh hA hK hP hS 3 (by decide) 0 (fun _ => rfl) rfl (i := 0) (x := 30) (vp_in_iff.mpr (by decide)) dX2_allSlip_52 (fun f_8 H locs ef_8 hP hS => ?_)
  refine lv_iinc (v := 1) (lv' := [(2, .int 1), (3, .int 30), (1, .int 0), (0, .ref (h 28))]) hx hb dX2_allSlip_53 hl (k := 1) rfl (by decide) (by decide) rfl (fun ls hl => ?_)
  refine lv_goto (tgt := 4) hx hb dX2_allSlip_56 (by decide) ?_
  refine lv_iload_n hx hb dX2_allSlip_4 rfl (lv_at hl 0 rfl) ?_
  refine lv_iconst (v := 3) hx hb dX2_allSlip_5 (by decide) ?_
  refine lv_icmp_ge (tgt := 59) hx hb dX2_allSlip_6 (by decide) (fun c => absurd c (by decide)) (fun c => ?_)
  refine lv_aload_n hx hb dX2_allSlip_9 rfl (lv_at hl 3 rfl) ?_
  refine sg_get (ci := 2) (v := .ref (h 1)) (C := RX2) (T := TX2) (N := 6) hx hb hts (by decide +kernel) hown hK hP 28 (by decide) rfl rfl 0 (by decide) (hts (.fieldLink RX2 21 "SetAgain$Deed" "chair" "LSetAgain$Chair;") (by decide +kernel)) (fun _ h9 => h9) rfl dX2_allSlip_10 ?_
  refine lv_iload_n hx hb dX2_allSlip_13 rfl (lv_at hl 0 rfl) ?_
  refine lv_aload_n hx hb dX2_allSlip_14 rfl (lv_at hl 3 rfl) ?_
  refine sg_get (ci := 2) (v := .ref (h 1)) (C := RX2) (T := TX2) (N := 6) hx hb hts (by decide +kernel) hown hK hP 28 (by decide) rfl rfl 0 (by decide) (hts (.fieldLink RX2 21 "SetAgain$Deed" "chair" "LSetAgain$Chair;") (by decide +kernel)) (fun _ h9 => h9) rfl dX2_allSlip_15 ?_
  refine sg_get (ci := 0) (v := .ref (h 3)) (C := RX0) (T := TX0) (N := 5) hx hb hts (by decide +kernel) hown hK hP 1 (by decide) rfl rfl 1 (by decide) (hts (.fieldLink RX2 41 "SetAgain$Chair" "stands" "[I") (by decide +kernel)) (fun _ h9 => h9) rfl dX2_allSlip_18 ?_
  refine lv_iload_n hx hb dX2_allSlip_21 rfl (lv_at hl 0 rfl) ?_
  refine sg_iald hx hb hK hP 3 (by decide) 0 rfl rfl (i := 1) (vp_in_iff.mpr (by decide)) dX2_allSlip_22 ?_
  refine W.eq (g2 := F0 m 23 ls [.int 30, .int 1, .ref (h 1)]) (by rw [show f_8 3 (Int32.toNatClampNeg 1) = 30 from (by rw [ef_8]; exact rfl)]) ?_
  refine sg_calli (va_runV (As := [.int 1, .int 30]) (rest := []) ⟨hx, hb, hml, hown, hts⟩ (cf_X0_slipped_1 l D ca za h hh f_8 L0 Q0 ((by rw [ef_8]; exact rfl)) H.size) (cwV 2 hts gX2_allSlip_X0_slipped rfl rfl rfl (by decide +kernel) ⟨Nat.le_of_ble_eq_true rfl, Nat.le_of_ble_eq_true rfl⟩) (sg_preV (ci := 0) (C := RX0) (T := TX0) (N := 5) hA hK hP hS hZ 1 (by decide) rfl rfl) rfl rfl hl.1 rfl (lv_room (Nat.le_of_ble_eq_true rfl)) dX2_allSlip_23 ⟨Nat.le_refl _, Nat.le_refl _⟩) hA hS (fun r_12 f_9 L_10 Q_11 H locs hq hP hS => ?_)
  obtain ⟨⟨ef9, eL9, eQ9⟩, hq⟩ := hq
  rw [ef9, eL9, eQ9] at hP; clear ef9 eL9 eQ9
  have k_13 : (1 : Int32).toInt = 1 := by decide
  have k_14 : (30 : Int32).toInt = 30 := by decide
  obtain ⟨rfl, hq⟩ := hq
  have q_15 := hq
  refine lv_istore_n (lv' := [(3, .int 30), (2, .int 1), (1, .int 0), (0, .ref (h 28))]) hx hb dX2_allSlip_26 rfl hl (by decide) rfl (fun ls hl => ?_)
  refine lv_iload_n hx hb dX2_allSlip_27 rfl (lv_at hl 0 rfl) ?_
  refine lv_aload_n hx hb dX2_allSlip_28 rfl (lv_at hl 3 rfl) ?_
  refine sg_get (ci := 2) (v := .ref (h 1)) (C := RX2) (T := TX2) (N := 6) hx hb hts (by decide +kernel) hown hK hP 28 (by decide) rfl rfl 0 (by decide) (hts (.fieldLink RX2 21 "SetAgain$Deed" "chair" "LSetAgain$Chair;") (by decide +kernel)) (fun _ h9 => h9) rfl dX2_allSlip_29 ?_
  refine sg_get (ci := 0) (v := .ref (h 3)) (C := RX0) (T := TX0) (N := 5) hx hb hts (by decide +kernel) hown hK hP 1 (by decide) rfl rfl 1 (by decide) (hts (.fieldLink RX2 41 "SetAgain$Chair" "stands" "[I") (by decide +kernel)) (fun _ h9 => h9) rfl dX2_allSlip_32 ?_
  refine lv_iload_n hx hb dX2_allSlip_35 rfl (lv_at hl 1 rfl) ?_
  refine sg_iald hx hb hK hP 3 (by decide) 0 rfl rfl (i := 1) (vp_in_iff.mpr (by decide)) dX2_allSlip_36 ?_
  refine W.eq (g2 := F0 m 37 ls [.int 30, .int 30]) (by rw [show f_8 3 (Int32.toNatClampNeg 1) = 30 from (by rw [ef_8]; exact rfl)]) ?_
  refine lv_icmp_eq (tgt := 43) hx hb dX2_allSlip_37 (by decide) (fun c => ?_) (fun c => absurd c (by decide))
  refine lv_aload_n hx hb dX2_allSlip_43 rfl (lv_at hl 3 rfl) ?_
  refine sg_get (ci := 2) (v := .ref (h 1)) (C := RX2) (T := TX2) (N := 6) hx hb hts (by decide +kernel) hown hK hP 28 (by decide) rfl rfl 0 (by decide) (hts (.fieldLink RX2 21 "SetAgain$Deed" "chair" "LSetAgain$Chair;") (by decide +kernel)) (fun _ h9 => h9) rfl dX2_allSlip_44 ?_
  refine sg_get (ci := 0) (v := .ref (h 3)) (C := RX0) (T := TX0) (N := 5) hx hb hts (by decide +kernel) hown hK hP 1 (by decide) rfl rfl 1 (by decide) (hts (.fieldLink RX2 41 "SetAgain$Chair" "stands" "[I") (by decide +kernel)) (fun _ h9 => h9) rfl dX2_allSlip_47 ?_
  refine lv_iload_n hx hb dX2_allSlip_50 rfl (lv_at hl 1 rfl) ?_
  refine lv_iload_n hx hb dX2_allSlip_51 rfl (lv_at hl 0 rfl) ?_
  refine sg_iast hx hb hh hA hK hP hS 3 (by decide) 0 (fun _ => rfl) rfl (i := 1) (x := 30) (vp_in_iff.mpr (by decide)) dX2_allSlip_52 (fun f_16 H locs ef_16 hP hS => ?_)
  refine lv_iinc (v := 2) (lv' := [(2, .int 2), (3, .int 30), (1, .int 0), (0, .ref (h 28))]) hx hb dX2_allSlip_53 hl (k := 1) rfl (by decide) (by decide) rfl (fun ls hl => ?_)
  refine lv_goto (tgt := 4) hx hb dX2_allSlip_56 (by decide) ?_
  refine lv_iload_n hx hb dX2_allSlip_4 rfl (lv_at hl 0 rfl) ?_
  refine lv_iconst (v := 3) hx hb dX2_allSlip_5 (by decide) ?_
  refine lv_icmp_ge (tgt := 59) hx hb dX2_allSlip_6 (by decide) (fun c => absurd c (by decide)) (fun c => ?_)
  refine lv_aload_n hx hb dX2_allSlip_9 rfl (lv_at hl 3 rfl) ?_
  refine sg_get (ci := 2) (v := .ref (h 1)) (C := RX2) (T := TX2) (N := 6) hx hb hts (by decide +kernel) hown hK hP 28 (by decide) rfl rfl 0 (by decide) (hts (.fieldLink RX2 21 "SetAgain$Deed" "chair" "LSetAgain$Chair;") (by decide +kernel)) (fun _ h9 => h9) rfl dX2_allSlip_10 ?_
  refine lv_iload_n hx hb dX2_allSlip_13 rfl (lv_at hl 0 rfl) ?_
  refine lv_aload_n hx hb dX2_allSlip_14 rfl (lv_at hl 3 rfl) ?_
  refine sg_get (ci := 2) (v := .ref (h 1)) (C := RX2) (T := TX2) (N := 6) hx hb hts (by decide +kernel) hown hK hP 28 (by decide) rfl rfl 0 (by decide) (hts (.fieldLink RX2 21 "SetAgain$Deed" "chair" "LSetAgain$Chair;") (by decide +kernel)) (fun _ h9 => h9) rfl dX2_allSlip_15 ?_
  refine sg_get (ci := 0) (v := .ref (h 3)) (C := RX0) (T := TX0) (N := 5) hx hb hts (by decide +kernel) hown hK hP 1 (by decide) rfl rfl 1 (by decide) (hts (.fieldLink RX2 41 "SetAgain$Chair" "stands" "[I") (by decide +kernel)) (fun _ h9 => h9) rfl dX2_allSlip_18 ?_
  refine lv_iload_n hx hb dX2_allSlip_21 rfl (lv_at hl 0 rfl) ?_
  refine sg_iald hx hb hK hP 3 (by decide) 0 rfl rfl (i := 2) (vp_in_iff.mpr (by decide)) dX2_allSlip_22 ?_
  refine W.eq (g2 := F0 m 23 ls [.int 30, .int 2, .ref (h 1)]) (by rw [show f_16 3 (Int32.toNatClampNeg 2) = 30 from (by rw [ef_16]; exact (show _ = _ from (by rw [ef_8]; exact rfl)))]) ?_
  refine sg_calli (va_runV (As := [.int 2, .int 30]) (rest := []) ⟨hx, hb, hml, hown, hts⟩ (cf_X0_slipped_2 l D ca za h hh f_16 L0 Q0 ((by rw [ef_16]; exact (show _ = _ from (by rw [ef_8]; exact rfl)))) H.size) (cwV 2 hts gX2_allSlip_X0_slipped rfl rfl rfl (by decide +kernel) ⟨Nat.le_of_ble_eq_true rfl, Nat.le_of_ble_eq_true rfl⟩) (sg_preV (ci := 0) (C := RX0) (T := TX0) (N := 5) hA hK hP hS hZ 1 (by decide) rfl rfl) rfl rfl hl.1 rfl (lv_room (Nat.le_of_ble_eq_true rfl)) dX2_allSlip_23 ⟨Nat.le_refl _, Nat.le_refl _⟩) hA hS (fun r_20 f_17 L_18 Q_19 H locs hq hP hS => ?_)
  obtain ⟨⟨ef9, eL9, eQ9⟩, hq⟩ := hq
  rw [ef9, eL9, eQ9] at hP; clear ef9 eL9 eQ9
  have k_21 : (2 : Int32).toInt = 2 := by decide
  have k_22 : (30 : Int32).toInt = 30 := by decide
  obtain ⟨rfl, hq⟩ := hq
  have q_23 := hq
  refine lv_istore_n (lv' := [(3, .int 30), (2, .int 2), (1, .int 0), (0, .ref (h 28))]) hx hb dX2_allSlip_26 rfl hl (by decide) rfl (fun ls hl => ?_)
  refine lv_iload_n hx hb dX2_allSlip_27 rfl (lv_at hl 0 rfl) ?_
  refine lv_aload_n hx hb dX2_allSlip_28 rfl (lv_at hl 3 rfl) ?_
  refine sg_get (ci := 2) (v := .ref (h 1)) (C := RX2) (T := TX2) (N := 6) hx hb hts (by decide +kernel) hown hK hP 28 (by decide) rfl rfl 0 (by decide) (hts (.fieldLink RX2 21 "SetAgain$Deed" "chair" "LSetAgain$Chair;") (by decide +kernel)) (fun _ h9 => h9) rfl dX2_allSlip_29 ?_
  refine sg_get (ci := 0) (v := .ref (h 3)) (C := RX0) (T := TX0) (N := 5) hx hb hts (by decide +kernel) hown hK hP 1 (by decide) rfl rfl 1 (by decide) (hts (.fieldLink RX2 41 "SetAgain$Chair" "stands" "[I") (by decide +kernel)) (fun _ h9 => h9) rfl dX2_allSlip_32 ?_
  refine lv_iload_n hx hb dX2_allSlip_35 rfl (lv_at hl 1 rfl) ?_
  refine sg_iald hx hb hK hP 3 (by decide) 0 rfl rfl (i := 2) (vp_in_iff.mpr (by decide)) dX2_allSlip_36 ?_
  refine W.eq (g2 := F0 m 37 ls [.int 30, .int 30]) (by rw [show f_16 3 (Int32.toNatClampNeg 2) = 30 from (by rw [ef_16]; exact (show _ = _ from (by rw [ef_8]; exact rfl)))]) ?_
  refine lv_icmp_eq (tgt := 43) hx hb dX2_allSlip_37 (by decide) (fun c => ?_) (fun c => absurd c (by decide))
  refine lv_aload_n hx hb dX2_allSlip_43 rfl (lv_at hl 3 rfl) ?_
  refine sg_get (ci := 2) (v := .ref (h 1)) (C := RX2) (T := TX2) (N := 6) hx hb hts (by decide +kernel) hown hK hP 28 (by decide) rfl rfl 0 (by decide) (hts (.fieldLink RX2 21 "SetAgain$Deed" "chair" "LSetAgain$Chair;") (by decide +kernel)) (fun _ h9 => h9) rfl dX2_allSlip_44 ?_
  refine sg_get (ci := 0) (v := .ref (h 3)) (C := RX0) (T := TX0) (N := 5) hx hb hts (by decide +kernel) hown hK hP 1 (by decide) rfl rfl 1 (by decide) (hts (.fieldLink RX2 41 "SetAgain$Chair" "stands" "[I") (by decide +kernel)) (fun _ h9 => h9) rfl dX2_allSlip_47 ?_
  refine lv_iload_n hx hb dX2_allSlip_50 rfl (lv_at hl 1 rfl) ?_
  refine lv_iload_n hx hb dX2_allSlip_51 rfl (lv_at hl 0 rfl) ?_
  refine sg_iast hx hb hh hA hK hP hS 3 (by decide) 0 (fun _ => rfl) rfl (i := 2) (x := 30) (vp_in_iff.mpr (by decide)) dX2_allSlip_52 (fun f_24 H locs ef_24 hP hS => ?_)
  refine lv_iinc (v := 3) (lv' := [(2, .int 3), (3, .int 30), (1, .int 0), (0, .ref (h 28))]) hx hb dX2_allSlip_53 hl (k := 1) rfl (by decide) (by decide) rfl (fun ls hl => ?_)
  refine lv_goto (tgt := 4) hx hb dX2_allSlip_56 (by decide) ?_
  refine lv_iload_n hx hb dX2_allSlip_4 rfl (lv_at hl 0 rfl) ?_
  refine lv_iconst (v := 3) hx hb dX2_allSlip_5 (by decide) ?_
  refine lv_icmp_ge (tgt := 59) hx hb dX2_allSlip_6 (by decide) (fun c => ?_) (fun c => absurd c (by decide))
  refine lv_iload_n hx hb dX2_allSlip_59 rfl (lv_at hl 2 rfl) ?_
  exact hret _ _ _ _ (0) f_24 L0 Q0 dX2_allSlip_60 hP hS ⟨trivial, ⟨rfl, trivial⟩⟩

set_option maxHeartbeats 4000000 in
set_option maxRecDepth 100000 in
theorem cf_X11_night (l : Launch) (D : va_G) (ca : Nat → ClassId) (za h : Nat → Nat) (hh : sgH 52 h)  (sz : Nat) : Met l yX11_night wsX11_night { frames := 3, cells := 0, slots := 0, locals := 66 } (sgP D vwCl (tyX ca) 52 h (eX ca h) zcX za f0X L0 Q0 sz [.ref (h 0)]) (sgQi D vwCl 52 h (eX ca h) sz (fun r f1 L1 Q1 => True ∧ ((r = 0 ∧ (True))))) 0 0 (sgA 52 h sz) := by
  refine sg_ofWi (cc := cX11_night) (maxL := 1) RX11 (by decide) rfl rfl (Nat.le_of_ble_eq_true rfl) ?_
  intro p e s m below meth c Qz ls hx hb hml hown hts hK hZ hP hS hl hret
  have hA := sgY.self (n := 52) (h := h) (sz := s.heap.size)
  have hl : lv_has ls 1 [(0, .ref (h 0))] := hl
  obtain ⟨H, hH⟩ : ∃ z : Heap, z = s.heap := ⟨_, rfl⟩
  obtain ⟨locs, hlo⟩ : ∃ z : List Loc, z = [] := ⟨_, rfl⟩
  have hP : va_P D vwCl (sgw 52 h (eX ca h) f0X L0 Q0) H := by rw [hH]; exact hP
  have hS : va_S (sgA 52 h s.heap.size) s.heap H locs := by rw [hH, hlo]; exact hS
  suffices hgo : W p l e ({ frames := 3, cells := 0, slots := 0, locals := 66 }) s m ([.ref (h 0)] : List Value).toArray below meth c H locs 0 0 Qz (F0 m 0 ls []) by rw [hH, hlo] at hgo; exact hgo
  refine lv_aload_n hx hb dX11_night_0 rfl (lv_at hl 0 rfl) ?_
  refine sg_get (ci := 11) (v := .ref (h 28)) (C := RX11) (T := TX11) (N := 10) hx hb hts (by decide +kernel) hown hK hP 0 (by decide) rfl rfl 6 (by decide) (hts (.fieldLink RX11 60 "SetAgain" "deed" "LSetAgain$Deed;") (by decide +kernel)) (fun _ h9 => h9) rfl dX11_night_1 ?_
  refine sg_calli (va_runV (As := []) (rest := []) ⟨hx, hb, hml, hown, hts⟩ (cf_X2_allSlip l D ca za h hh H.size) (cwV 0 hts gX11_night_X2_allSlip rfl rfl rfl (by decide +kernel) ⟨Nat.le_of_ble_eq_true rfl, Nat.le_of_ble_eq_true rfl⟩) (sg_preV (ci := 2) (C := RX2) (T := TX2) (N := 6) hA hK hP hS hZ 28 (by decide) rfl rfl) rfl rfl hl.1 rfl (lv_room (Nat.le_of_ble_eq_true rfl)) dX11_night_4 ⟨Nat.le_refl _, Nat.le_refl _⟩) hA hS (fun r_4 f_1 L_2 Q_3 H locs hq hP hS => ?_)
  obtain ⟨-, hq⟩ := hq
  obtain ⟨rfl, hq⟩ := hq
  have q_5 := hq
  exact hret _ _ _ _ (0) f_1 L_2 Q_3 dX11_night_7 hP hS ⟨trivial, ⟨rfl, trivial⟩⟩

set_option maxHeartbeats 4000000 in
set_option maxRecDepth 100000 in
theorem cf_X11_led (l : Launch) (D : va_G) (ca : Nat → ClassId) (za h : Nat → Nat) (hh : sgH 52 h) (x0 : Int32) (sz : Nat) : Met l yX11_led wsX11_led { frames := 0, cells := 0, slots := 0, locals := 0 } (sgP D vwCl (tyX ca) 52 h (eX ca h) zcX za f0X L0 Q0 sz [.ref (h 0), .int x0]) (sgQi D vwCl 52 h (eX ca h) sz (fun r f1 L1 Q1 => True ∧ ((0 ≤ x0.toInt ∧ x0.toInt ≤ 3 ∧ r.toInt = 0) ∨ (x0.toInt = 4 ∧ r.toInt = -2) ∨ ((x0.toInt < 0 ∨ 4 < x0.toInt) ∧ r.toInt = -1)))) 0 0 (sgA 52 h sz) := by
  refine sg_ofWi (cc := cX11_led) (maxL := 2) RX11 (by decide) rfl rfl (Nat.le_of_ble_eq_true rfl) ?_
  intro p e s m below meth c Qz ls hx hb hml hown hts hK hZ hP hS hl hret
  have hA := sgY.self (n := 52) (h := h) (sz := s.heap.size)
  have hl : lv_has ls 2 [(0, .ref (h 0)), (1, .int x0)] := hl
  obtain ⟨H, hH⟩ : ∃ z : Heap, z = s.heap := ⟨_, rfl⟩
  obtain ⟨locs, hlo⟩ : ∃ z : List Loc, z = [] := ⟨_, rfl⟩
  have hP : va_P D vwCl (sgw 52 h (eX ca h) f0X L0 Q0) H := by rw [hH]; exact hP
  have hS : va_S (sgA 52 h s.heap.size) s.heap H locs := by rw [hH, hlo]; exact hS
  suffices hgo : W p l e ({ frames := 0, cells := 0, slots := 0, locals := 0 }) s m ([.ref (h 0), .int x0] : List Value).toArray below meth c H locs 0 0 Qz (F0 m 0 ls []) by rw [hH, hlo] at hgo; exact hgo
  refine lv_iload_n hx hb dX11_led_0 rfl (lv_at hl 1 rfl) ?_
  refine lv_if_lt (tgt := 9) hx hb dX11_led_1 (by decide) (fun c => ?_) (fun c => ?_)
  · skip
    have c_1 : x0.toInt < 0 := (by have z := bn_lt c; have k1 : (0 : Int32).toInt = 0 := (by decide); omega)
    refine lv_iconst (v := (-1)) hx hb dX11_led_9 (by decide) ?_
    refine lv_goto (tgt := 22) hx hb dX11_led_10 (by decide) ?_
    exact hret _ _ _ _ (-1) f0X L0 Q0 dX11_led_22 hP hS ⟨trivial, (by first | exact Or.inl (by have k9 : ((-1) : Int32).toInt = (-1) := (by decide); omega) | exact Or.inr (Or.inl (by have k9 : ((-1) : Int32).toInt = (-1) := (by decide); omega)) | exact Or.inr (Or.inr ((by have k9 : ((-1) : Int32).toInt = (-1) := (by decide); omega))))⟩
  · skip
    have c_2 : 0 ≤ x0.toInt := (by have z := bn_nlt c; have k1 : (0 : Int32).toInt = 0 := (by decide); omega)
    refine lv_iload_n hx hb dX11_led_4 rfl (lv_at hl 1 rfl) ?_
    refine lv_iconst (v := 5) hx hb dX11_led_5 (by decide) ?_
    refine lv_icmp_lt (tgt := 13) hx hb dX11_led_6 (by decide) (fun c => ?_) (fun c => ?_)
    · skip
      have c_3 : x0.toInt < 5 := (by have z := bn_lt c; have k1 : (5 : Int32).toInt = 5 := (by decide); omega)
      refine lv_aload_n hx hb dX11_led_13 rfl (lv_at hl 0 rfl) ?_
      refine sg_get (ci := 11) (v := .ref (h 28)) (C := RX11) (T := TX11) (N := 10) hx hb hts (by decide +kernel) hown hK hP 0 (by decide) rfl rfl 6 (by decide) (hts (.fieldLink RX11 60 "SetAgain" "deed" "LSetAgain$Deed;") (by decide +kernel)) (fun _ h9 => h9) rfl dX11_led_14 ?_
      refine sg_get (ci := 2) (v := .ref (h 29)) (C := RX2) (T := TX2) (N := 6) hx hb hts (by decide +kernel) hown hK hP 28 (by decide) rfl rfl 2 (by decide) (hts (.fieldLink RX11 231 "SetAgain$Deed" "told" "[I") (by decide +kernel)) (fun _ h9 => h9) rfl dX11_led_17 ?_
      refine lv_iload_n hx hb dX11_led_20 rfl (lv_at hl 1 rfl) ?_
      refine sg_iald hx hb hK hP 29 (by decide) 0 rfl rfl (i := x0) (vp_in_iff.mpr ⟨by omega, by omega⟩) dX11_led_21 ?_
      refine lv_topi (fun v_5 ev_5 => ?_)
      have q_6 : (x0.toInt ≤ 3 ∧ v_5.toInt = 0) ∨ (x0.toInt = 4 ∧ v_5.toInt = -2) := by rw [ev_5]; exact f0X_led (by omega) (by omega)
      rcases (show (x0.toInt ≤ 3 ∧ v_5.toInt = 0) ∨ (x0.toInt = 4 ∧ v_5.toInt = -2) from by omega) with z | z <;> exact hret _ _ _ _ (v_5) f0X L0 Q0 dX11_led_22 hP hS ⟨trivial, (by first | exact Or.inl (by omega) | exact Or.inr (Or.inl (by omega)) | exact Or.inr (Or.inr ((by omega))))⟩
    · skip
      have c_4 : 5 ≤ x0.toInt := (by have z := bn_nlt c; have k1 : (5 : Int32).toInt = 5 := (by decide); omega)
      refine lv_iconst (v := (-1)) hx hb dX11_led_9 (by decide) ?_
      refine lv_goto (tgt := 22) hx hb dX11_led_10 (by decide) ?_
      exact hret _ _ _ _ (-1) f0X L0 Q0 dX11_led_22 hP hS ⟨trivial, (by first | exact Or.inl (by have k9 : ((-1) : Int32).toInt = (-1) := (by decide); omega) | exact Or.inr (Or.inl (by have k9 : ((-1) : Int32).toInt = (-1) := (by decide); omega)) | exact Or.inr (Or.inr ((by have k9 : ((-1) : Int32).toInt = (-1) := (by decide); omega))))⟩

set_option maxHeartbeats 4000000 in
set_option maxRecDepth 100000 in
theorem cf_X2_keepImage (l : Launch) (D : va_G) (ca : Nat → ClassId) (za h : Nat → Nat) (hh : sgH 52 h)  (sz : Nat) : Met l yX2_keepImage wsX2_keepImage { frames := 1, cells := 0, slots := 0, locals := 64 } (sgP D vwCl (tyX ca) 52 h (eX ca h) zcX za f0X L0 Q0 sz [.ref (h 28)]) (sgQi D vwCl 52 h (eX ca h) sz (fun r f1 L1 Q1 => True ∧ ((r = 0 ∧ (True))))) 0 0 (sgA 52 h sz) := by
  refine sg_ofWi (cc := cX2_keepImage) (maxL := 1) RX2 (by decide) rfl rfl (Nat.le_of_ble_eq_true rfl) ?_
  intro p e s m below meth c Qz ls hx hb hml hown hts hK hZ hP hS hl hret
  have hA := sgY.self (n := 52) (h := h) (sz := s.heap.size)
  have hl : lv_has ls 1 [(0, .ref (h 28))] := hl
  obtain ⟨H, hH⟩ : ∃ z : Heap, z = s.heap := ⟨_, rfl⟩
  obtain ⟨locs, hlo⟩ : ∃ z : List Loc, z = [] := ⟨_, rfl⟩
  have hP : va_P D vwCl (sgw 52 h (eX ca h) f0X L0 Q0) H := by rw [hH]; exact hP
  have hS : va_S (sgA 52 h s.heap.size) s.heap H locs := by rw [hH, hlo]; exact hS
  suffices hgo : W p l e ({ frames := 1, cells := 0, slots := 0, locals := 64 }) s m ([.ref (h 28)] : List Value).toArray below meth c H locs 0 0 Qz (F0 m 0 ls []) by rw [hH, hlo] at hgo; exact hgo
  refine lv_aload_n hx hb dX2_keepImage_0 rfl (lv_at hl 0 rfl) ?_
  refine sg_get (ci := 2) (v := .ref (h 29)) (C := RX2) (T := TX2) (N := 6) hx hb hts (by decide +kernel) hown hK hP 28 (by decide) rfl rfl 2 (by decide) (hts (.fieldLink RX2 11 "SetAgain$Deed" "told" "[I") (by decide +kernel)) (fun _ h9 => h9) rfl dX2_keepImage_1 ?_
  refine lv_iconst (v := 0) hx hb dX2_keepImage_4 (by decide) ?_
  refine lv_aload_n hx hb dX2_keepImage_5 rfl (lv_at hl 0 rfl) ?_
  refine sg_get (ci := 2) (v := .ref (h 30)) (C := RX2) (T := TX2) (N := 6) hx hb hts (by decide +kernel) hown hK hP 28 (by decide) rfl rfl 3 (by decide) (hts (.fieldLink RX2 15 "SetAgain$Deed" "keptTold" "[I") (by decide +kernel)) (fun _ h9 => h9) rfl dX2_keepImage_6 ?_
  refine lv_iconst (v := 0) hx hb dX2_keepImage_9 (by decide) ?_
  refine lv_iconst (v := 5) hx hb dX2_keepImage_10 (by decide) ?_
  refine sg_copyi hx hb (hml.trans hl.1.symm) hown (hts (.methodLink RX2 46 arraycopyName) (by decide +kernel)) (hts (.native arraycopyName) (by decide +kernel)) (hts (.static arraycopyName) (by decide +kernel)) (hts (.initialized "java/lang/System") (by decide +kernel)) hh hA hK hP hS 29 30 (by decide) (by decide) 0 0 rfl (fun _ => rfl) rfl rfl (sp := 0) (dp := 0) (nn := 5) (by decide) (by decide) (by decide) (by decide) (by decide) (Nat.le_of_ble_eq_true rfl) (Nat.le_of_ble_eq_true rfl) dX2_keepImage_11 (fun f_1 H locs ef_1 hP hS => ?_)
  refine lv_aload_n hx hb dX2_keepImage_14 rfl (lv_at hl 0 rfl) ?_
  refine sg_get (ci := 2) (v := .ref (h 1)) (C := RX2) (T := TX2) (N := 6) hx hb hts (by decide +kernel) hown hK hP 28 (by decide) rfl rfl 0 (by decide) (hts (.fieldLink RX2 21 "SetAgain$Deed" "chair" "LSetAgain$Chair;") (by decide +kernel)) (fun _ h9 => h9) rfl dX2_keepImage_15 ?_
  refine sg_get (ci := 0) (v := .ref (h 3)) (C := RX0) (T := TX0) (N := 5) hx hb hts (by decide +kernel) hown hK hP 1 (by decide) rfl rfl 1 (by decide) (hts (.fieldLink RX2 41 "SetAgain$Chair" "stands" "[I") (by decide +kernel)) (fun _ h9 => h9) rfl dX2_keepImage_18 ?_
  refine lv_iconst (v := 0) hx hb dX2_keepImage_21 (by decide) ?_
  refine lv_aload_n hx hb dX2_keepImage_22 rfl (lv_at hl 0 rfl) ?_
  refine sg_get (ci := 2) (v := .ref (h 31)) (C := RX2) (T := TX2) (N := 6) hx hb hts (by decide +kernel) hown hK hP 28 (by decide) rfl rfl 4 (by decide) (hts (.fieldLink RX2 18 "SetAgain$Deed" "keptStands" "[I") (by decide +kernel)) (fun _ h9 => h9) rfl dX2_keepImage_23 ?_
  refine lv_iconst (v := 0) hx hb dX2_keepImage_26 (by decide) ?_
  refine lv_iconst (v := 3) hx hb dX2_keepImage_27 (by decide) ?_
  refine sg_copyi hx hb (hml.trans hl.1.symm) hown (hts (.methodLink RX2 46 arraycopyName) (by decide +kernel)) (hts (.native arraycopyName) (by decide +kernel)) (hts (.static arraycopyName) (by decide +kernel)) (hts (.initialized "java/lang/System") (by decide +kernel)) hh hA hK hP hS 3 31 (by decide) (by decide) 0 0 rfl (fun _ => rfl) rfl rfl (sp := 0) (dp := 0) (nn := 3) (by decide) (by decide) (by decide) (by decide) (by decide) (Nat.le_of_ble_eq_true rfl) (Nat.le_of_ble_eq_true rfl) dX2_keepImage_28 (fun f_2 H locs ef_2 hP hS => ?_)
  refine lv_aload_n hx hb dX2_keepImage_31 rfl (lv_at hl 0 rfl) ?_
  refine lv_iconst (v := 1) hx hb dX2_keepImage_32 (by decide) ?_
  refine sg_put (ci := 2) (x := 1) (ty := .boolean) (C := RX2) (T := TX2) (N := 6) hx hb hts (by decide +kernel) tyX2 tyX2_ok nmX2 hown hh hA hK hP hS 28 (by decide) rfl rfl 5 (by decide) (hts (.fieldLink RX2 73 "SetAgain$Deed" "kept" "Z") (by decide +kernel)) (fun _ h9 => h9) rfl rfl (by decide +kernel) (by decide) (by decide) (Nat.le_of_ble_eq_true rfl) dX2_keepImage_33 (fun f_3 H locs ef_3 hP hS => ?_)
  refine lv_aload_n hx hb dX2_keepImage_36 rfl (lv_at hl 0 rfl) ?_
  refine sg_get (ci := 2) (v := .ref (h 29)) (C := RX2) (T := TX2) (N := 6) hx hb hts (by decide +kernel) hown hK hP 28 (by decide) rfl rfl 2 (by decide) (hts (.fieldLink RX2 11 "SetAgain$Deed" "told" "[I") (by decide +kernel)) (fun _ h9 => h9) rfl dX2_keepImage_37 ?_
  refine lv_iconst (v := 0) hx hb dX2_keepImage_40 (by decide) ?_
  refine sg_iald hx hb hK hP 29 (by decide) 0 rfl rfl (i := 0) (vp_in_iff.mpr (by decide)) dX2_keepImage_41 ?_
  refine W.eq (g2 := F0 m 42 ls [.int 0]) (by rw [show f_3 29 (Int32.toNatClampNeg 0) = 0 from (by rw [ef_3]; exact (show _ = _ from (by rw [ef_2]; exact (show _ = _ from (by rw [ef_1]; exact rfl)))))]) ?_
  exact hret _ _ _ _ (0) f_3 L0 Q0 dX2_keepImage_42 hP hS ⟨trivial, ⟨rfl, trivial⟩⟩

set_option maxHeartbeats 4000000 in
set_option maxRecDepth 100000 in
theorem cf_X11_image (l : Launch) (D : va_G) (ca : Nat → ClassId) (za h : Nat → Nat) (hh : sgH 52 h)  (sz : Nat) : Met l yX11_image wsX11_image { frames := 2, cells := 0, slots := 0, locals := 84 } (sgP D vwCl (tyX ca) 52 h (eX ca h) zcX za f0X L0 Q0 sz [.ref (h 0)]) (sgQi D vwCl 52 h (eX ca h) sz (fun r f1 L1 Q1 => True ∧ ((r = 0 ∧ (True))))) 0 0 (sgA 52 h sz) := by
  refine sg_ofWi (cc := cX11_image) (maxL := 1) RX11 (by decide) rfl rfl (Nat.le_of_ble_eq_true rfl) ?_
  intro p e s m below meth c Qz ls hx hb hml hown hts hK hZ hP hS hl hret
  have hA := sgY.self (n := 52) (h := h) (sz := s.heap.size)
  have hl : lv_has ls 1 [(0, .ref (h 0))] := hl
  obtain ⟨H, hH⟩ : ∃ z : Heap, z = s.heap := ⟨_, rfl⟩
  obtain ⟨locs, hlo⟩ : ∃ z : List Loc, z = [] := ⟨_, rfl⟩
  have hP : va_P D vwCl (sgw 52 h (eX ca h) f0X L0 Q0) H := by rw [hH]; exact hP
  have hS : va_S (sgA 52 h s.heap.size) s.heap H locs := by rw [hH, hlo]; exact hS
  suffices hgo : W p l e ({ frames := 2, cells := 0, slots := 0, locals := 84 }) s m ([.ref (h 0)] : List Value).toArray below meth c H locs 0 0 Qz (F0 m 0 ls []) by rw [hH, hlo] at hgo; exact hgo
  refine lv_aload_n hx hb dX11_image_0 rfl (lv_at hl 0 rfl) ?_
  refine sg_get (ci := 11) (v := .ref (h 28)) (C := RX11) (T := TX11) (N := 10) hx hb hts (by decide +kernel) hown hK hP 0 (by decide) rfl rfl 6 (by decide) (hts (.fieldLink RX11 60 "SetAgain" "deed" "LSetAgain$Deed;") (by decide +kernel)) (fun _ h9 => h9) rfl dX11_image_1 ?_
  refine sg_calli (va_runV (As := []) (rest := []) ⟨hx, hb, hml, hown, hts⟩ (cf_X2_keepImage l D ca za h hh H.size) (cwV 0 hts gX11_image_X2_keepImage rfl rfl rfl (by decide +kernel) ⟨Nat.le_of_ble_eq_true rfl, Nat.le_of_ble_eq_true rfl⟩) (sg_preV (ci := 2) (C := RX2) (T := TX2) (N := 6) hA hK hP hS hZ 28 (by decide) rfl rfl) rfl rfl hl.1 rfl (lv_room (Nat.le_of_ble_eq_true rfl)) dX11_image_4 ⟨Nat.le_refl _, Nat.le_refl _⟩) hA hS (fun r_4 f_1 L_2 Q_3 H locs hq hP hS => ?_)
  obtain ⟨-, hq⟩ := hq
  obtain ⟨rfl, hq⟩ := hq
  have q_5 := hq
  exact hret _ _ _ _ (0) f_1 L_2 Q_3 dX11_image_7 hP hS ⟨trivial, ⟨rfl, trivial⟩⟩

set_option maxHeartbeats 4000000 in
set_option maxRecDepth 100000 in
theorem cf_X2_layBack (l : Launch) (D : va_G) (ca : Nat → ClassId) (za h : Nat → Nat) (hh : sgH 52 h)  (sz : Nat) : Met l yX2_layBack wsX2_layBack { frames := 0, cells := 0, slots := 0, locals := 0 } (sgP D vwCl (tyX ca) 52 h (eX ca h) zcX za f0X L0 Q0 sz [.ref (h 28)]) (sgQi D vwCl 52 h (eX ca h) sz (fun r f1 L1 Q1 => True ∧ ((r = (-5) ∧ (True))))) 0 0 (sgA 52 h sz) := by
  refine sg_ofWi (cc := cX2_layBack) (maxL := 1) RX2 (by decide) rfl rfl (Nat.le_of_ble_eq_true rfl) ?_
  intro p e s m below meth c Qz ls hx hb hml hown hts hK hZ hP hS hl hret
  have hA := sgY.self (n := 52) (h := h) (sz := s.heap.size)
  have hl : lv_has ls 1 [(0, .ref (h 28))] := hl
  obtain ⟨H, hH⟩ : ∃ z : Heap, z = s.heap := ⟨_, rfl⟩
  obtain ⟨locs, hlo⟩ : ∃ z : List Loc, z = [] := ⟨_, rfl⟩
  have hP : va_P D vwCl (sgw 52 h (eX ca h) f0X L0 Q0) H := by rw [hH]; exact hP
  have hS : va_S (sgA 52 h s.heap.size) s.heap H locs := by rw [hH, hlo]; exact hS
  suffices hgo : W p l e ({ frames := 0, cells := 0, slots := 0, locals := 0 }) s m ([.ref (h 28)] : List Value).toArray below meth c H locs 0 0 Qz (F0 m 0 ls []) by rw [hH, hlo] at hgo; exact hgo
  refine lv_aload_n hx hb dX2_layBack_0 rfl (lv_at hl 0 rfl) ?_
  refine sg_get (ci := 2) (v := .int 0) (C := RX2) (T := TX2) (N := 6) hx hb hts (by decide +kernel) hown hK hP 28 (by decide) rfl rfl 5 (by decide) (hts (.fieldLink RX2 73 "SetAgain$Deed" "kept" "Z") (by decide +kernel)) (fun _ h9 => h9) rfl dX2_layBack_1 ?_
  refine lv_if_ne (tgt := 10) hx hb dX2_layBack_4 (by decide) (fun c => absurd c (by decide)) (fun c => ?_)
  refine lv_bipush (v := (-5)) hx hb dX2_layBack_7 (by decide) ?_
  exact hret _ _ _ _ (-5) f0X L0 Q0 dX2_layBack_9 hP hS ⟨trivial, ⟨rfl, trivial⟩⟩

set_option maxHeartbeats 4000000 in
set_option maxRecDepth 100000 in
theorem cf_X11_back (l : Launch) (D : va_G) (ca : Nat → ClassId) (za h : Nat → Nat) (hh : sgH 52 h)  (sz : Nat) : Met l yX11_back wsX11_back { frames := 1, cells := 0, slots := 0, locals := 20 } (sgP D vwCl (tyX ca) 52 h (eX ca h) zcX za f0X L0 Q0 sz [.ref (h 0)]) (sgQi D vwCl 52 h (eX ca h) sz (fun r f1 L1 Q1 => True ∧ ((r = (-5) ∧ (True))))) 0 0 (sgA 52 h sz) := by
  refine sg_ofWi (cc := cX11_back) (maxL := 1) RX11 (by decide) rfl rfl (Nat.le_of_ble_eq_true rfl) ?_
  intro p e s m below meth c Qz ls hx hb hml hown hts hK hZ hP hS hl hret
  have hA := sgY.self (n := 52) (h := h) (sz := s.heap.size)
  have hl : lv_has ls 1 [(0, .ref (h 0))] := hl
  obtain ⟨H, hH⟩ : ∃ z : Heap, z = s.heap := ⟨_, rfl⟩
  obtain ⟨locs, hlo⟩ : ∃ z : List Loc, z = [] := ⟨_, rfl⟩
  have hP : va_P D vwCl (sgw 52 h (eX ca h) f0X L0 Q0) H := by rw [hH]; exact hP
  have hS : va_S (sgA 52 h s.heap.size) s.heap H locs := by rw [hH, hlo]; exact hS
  suffices hgo : W p l e ({ frames := 1, cells := 0, slots := 0, locals := 20 }) s m ([.ref (h 0)] : List Value).toArray below meth c H locs 0 0 Qz (F0 m 0 ls []) by rw [hH, hlo] at hgo; exact hgo
  refine lv_aload_n hx hb dX11_back_0 rfl (lv_at hl 0 rfl) ?_
  refine sg_get (ci := 11) (v := .ref (h 28)) (C := RX11) (T := TX11) (N := 10) hx hb hts (by decide +kernel) hown hK hP 0 (by decide) rfl rfl 6 (by decide) (hts (.fieldLink RX11 60 "SetAgain" "deed" "LSetAgain$Deed;") (by decide +kernel)) (fun _ h9 => h9) rfl dX11_back_1 ?_
  refine sg_calli (va_runV (As := []) (rest := []) ⟨hx, hb, hml, hown, hts⟩ (cf_X2_layBack l D ca za h hh H.size) (cwV 0 hts gX11_back_X2_layBack rfl rfl rfl (by decide +kernel) ⟨Nat.le_of_ble_eq_true rfl, Nat.le_of_ble_eq_true rfl⟩) (sg_preV (ci := 2) (C := RX2) (T := TX2) (N := 6) hA hK hP hS hZ 28 (by decide) rfl rfl) rfl rfl hl.1 rfl (lv_room (Nat.le_of_ble_eq_true rfl)) dX11_back_4 ⟨Nat.le_refl _, Nat.le_refl _⟩) hA hS (fun r_4 f_1 L_2 Q_3 H locs hq hP hS => ?_)
  obtain ⟨-, hq⟩ := hq
  obtain ⟨rfl, hq⟩ := hq
  have q_5 := hq
  exact hret _ _ _ _ (-5) f_1 L_2 Q_3 dX11_back_7 hP hS ⟨trivial, ⟨rfl, trivial⟩⟩

set_option maxHeartbeats 4000000 in
set_option maxRecDepth 100000 in
theorem cf_X11_undo (l : Launch) (D : va_G) (ca : Nat → ClassId) (za h : Nat → Nat) (hh : sgH 52 h)  (sz : Nat) : Met l yX11_undo wsX11_undo { frames := 0, cells := 0, slots := 0, locals := 0 } (sgP D vwCl (tyX ca) 52 h (eX ca h) zcX za f0X L0 Q0 sz [.ref (h 0)]) (sgQi D vwCl 52 h (eX ca h) sz (fun r f1 L1 Q1 => True ∧ ((r = (-5) ∧ (True))))) 0 0 (sgA 52 h sz) := by
  refine sg_ofWi (cc := cX11_undo) (maxL := 1) RX11 (by decide) rfl rfl (Nat.le_of_ble_eq_true rfl) ?_
  intro p e s m below meth c Qz ls hx hb hml hown hts hK hZ hP hS hl hret
  have hA := sgY.self (n := 52) (h := h) (sz := s.heap.size)
  have hl : lv_has ls 1 [(0, .ref (h 0))] := hl
  obtain ⟨H, hH⟩ : ∃ z : Heap, z = s.heap := ⟨_, rfl⟩
  obtain ⟨locs, hlo⟩ : ∃ z : List Loc, z = [] := ⟨_, rfl⟩
  have hP : va_P D vwCl (sgw 52 h (eX ca h) f0X L0 Q0) H := by rw [hH]; exact hP
  have hS : va_S (sgA 52 h s.heap.size) s.heap H locs := by rw [hH, hlo]; exact hS
  suffices hgo : W p l e ({ frames := 0, cells := 0, slots := 0, locals := 0 }) s m ([.ref (h 0)] : List Value).toArray below meth c H locs 0 0 Qz (F0 m 0 ls []) by rw [hH, hlo] at hgo; exact hgo
  refine lv_aload_n hx hb dX11_undo_0 rfl (lv_at hl 0 rfl) ?_
  refine sg_get (ci := 11) (v := .ref (h 32)) (C := RX11) (T := TX11) (N := 10) hx hb hts (by decide +kernel) hown hK hP 0 (by decide) rfl rfl 7 (by decide) (hts (.fieldLink RX11 67 "SetAgain" "changes" "LSetAgain$Changes;") (by decide +kernel)) (fun _ h9 => h9) rfl dX11_undo_1 ?_
  refine sg_get (ci := 1) (v := .int 0) (C := RX1) (T := TX1) (N := 5) hx hb hts (by decide +kernel) hown hK hP 32 (by decide) rfl rfl 3 (by decide) (hts (.fieldLink RX11 238 "SetAgain$Changes" "done" "I") (by decide +kernel)) (fun _ h9 => h9) rfl dX11_undo_4 ?_
  refine lv_if_ne (tgt := 13) hx hb dX11_undo_7 (by decide) (fun c => absurd c (by decide)) (fun c => ?_)
  refine lv_bipush (v := (-5)) hx hb dX11_undo_10 (by decide) ?_
  exact hret _ _ _ _ (-5) f0X L0 Q0 dX11_undo_12 hP hS ⟨trivial, ⟨rfl, trivial⟩⟩

set_option maxHeartbeats 4000000 in
set_option maxRecDepth 100000 in
theorem cf_X11_redo (l : Launch) (D : va_G) (ca : Nat → ClassId) (za h : Nat → Nat) (hh : sgH 52 h)  (sz : Nat) : Met l yX11_redo wsX11_redo { frames := 0, cells := 0, slots := 0, locals := 0 } (sgP D vwCl (tyX ca) 52 h (eX ca h) zcX za f0X L0 Q0 sz [.ref (h 0)]) (sgQi D vwCl 52 h (eX ca h) sz (fun r f1 L1 Q1 => True ∧ ((r = (-5) ∧ (True))))) 0 0 (sgA 52 h sz) := by
  refine sg_ofWi (cc := cX11_redo) (maxL := 1) RX11 (by decide) rfl rfl (Nat.le_of_ble_eq_true rfl) ?_
  intro p e s m below meth c Qz ls hx hb hml hown hts hK hZ hP hS hl hret
  have hA := sgY.self (n := 52) (h := h) (sz := s.heap.size)
  have hl : lv_has ls 1 [(0, .ref (h 0))] := hl
  obtain ⟨H, hH⟩ : ∃ z : Heap, z = s.heap := ⟨_, rfl⟩
  obtain ⟨locs, hlo⟩ : ∃ z : List Loc, z = [] := ⟨_, rfl⟩
  have hP : va_P D vwCl (sgw 52 h (eX ca h) f0X L0 Q0) H := by rw [hH]; exact hP
  have hS : va_S (sgA 52 h s.heap.size) s.heap H locs := by rw [hH, hlo]; exact hS
  suffices hgo : W p l e ({ frames := 0, cells := 0, slots := 0, locals := 0 }) s m ([.ref (h 0)] : List Value).toArray below meth c H locs 0 0 Qz (F0 m 0 ls []) by rw [hH, hlo] at hgo; exact hgo
  refine lv_aload_n hx hb dX11_redo_0 rfl (lv_at hl 0 rfl) ?_
  refine sg_get (ci := 11) (v := .ref (h 32)) (C := RX11) (T := TX11) (N := 10) hx hb hts (by decide +kernel) hown hK hP 0 (by decide) rfl rfl 7 (by decide) (hts (.fieldLink RX11 67 "SetAgain" "changes" "LSetAgain$Changes;") (by decide +kernel)) (fun _ h9 => h9) rfl dX11_redo_1 ?_
  refine sg_get (ci := 1) (v := .int 0) (C := RX1) (T := TX1) (N := 5) hx hb hts (by decide +kernel) hown hK hP 32 (by decide) rfl rfl 3 (by decide) (hts (.fieldLink RX11 238 "SetAgain$Changes" "done" "I") (by decide +kernel)) (fun _ h9 => h9) rfl dX11_redo_4 ?_
  refine lv_aload_n hx hb dX11_redo_7 rfl (lv_at hl 0 rfl) ?_
  refine sg_get (ci := 11) (v := .ref (h 32)) (C := RX11) (T := TX11) (N := 10) hx hb hts (by decide +kernel) hown hK hP 0 (by decide) rfl rfl 7 (by decide) (hts (.fieldLink RX11 67 "SetAgain" "changes" "LSetAgain$Changes;") (by decide +kernel)) (fun _ h9 => h9) rfl dX11_redo_8 ?_
  refine sg_get (ci := 1) (v := .int 0) (C := RX1) (T := TX1) (N := 5) hx hb hts (by decide +kernel) hown hK hP 32 (by decide) rfl rfl 4 (by decide) (hts (.fieldLink RX11 247 "SetAgain$Changes" "kept" "I") (by decide +kernel)) (fun _ h9 => h9) rfl dX11_redo_11 ?_
  refine lv_icmp_lt (tgt := 20) hx hb dX11_redo_14 (by decide) (fun c => absurd c (by decide)) (fun c => ?_)
  refine lv_bipush (v := (-5)) hx hb dX11_redo_17 (by decide) ?_
  exact hret _ _ _ _ (-5) f0X L0 Q0 dX11_redo_19 hP hS ⟨trivial, ⟨rfl, trivial⟩⟩

set_option maxHeartbeats 4000000 in
set_option maxRecDepth 100000 in
theorem cf_X3_comes (l : Launch) (D : va_G) (ca : Nat → ClassId) (za h : Nat → Nat) (hh : sgH 52 h) (x0 : Int32) (sz : Nat) : Met l yX3_comes wsX3_comes { frames := 0, cells := 0, slots := 0, locals := 0 } (sgP D vwCl (tyX ca) 52 h (eX ca h) zcX za f0X L0 Q0 sz [.ref (h 36), .int x0]) (sgQi D vwCl 52 h (eX ca h) sz (fun r f1 L1 Q1 => True ∧ ((r = 0 ∧ (True))))) 0 0 (sgA 52 h sz) := by
  refine sg_ofWi (cc := cX3_comes) (maxL := 2) RX3 (by decide) rfl rfl (Nat.le_of_ble_eq_true rfl) ?_
  intro p e s m below meth c Qz ls hx hb hml hown hts hK hZ hP hS hl hret
  have hA := sgY.self (n := 52) (h := h) (sz := s.heap.size)
  have hl : lv_has ls 2 [(0, .ref (h 36)), (1, .int x0)] := hl
  obtain ⟨H, hH⟩ : ∃ z : Heap, z = s.heap := ⟨_, rfl⟩
  obtain ⟨locs, hlo⟩ : ∃ z : List Loc, z = [] := ⟨_, rfl⟩
  have hP : va_P D vwCl (sgw 52 h (eX ca h) f0X L0 Q0) H := by rw [hH]; exact hP
  have hS : va_S (sgA 52 h s.heap.size) s.heap H locs := by rw [hH, hlo]; exact hS
  suffices hgo : W p l e ({ frames := 0, cells := 0, slots := 0, locals := 0 }) s m ([.ref (h 36), .int x0] : List Value).toArray below meth c H locs 0 0 Qz (F0 m 0 ls []) by rw [hH, hlo] at hgo; exact hgo
  refine lv_aload_n hx hb dX3_comes_0 rfl (lv_at hl 0 rfl) ?_
  refine sg_get (ci := 3) (v := .int 0) (C := RX3) (T := TX3) (N := 6) hx hb hts (by decide +kernel) hown hK hP 36 (by decide) rfl rfl 2 (by decide) (hts (.fieldLink RX3 18 "SetAgain$Desks" "kept" "I") (by decide +kernel)) (fun _ h9 => h9) rfl dX3_comes_1 ?_
  refine lv_bipush (v := 50) hx hb dX3_comes_4 (by decide) ?_
  refine lv_icmp_lt (tgt := 12) hx hb dX3_comes_6 (by decide) (fun c => ?_) (fun c => absurd c (by decide))
  refine lv_aload_n hx hb dX3_comes_12 rfl (lv_at hl 0 rfl) ?_
  refine sg_get (ci := 3) (v := .ref (h 37)) (C := RX3) (T := TX3) (N := 6) hx hb hts (by decide +kernel) hown hK hP 36 (by decide) rfl rfl 0 (by decide) (hts (.fieldLink RX3 9 "SetAgain$Desks" "kinds" "[I") (by decide +kernel)) (fun _ h9 => h9) rfl dX3_comes_13 ?_
  refine lv_aload_n hx hb dX3_comes_16 rfl (lv_at hl 0 rfl) ?_
  refine sg_get (ci := 3) (v := .int 0) (C := RX3) (T := TX3) (N := 6) hx hb hts (by decide +kernel) hown hK hP 36 (by decide) rfl rfl 2 (by decide) (hts (.fieldLink RX3 18 "SetAgain$Desks" "kept" "I") (by decide +kernel)) (fun _ h9 => h9) rfl dX3_comes_17 ?_
  refine lv_iload_n hx hb dX3_comes_20 rfl (lv_at hl 1 rfl) ?_
  refine sg_iast hx hb hh hA hK hP hS 37 (by decide) 0 (fun _ => rfl) rfl (i := 0) (x := x0) (vp_in_iff.mpr (by decide)) dX3_comes_21 (fun f_1 H locs ef_1 hP hS => ?_)
  refine lv_aload_n hx hb dX3_comes_22 rfl (lv_at hl 0 rfl) ?_
  refine lv_dup hx hb dX3_comes_23 rfl ?_
  refine sg_get (ci := 3) (v := .int 0) (C := RX3) (T := TX3) (N := 6) hx hb hts (by decide +kernel) hown hK hP 36 (by decide) rfl rfl 2 (by decide) (hts (.fieldLink RX3 18 "SetAgain$Desks" "kept" "I") (by decide +kernel)) (fun _ h9 => h9) (congrArg (fun z => some (Value.int z)) (show f_1 36 2 = 0 from (by rw [ef_1]; exact rfl))) dX3_comes_24 ?_
  refine lv_iconst (v := 1) hx hb dX3_comes_27 (by decide) ?_
  refine lv_iadd hx hb dX3_comes_28 ?_
  refine W.eq (g2 := F0 m 29 ls [.int 1, .ref (h 36)]) (by rw [show (0 + 1 : Int32) = 1 from by decide]) ?_
  refine sg_put (ci := 3) (x := 1) (ty := .int) (C := RX3) (T := TX3) (N := 6) hx hb hts (by decide +kernel) tyX3 tyX3_ok nmX3 hown hh hA hK hP hS 36 (by decide) rfl rfl 2 (by decide) (hts (.fieldLink RX3 18 "SetAgain$Desks" "kept" "I") (by decide +kernel)) (fun _ h9 => h9) rfl rfl (by decide +kernel) rfl rfl (Nat.le_of_ble_eq_true rfl) dX3_comes_29 (fun f_2 H locs ef_2 hP hS => ?_)
  refine lv_aload_n hx hb dX3_comes_32 rfl (lv_at hl 0 rfl) ?_
  refine sg_get (ci := 3) (v := .int 1) (C := RX3) (T := TX3) (N := 6) hx hb hts (by decide +kernel) hown hK hP 36 (by decide) rfl rfl 2 (by decide) (hts (.fieldLink RX3 18 "SetAgain$Desks" "kept" "I") (by decide +kernel)) (fun _ h9 => h9) (congrArg (fun z => some (Value.int z)) (show f_2 36 2 = 1 from (by rw [ef_2]; rfl))) dX3_comes_33 ?_
  refine lv_iconst (v := 1) hx hb dX3_comes_36 (by decide) ?_
  refine lv_isub hx hb dX3_comes_37 ?_
  refine W.eq (g2 := F0 m 38 ls [.int 0]) (by rw [show (1 - 1 : Int32) = 0 from by decide]) ?_
  exact hret _ _ _ _ (0) f_2 L0 Q0 dX3_comes_38 hP hS ⟨trivial, ⟨rfl, trivial⟩⟩

set_option maxHeartbeats 4000000 in
set_option maxRecDepth 100000 in
theorem cf_X11_body (l : Launch) (D : va_G) (ca : Nat → ClassId) (za h : Nat → Nat) (hh : sgH 52 h) (x0 : Int32) (sz : Nat) : Met l yX11_body wsX11_body { frames := 1, cells := 0, slots := 0, locals := 21 } (sgP D vwCl (tyX ca) 52 h (eX ca h) zcX za f0X L0 Q0 sz [.ref (h 0), .int x0]) (sgQi D vwCl 52 h (eX ca h) sz (fun r f1 L1 Q1 => True ∧ ((r = 0 ∧ ((0 ≤ x0.toInt ∧ x0.toInt ≤ 7))) ∨ (r = (-1) ∧ (¬ ((0 ≤ x0.toInt ∧ x0.toInt ≤ 7))))))) 0 0 (sgA 52 h sz) := by
  refine sg_ofWi (cc := cX11_body) (maxL := 2) RX11 (by decide) rfl rfl (Nat.le_of_ble_eq_true rfl) ?_
  intro p e s m below meth c Qz ls hx hb hml hown hts hK hZ hP hS hl hret
  have hA := sgY.self (n := 52) (h := h) (sz := s.heap.size)
  have hl : lv_has ls 2 [(0, .ref (h 0)), (1, .int x0)] := hl
  obtain ⟨H, hH⟩ : ∃ z : Heap, z = s.heap := ⟨_, rfl⟩
  obtain ⟨locs, hlo⟩ : ∃ z : List Loc, z = [] := ⟨_, rfl⟩
  have hP : va_P D vwCl (sgw 52 h (eX ca h) f0X L0 Q0) H := by rw [hH]; exact hP
  have hS : va_S (sgA 52 h s.heap.size) s.heap H locs := by rw [hH, hlo]; exact hS
  suffices hgo : W p l e ({ frames := 1, cells := 0, slots := 0, locals := 21 }) s m ([.ref (h 0), .int x0] : List Value).toArray below meth c H locs 0 0 Qz (F0 m 0 ls []) by rw [hH, hlo] at hgo; exact hgo
  refine lv_iload_n hx hb dX11_body_0 rfl (lv_at hl 1 rfl) ?_
  refine sg_calli (va_runS (As := [.int x0]) (rest := []) ⟨hx, hb, hml, hown, hts⟩ (cf_X11_isKind l D ca za h hh f0X L0 Q0 x0 H.size) (va_cwS 1 hts gX11_body_X11_isKind rfl rfl rfl (by decide +kernel) ⟨Nat.le_of_ble_eq_true rfl, Nat.le_of_ble_eq_true rfl⟩) (sg_preS hA hK hP hS hZ) rfl rfl hl.1 rfl (lv_room (Nat.le_of_ble_eq_true rfl)) dX11_body_1 ⟨Nat.le_refl _, Nat.le_refl _⟩) hA hS (fun r_4 f_1 L_2 Q_3 H locs hq hP hS => ?_)
  obtain ⟨⟨ef9, eL9, eQ9⟩, hq⟩ := hq
  rw [ef9, eL9, eQ9] at hP; clear ef9 eL9 eQ9
  rcases hq with ⟨rfl, hq⟩ | ⟨rfl, hq⟩
  · skip
    have q_5 := hq
    refine lv_if_eq (tgt := 18) hx hb dX11_body_4 (by decide) (fun c => absurd c (by decide)) (fun c => ?_)
    refine lv_aload_n hx hb dX11_body_7 rfl (lv_at hl 0 rfl) ?_
    refine sg_get (ci := 11) (v := .ref (h 36)) (C := RX11) (T := TX11) (N := 10) hx hb hts (by decide +kernel) hown hK hP 0 (by decide) rfl rfl 8 (by decide) (hts (.fieldLink RX11 74 "SetAgain" "desks" "LSetAgain$Desks;") (by decide +kernel)) (fun _ h9 => h9) rfl dX11_body_8 ?_
    refine lv_iload_n hx hb dX11_body_11 rfl (lv_at hl 1 rfl) ?_
    refine sg_calli (va_runV (As := [.int x0]) (rest := []) ⟨hx, hb, hml, hown, hts⟩ (cf_X3_comes l D ca za h hh x0 H.size) (cwV 1 hts gX11_body_X3_comes rfl rfl rfl (by decide +kernel) ⟨Nat.le_of_ble_eq_true rfl, Nat.le_of_ble_eq_true rfl⟩) (sg_preV (ci := 3) (C := RX3) (T := TX3) (N := 6) hA hK hP hS hZ 36 (by decide) rfl rfl) rfl rfl hl.1 rfl (lv_room (Nat.le_of_ble_eq_true rfl)) dX11_body_12 ⟨Nat.le_refl _, Nat.le_refl _⟩) hA hS (fun r_9 f_6 L_7 Q_8 H locs hq hP hS => ?_)
    obtain ⟨-, hq⟩ := hq
    obtain ⟨rfl, hq⟩ := hq
    have q_10 := hq
    refine lv_goto (tgt := 19) hx hb dX11_body_15 (by decide) ?_
    exact hret _ _ _ _ (0) f_6 L_7 Q_8 dX11_body_19 hP hS ⟨trivial, Or.inl ⟨rfl, by omega⟩⟩
  · skip
    have q_11 := hq
    refine lv_if_eq (tgt := 18) hx hb dX11_body_4 (by decide) (fun c => ?_) (fun c => absurd c (by decide))
    refine lv_iconst (v := (-1)) hx hb dX11_body_18 (by decide) ?_
    exact hret _ _ _ _ (-1) f0X L0 Q0 dX11_body_19 hP hS ⟨trivial, Or.inr (⟨rfl, by omega⟩)⟩

set_option maxHeartbeats 4000000 in
set_option maxRecDepth 100000 in
theorem cf_X3_acts (l : Launch) (D : va_G) (ca : Nat → ClassId) (za h : Nat → Nat) (hh : sgH 52 h) (x0 : Int32) (x1 : Int32) (x2 : Int32) (sz : Nat) : Met l yX3_acts wsX3_acts { frames := 0, cells := 0, slots := 0, locals := 0 } (sgP D vwCl (tyX ca) 52 h (eX ca h) zcX za f0X L0 Q0 sz [.ref (h 36), .int x0, .int x1, .int x2]) (sgQi D vwCl 52 h (eX ca h) sz (fun r f1 L1 Q1 => True ∧ ((r = 0 ∧ (True))))) 0 0 (sgA 52 h sz) := by
  refine sg_ofWi (cc := cX3_acts) (maxL := 4) RX3 (by decide) rfl rfl (Nat.le_of_ble_eq_true rfl) ?_
  intro p e s m below meth c Qz ls hx hb hml hown hts hK hZ hP hS hl hret
  have hA := sgY.self (n := 52) (h := h) (sz := s.heap.size)
  have hl : lv_has ls 4 [(0, .ref (h 36)), (1, .int x0), (2, .int x1), (3, .int x2)] := hl
  obtain ⟨H, hH⟩ : ∃ z : Heap, z = s.heap := ⟨_, rfl⟩
  obtain ⟨locs, hlo⟩ : ∃ z : List Loc, z = [] := ⟨_, rfl⟩
  have hP : va_P D vwCl (sgw 52 h (eX ca h) f0X L0 Q0) H := by rw [hH]; exact hP
  have hS : va_S (sgA 52 h s.heap.size) s.heap H locs := by rw [hH, hlo]; exact hS
  suffices hgo : W p l e ({ frames := 0, cells := 0, slots := 0, locals := 0 }) s m ([.ref (h 36), .int x0, .int x1, .int x2] : List Value).toArray below meth c H locs 0 0 Qz (F0 m 0 ls []) by rw [hH, hlo] at hgo; exact hgo
  refine lv_aload_n hx hb dX3_acts_0 rfl (lv_at hl 0 rfl) ?_
  refine lv_iconst (v := 0) hx hb dX3_acts_1 (by decide) ?_
  refine sg_put (ci := 3) (x := 0) (ty := .int) (C := RX3) (T := TX3) (N := 6) hx hb hts (by decide +kernel) tyX3 tyX3_ok nmX3 hown hh hA hK hP hS 36 (by decide) rfl rfl 3 (by decide) (hts (.fieldLink RX3 25 "SetAgain$Desks" "ran" "I") (by decide +kernel)) (fun _ h9 => h9) rfl rfl (by decide +kernel) rfl rfl (Nat.le_of_ble_eq_true rfl) dX3_acts_2 (fun f_1 H locs ef_1 hP hS => ?_)
  refine lv_iload_n hx hb dX3_acts_5 rfl (lv_at hl 1 rfl) ?_
  refine lv_if_lt (tgt := 26) hx hb dX3_acts_6 (by decide) (fun c => ?_) (fun c => ?_)
  · skip
    have c_2 : x0.toInt < 0 := (by have z := bn_lt c; have k1 : (0 : Int32).toInt = 0 := (by decide); omega)
    refine lv_iconst (v := 0) hx hb dX3_acts_26 (by decide) ?_
    exact hret _ _ _ _ (0) f_1 L0 Q0 dX3_acts_27 hP hS ⟨trivial, ⟨rfl, trivial⟩⟩
  · skip
    have c_3 : 0 ≤ x0.toInt := (by have z := bn_nlt c; have k1 : (0 : Int32).toInt = 0 := (by decide); omega)
    refine lv_iload_n hx hb dX3_acts_9 rfl (lv_at hl 1 rfl) ?_
    refine lv_aload_n hx hb dX3_acts_10 rfl (lv_at hl 0 rfl) ?_
    refine sg_get (ci := 3) (v := .int 0) (C := RX3) (T := TX3) (N := 6) hx hb hts (by decide +kernel) hown hK hP 36 (by decide) rfl rfl 2 (by decide) (hts (.fieldLink RX3 18 "SetAgain$Desks" "kept" "I") (by decide +kernel)) (fun _ h9 => h9) (congrArg (fun z => some (Value.int z)) (show f_1 36 2 = 0 from (by rw [ef_1]; exact rfl))) dX3_acts_11 ?_
    refine lv_icmp_ge (tgt := 26) hx hb dX3_acts_14 (by decide) (fun c => ?_) (fun c => ?_)
    · skip
      have c_4 : 0 ≤ x0.toInt := (by have z := bn_le c; have k1 : (0 : Int32).toInt = 0 := (by decide); omega)
      refine lv_iconst (v := 0) hx hb dX3_acts_26 (by decide) ?_
      exact hret _ _ _ _ (0) f_1 L0 Q0 dX3_acts_27 hP hS ⟨trivial, ⟨rfl, trivial⟩⟩
    · skip
      exfalso; have c_5 : x0.toInt < 0 := (by have z := bn_nle c; have k1 : (0 : Int32).toInt = 0 := (by decide); omega); omega

set_option maxHeartbeats 4000000 in
set_option maxRecDepth 100000 in
theorem cf_X11_act (l : Launch) (D : va_G) (ca : Nat → ClassId) (za h : Nat → Nat) (hh : sgH 52 h) (x0 : Int32) (x1 : Int32) (x2 : Int32) (sz : Nat) : Met l yX11_act wsX11_act { frames := 1, cells := 0, slots := 0, locals := 23 } (sgP D vwCl (tyX ca) 52 h (eX ca h) zcX za f0X L0 Q0 sz [.ref (h 0), .int x0, .int x1, .int x2]) (sgQi D vwCl 52 h (eX ca h) sz (fun r f1 L1 Q1 => True ∧ ((r = 0 ∧ (True))))) 0 0 (sgA 52 h sz) := by
  refine sg_ofWi (cc := cX11_act) (maxL := 4) RX11 (by decide) rfl rfl (Nat.le_of_ble_eq_true rfl) ?_
  intro p e s m below meth c Qz ls hx hb hml hown hts hK hZ hP hS hl hret
  have hA := sgY.self (n := 52) (h := h) (sz := s.heap.size)
  have hl : lv_has ls 4 [(0, .ref (h 0)), (1, .int x0), (2, .int x1), (3, .int x2)] := hl
  obtain ⟨H, hH⟩ : ∃ z : Heap, z = s.heap := ⟨_, rfl⟩
  obtain ⟨locs, hlo⟩ : ∃ z : List Loc, z = [] := ⟨_, rfl⟩
  have hP : va_P D vwCl (sgw 52 h (eX ca h) f0X L0 Q0) H := by rw [hH]; exact hP
  have hS : va_S (sgA 52 h s.heap.size) s.heap H locs := by rw [hH, hlo]; exact hS
  suffices hgo : W p l e ({ frames := 1, cells := 0, slots := 0, locals := 23 }) s m ([.ref (h 0), .int x0, .int x1, .int x2] : List Value).toArray below meth c H locs 0 0 Qz (F0 m 0 ls []) by rw [hH, hlo] at hgo; exact hgo
  refine lv_aload_n hx hb dX11_act_0 rfl (lv_at hl 0 rfl) ?_
  refine sg_get (ci := 11) (v := .ref (h 36)) (C := RX11) (T := TX11) (N := 10) hx hb hts (by decide +kernel) hown hK hP 0 (by decide) rfl rfl 8 (by decide) (hts (.fieldLink RX11 74 "SetAgain" "desks" "LSetAgain$Desks;") (by decide +kernel)) (fun _ h9 => h9) rfl dX11_act_1 ?_
  refine lv_iload_n hx hb dX11_act_4 rfl (lv_at hl 1 rfl) ?_
  refine lv_iload_n hx hb dX11_act_5 rfl (lv_at hl 2 rfl) ?_
  refine lv_iload_n hx hb dX11_act_6 rfl (lv_at hl 3 rfl) ?_
  refine sg_calli (va_runV (As := [.int x0, .int x1, .int x2]) (rest := []) ⟨hx, hb, hml, hown, hts⟩ (cf_X3_acts l D ca za h hh x0 x1 x2 H.size) (cwV 3 hts gX11_act_X3_acts rfl rfl rfl (by decide +kernel) ⟨Nat.le_of_ble_eq_true rfl, Nat.le_of_ble_eq_true rfl⟩) (sg_preV (ci := 3) (C := RX3) (T := TX3) (N := 6) hA hK hP hS hZ 36 (by decide) rfl rfl) rfl rfl hl.1 rfl (lv_room (Nat.le_of_ble_eq_true rfl)) dX11_act_7 ⟨Nat.le_refl _, Nat.le_refl _⟩) hA hS (fun r_4 f_1 L_2 Q_3 H locs hq hP hS => ?_)
  obtain ⟨-, hq⟩ := hq
  obtain ⟨rfl, hq⟩ := hq
  have q_5 := hq
  exact hret _ _ _ _ (0) f_1 L_2 Q_3 dX11_act_10 hP hS ⟨trivial, ⟨rfl, trivial⟩⟩

set_option maxHeartbeats 4000000 in
set_option maxRecDepth 100000 in
theorem cf_X11_trace (l : Launch) (D : va_G) (ca : Nat → ClassId) (za h : Nat → Nat) (hh : sgH 52 h) (x0 : Int32) (sz : Nat) : Met l yX11_trace wsX11_trace { frames := 1, cells := 0, slots := 0, locals := 21 } (sgP D vwCl (tyX ca) 52 h (eX ca h) zcX za f0X L0 Q0 sz [.ref (h 0), .int x0]) (sgQi D vwCl 52 h (eX ca h) sz (fun r f1 L1 Q1 => True ∧ ((r = (-1) ∧ (True))))) 0 0 (sgA 52 h sz) := by
  refine sg_ofWi (cc := cX11_trace) (maxL := 2) RX11 (by decide) rfl rfl (Nat.le_of_ble_eq_true rfl) ?_
  intro p e s m below meth c Qz ls hx hb hml hown hts hK hZ hP hS hl hret
  have hA := sgY.self (n := 52) (h := h) (sz := s.heap.size)
  have hl : lv_has ls 2 [(0, .ref (h 0)), (1, .int x0)] := hl
  obtain ⟨H, hH⟩ : ∃ z : Heap, z = s.heap := ⟨_, rfl⟩
  obtain ⟨locs, hlo⟩ : ∃ z : List Loc, z = [] := ⟨_, rfl⟩
  have hP : va_P D vwCl (sgw 52 h (eX ca h) f0X L0 Q0) H := by rw [hH]; exact hP
  have hS : va_S (sgA 52 h s.heap.size) s.heap H locs := by rw [hH, hlo]; exact hS
  suffices hgo : W p l e ({ frames := 1, cells := 0, slots := 0, locals := 21 }) s m ([.ref (h 0), .int x0] : List Value).toArray below meth c H locs 0 0 Qz (F0 m 0 ls []) by rw [hH, hlo] at hgo; exact hgo
  refine lv_iload_n hx hb dX11_trace_0 rfl (lv_at hl 1 rfl) ?_
  refine lv_if_lt (tgt := 20) hx hb dX11_trace_1 (by decide) (fun c => ?_) (fun c => ?_)
  · skip
    have c_1 : x0.toInt < 0 := (by have z := bn_lt c; have k1 : (0 : Int32).toInt = 0 := (by decide); omega)
    refine lv_iconst (v := (-1)) hx hb dX11_trace_20 (by decide) ?_
    refine lv_goto (tgt := 33) hx hb dX11_trace_21 (by decide) ?_
    exact hret _ _ _ _ (-1) f0X L0 Q0 dX11_trace_33 hP hS ⟨trivial, ⟨rfl, trivial⟩⟩
  · skip
    have c_2 : 0 ≤ x0.toInt := (by have z := bn_nlt c; have k1 : (0 : Int32).toInt = 0 := (by decide); omega)
    refine lv_iload_n hx hb dX11_trace_4 rfl (lv_at hl 1 rfl) ?_
    refine lv_aload_n hx hb dX11_trace_5 rfl (lv_at hl 0 rfl) ?_
    refine sg_get (ci := 11) (v := .ref (h 36)) (C := RX11) (T := TX11) (N := 10) hx hb hts (by decide +kernel) hown hK hP 0 (by decide) rfl rfl 8 (by decide) (hts (.fieldLink RX11 74 "SetAgain" "desks" "LSetAgain$Desks;") (by decide +kernel)) (fun _ h9 => h9) rfl dX11_trace_6 ?_
    refine sg_get (ci := 3) (v := .int 0) (C := RX3) (T := TX3) (N := 6) hx hb hts (by decide +kernel) hown hK hP 36 (by decide) rfl rfl 3 (by decide) (hts (.fieldLink RX11 260 "SetAgain$Desks" "ran" "I") (by decide +kernel)) (fun _ h9 => h9) rfl dX11_trace_9 ?_
    refine lv_bipush (v := 24) hx hb dX11_trace_12 (by decide) ?_
    refine va_mmin hx hb (hml.trans hl.1.symm) hown (hts (.methodLink RX11 263 Lib.Math.min.name) (by decide +kernel)) (hts (.static Lib.Math.min.name) (by decide +kernel)) (hts (.initialized "java/lang/Math") (by decide +kernel)) (hts (.code Lib.Math.min.name Lib.Math.min.code 2 (some .int)) (by decide +kernel)) (Nat.le_of_ble_eq_true rfl) (Nat.le_of_ble_eq_true rfl) (Nat.le_refl _) (Nat.le_refl _) dX11_trace_14 ?_
    refine W.eq (g2 := F0 m 17 ls [.int 0, .int x0]) (by rfl) ?_
    refine lv_icmp_lt (tgt := 24) hx hb dX11_trace_17 (by decide) (fun c => ?_) (fun c => ?_)
    · skip
      exfalso; have c_3 : x0.toInt < 0 := (by have z := bn_lt c; have k1 : (0 : Int32).toInt = 0 := (by decide); omega); omega
    · skip
      have c_4 : 0 ≤ x0.toInt := (by have z := bn_nlt c; have k1 : (0 : Int32).toInt = 0 := (by decide); omega)
      refine lv_iconst (v := (-1)) hx hb dX11_trace_20 (by decide) ?_
      refine lv_goto (tgt := 33) hx hb dX11_trace_21 (by decide) ?_
      exact hret _ _ _ _ (-1) f0X L0 Q0 dX11_trace_33 hP hS ⟨trivial, ⟨rfl, trivial⟩⟩

set_option maxHeartbeats 4000000 in
set_option maxRecDepth 100000 in
theorem cf_X7_takesDesk (l : Launch) (D : va_G) (ca : Nat → ClassId) (za h : Nat → Nat) (hh : sgH 52 h) (x0 : Int32) (t : Nat) (ht_t : t < 6) (sz : Nat) : Met l yX7_takesDesk wsX7_takesDesk { frames := 0, cells := 0, slots := 0, locals := 0 } (sgP D vwCl (tyX ca) 52 h (eX ca h) zcX za f0X L0 Q0 sz [.ref (h (40 + 2 * t)), .int x0]) (sgQv D vwCl 52 h (eX ca h) sz (fun f1 L1 Q1 => True)) 0 0 (sgA 52 h sz) := by
  refine sg_ofWv (cc := cX7_takesDesk) (maxL := 2) RX7 (by decide) rfl rfl (Nat.le_of_ble_eq_true rfl) ?_
  intro p e s m below meth c Qz ls hx hb hml hown hts hK hZ hP hS hl hret
  have hA := sgY.self (n := 52) (h := h) (sz := s.heap.size)
  have hl : lv_has ls 2 [(0, .ref (h (40 + 2 * t))), (1, .int x0)] := hl
  obtain ⟨H, hH⟩ : ∃ z : Heap, z = s.heap := ⟨_, rfl⟩
  obtain ⟨locs, hlo⟩ : ∃ z : List Loc, z = [] := ⟨_, rfl⟩
  have hP : va_P D vwCl (sgw 52 h (eX ca h) f0X L0 Q0) H := by rw [hH]; exact hP
  have hS : va_S (sgA 52 h s.heap.size) s.heap H locs := by rw [hH, hlo]; exact hS
  suffices hgo : W p l e ({ frames := 0, cells := 0, slots := 0, locals := 0 }) s m ([.ref (h (40 + 2 * t)), .int x0] : List Value).toArray below meth c H locs 0 0 Qz (F0 m 0 ls []) by rw [hH, hlo] at hgo; exact hgo
  refine lv_aload_n hx hb dX7_takesDesk_0 rfl (lv_at hl 0 rfl) ?_
  refine lv_iload_n hx hb dX7_takesDesk_1 rfl (lv_at hl 1 rfl) ?_
  refine lv_if_ge (tgt := 9) hx hb dX7_takesDesk_2 (by decide) (fun c => ?_) (fun c => ?_)
  · skip
    have c_1 : 0 ≤ x0.toInt := (by have z := bn_le c; have k1 : (0 : Int32).toInt = 0 := (by decide); omega)
    refine lv_bipush (v := (-2)) hx hb dX7_takesDesk_9 (by decide) ?_
    refine sg_put (ci := 7) (x := (-2)) (ty := .int) (C := RX7) (T := TX7) (N := 4) hx hb hts (by decide +kernel) tyX7 tyX7_ok nmX7 hown hh hA hK hP hS (40 + 2 * t) (by have := ht_t; omega) (eX_sh ca h ht_t _ _ _) rfl 1 (by decide) (hts (.fieldLink RX7 15 "SetAgain$Shelf" "sort" "I") (by decide +kernel)) (fun _ h9 => h9) rfl (eX_sh ca h ht_t _ _ _) (by decide +kernel) rfl rfl (Nat.le_of_ble_eq_true rfl) dX7_takesDesk_11 (fun f_3 H locs ef_3 hP hS => ?_)
    refine lv_aload_n hx hb dX7_takesDesk_14 rfl (lv_at hl 0 rfl) ?_
    refine lv_iload_n hx hb dX7_takesDesk_15 rfl (lv_at hl 1 rfl) ?_
    refine sg_put (ci := 7) (x := x0) (ty := .int) (C := RX7) (T := TX7) (N := 4) hx hb hts (by decide +kernel) tyX7 tyX7_ok nmX7 hown hh hA hK hP hS (40 + 2 * t) (by have := ht_t; omega) (eX_sh ca h ht_t _ _ _) rfl 3 (by decide) (hts (.fieldLink RX7 19 "SetAgain$Shelf" "desk" "I") (by decide +kernel)) (fun _ h9 => h9) rfl (eX_sh ca h ht_t _ _ _) (by decide +kernel) rfl rfl (Nat.le_of_ble_eq_true rfl) dX7_takesDesk_16 (fun f_4 H locs ef_4 hP hS => ?_)
    exact hret _ _ _ _ f_4 L0 Q0 dX7_takesDesk_19 hP hS trivial
  · skip
    have c_2 : x0.toInt < 0 := (by have z := bn_nle c; have k1 : (0 : Int32).toInt = 0 := (by decide); omega)
    refine lv_iconst (v := (-1)) hx hb dX7_takesDesk_5 (by decide) ?_
    refine lv_goto (tgt := 11) hx hb dX7_takesDesk_6 (by decide) ?_
    refine sg_put (ci := 7) (x := (-1)) (ty := .int) (C := RX7) (T := TX7) (N := 4) hx hb hts (by decide +kernel) tyX7 tyX7_ok nmX7 hown hh hA hK hP hS (40 + 2 * t) (by have := ht_t; omega) (eX_sh ca h ht_t _ _ _) rfl 1 (by decide) (hts (.fieldLink RX7 15 "SetAgain$Shelf" "sort" "I") (by decide +kernel)) (fun _ h9 => h9) rfl (eX_sh ca h ht_t _ _ _) (by decide +kernel) rfl rfl (Nat.le_of_ble_eq_true rfl) dX7_takesDesk_11 (fun f_5 H locs ef_5 hP hS => ?_)
    refine lv_aload_n hx hb dX7_takesDesk_14 rfl (lv_at hl 0 rfl) ?_
    refine lv_iload_n hx hb dX7_takesDesk_15 rfl (lv_at hl 1 rfl) ?_
    refine sg_put (ci := 7) (x := x0) (ty := .int) (C := RX7) (T := TX7) (N := 4) hx hb hts (by decide +kernel) tyX7 tyX7_ok nmX7 hown hh hA hK hP hS (40 + 2 * t) (by have := ht_t; omega) (eX_sh ca h ht_t _ _ _) rfl 3 (by decide) (hts (.fieldLink RX7 19 "SetAgain$Shelf" "desk" "I") (by decide +kernel)) (fun _ h9 => h9) rfl (eX_sh ca h ht_t _ _ _) (by decide +kernel) rfl rfl (Nat.le_of_ble_eq_true rfl) dX7_takesDesk_16 (fun f_6 H locs ef_6 hP hS => ?_)
    exact hret _ _ _ _ f_6 L0 Q0 dX7_takesDesk_19 hP hS trivial

set_option maxHeartbeats 4000000 in
set_option maxRecDepth 100000 in
theorem cf_X11_keep (l : Launch) (D : va_G) (ca : Nat → ClassId) (za h : Nat → Nat) (hh : sgH 52 h) (x0 : Int32) (x1 : Int32) (sz : Nat) : Met l yX11_keep wsX11_keep { frames := 1, cells := 0, slots := 0, locals := 21 } (sgP D vwCl (tyX ca) 52 h (eX ca h) zcX za f0X L0 Q0 sz [.ref (h 0), .int x0, .int x1]) (sgQi D vwCl 52 h (eX ca h) sz (fun r f1 L1 Q1 => True ∧ ((r = 1 ∧ ((0 ≤ x0.toInt ∧ x0.toInt ≤ 5) ∧ x1.toInt = -1)) ∨ (r = (-1) ∧ (¬ ((0 ≤ x0.toInt ∧ x0.toInt ≤ 5) ∧ x1.toInt = -1)))))) 0 0 (sgA 52 h sz) := by
  refine sg_ofWi (cc := cX11_keep) (maxL := 3) RX11 (by decide) rfl rfl (Nat.le_of_ble_eq_true rfl) ?_
  intro p e s m below meth c Qz ls hx hb hml hown hts hK hZ hP hS hl hret
  have hA := sgY.self (n := 52) (h := h) (sz := s.heap.size)
  have hl : lv_has ls 3 [(0, .ref (h 0)), (1, .int x0), (2, .int x1)] := hl
  obtain ⟨H, hH⟩ : ∃ z : Heap, z = s.heap := ⟨_, rfl⟩
  obtain ⟨locs, hlo⟩ : ∃ z : List Loc, z = [] := ⟨_, rfl⟩
  have hP : va_P D vwCl (sgw 52 h (eX ca h) f0X L0 Q0) H := by rw [hH]; exact hP
  have hS : va_S (sgA 52 h s.heap.size) s.heap H locs := by rw [hH, hlo]; exact hS
  suffices hgo : W p l e ({ frames := 1, cells := 0, slots := 0, locals := 21 }) s m ([.ref (h 0), .int x0, .int x1] : List Value).toArray below meth c H locs 0 0 Qz (F0 m 0 ls []) by rw [hH, hlo] at hgo; exact hgo
  refine lv_iload_n hx hb dX11_keep_0 rfl (lv_at hl 1 rfl) ?_
  refine sg_calli (va_runS (As := [.int x0]) (rest := []) ⟨hx, hb, hml, hown, hts⟩ (cf_X11_isShelf l D ca za h hh f0X L0 Q0 x0 H.size) (va_cwS 1 hts gX11_keep_X11_isShelf rfl rfl rfl (by decide +kernel) ⟨Nat.le_of_ble_eq_true rfl, Nat.le_of_ble_eq_true rfl⟩) (sg_preS hA hK hP hS hZ) rfl rfl hl.1 rfl (lv_room (Nat.le_of_ble_eq_true rfl)) dX11_keep_1 ⟨Nat.le_refl _, Nat.le_refl _⟩) hA hS (fun r_4 f_1 L_2 Q_3 H locs hq hP hS => ?_)
  obtain ⟨⟨ef9, eL9, eQ9⟩, hq⟩ := hq
  rw [ef9, eL9, eQ9] at hP; clear ef9 eL9 eQ9
  rcases hq with ⟨rfl, hq⟩ | ⟨rfl, hq⟩
  · skip
    have q_5 := hq
    refine lv_if_eq (tgt := 23) hx hb dX11_keep_4 (by decide) (fun c => absurd c (by decide)) (fun c => ?_)
    refine lv_iload_n hx hb dX11_keep_7 rfl (lv_at hl 2 rfl) ?_
    refine lv_iconst (v := (-1)) hx hb dX11_keep_8 (by decide) ?_
    refine lv_icmp_lt (tgt := 23) hx hb dX11_keep_9 (by decide) (fun c => ?_) (fun c => ?_)
    · skip
      have c_6 : x1.toInt < (-1) := (by have z := bn_lt c; have k1 : ((-1) : Int32).toInt = (-1) := (by decide); omega)
      refine lv_iconst (v := (-1)) hx hb dX11_keep_23 (by decide) ?_
      exact hret _ _ _ _ (-1) f0X L0 Q0 dX11_keep_24 hP hS ⟨trivial, Or.inr (⟨rfl, by omega⟩)⟩
    · skip
      have c_7 : (-1) ≤ x1.toInt := (by have z := bn_nlt c; have k1 : ((-1) : Int32).toInt = (-1) := (by decide); omega)
      refine lv_iload_n hx hb dX11_keep_12 rfl (lv_at hl 2 rfl) ?_
      refine lv_aload_n hx hb dX11_keep_13 rfl (lv_at hl 0 rfl) ?_
      refine sg_get (ci := 11) (v := .ref (h 36)) (C := RX11) (T := TX11) (N := 10) hx hb hts (by decide +kernel) hown hK hP 0 (by decide) rfl rfl 8 (by decide) (hts (.fieldLink RX11 74 "SetAgain" "desks" "LSetAgain$Desks;") (by decide +kernel)) (fun _ h9 => h9) rfl dX11_keep_14 ?_
      refine sg_get (ci := 3) (v := .int 0) (C := RX3) (T := TX3) (N := 6) hx hb hts (by decide +kernel) hown hK hP 36 (by decide) rfl rfl 2 (by decide) (hts (.fieldLink RX11 271 "SetAgain$Desks" "kept" "I") (by decide +kernel)) (fun _ h9 => h9) rfl dX11_keep_17 ?_
      refine lv_icmp_lt (tgt := 25) hx hb dX11_keep_20 (by decide) (fun c => ?_) (fun c => ?_)
      · skip
        have c_8 : x1.toInt < 0 := (by have z := bn_lt c; have k1 : (0 : Int32).toInt = 0 := (by decide); omega)
        refine lv_aload_n hx hb dX11_keep_25 rfl (lv_at hl 0 rfl) ?_
        refine sg_get (ci := 11) (v := .ref (h 39)) (C := RX11) (T := TX11) (N := 10) hx hb hts (by decide +kernel) hown hK hP 0 (by decide) rfl rfl 9 (by decide) (hts (.fieldLink RX11 80 "SetAgain" "shelves" "[LSetAgain$Shelf;") (by decide +kernel)) (fun _ h9 => h9) rfl dX11_keep_26 ?_
        refine lv_iload_n hx hb dX11_keep_29 rfl (lv_at hl 1 rfl) ?_
        obtain ⟨t_10, et_10⟩ : ∃ z : Nat, z = x0.toNatClampNeg := ⟨_, rfl⟩
        have ht_t_10 : t_10 < 6 := by rw [et_10]; exact bn_kI (by omega) (by omega)
        refine sg_aald hx hb hK hP 39 (by decide) 3 rfl rfl (i := x0) (a := (h (40 + 2 * t_10))) (vp_in_iff.mpr ⟨by omega, by omega⟩) (show (if x0.toNatClampNeg < 6 then some (h (40 + 2 * x0.toNatClampNeg)) else none) = some (h (40 + 2 * t_10)) from by rw [← et_10, if_pos ht_t_10]) dX11_keep_30 ?_
        refine lv_iload_n hx hb dX11_keep_31 rfl (lv_at hl 2 rfl) ?_
        refine sg_callv (va_runV (As := [.int x1]) (rest := []) ⟨hx, hb, hml, hown, hts⟩ (cf_X7_takesDesk l D ca za h hh x1 t_10 ht_t_10 H.size) (cwV 1 hts gX11_keep_X7_takesDesk rfl rfl rfl (by decide +kernel) ⟨Nat.le_of_ble_eq_true rfl, Nat.le_of_ble_eq_true rfl⟩) (sg_preV (ci := 7) (C := RX7) (T := TX7) (N := 4) hA hK hP hS hZ (40 + 2 * t_10) (by have := ht_t_10; omega) (eX_sh ca h ht_t_10 _ _ _) rfl) rfl rfl hl.1 rfl (lv_room (Nat.le_of_ble_eq_true rfl)) dX11_keep_32 ⟨Nat.le_refl _, Nat.le_refl _⟩) hA hS (fun f_11 L_12 Q_13 H locs hq hP hS => ?_)
        refine lv_iconst (v := 1) hx hb dX11_keep_35 (by decide) ?_
        exact hret _ _ _ _ (1) f_11 L_12 Q_13 dX11_keep_36 hP hS ⟨trivial, Or.inl ⟨rfl, by omega⟩⟩
      · skip
        have c_9 : 0 ≤ x1.toInt := (by have z := bn_nlt c; have k1 : (0 : Int32).toInt = 0 := (by decide); omega)
        refine lv_iconst (v := (-1)) hx hb dX11_keep_23 (by decide) ?_
        exact hret _ _ _ _ (-1) f0X L0 Q0 dX11_keep_24 hP hS ⟨trivial, Or.inr (⟨rfl, by omega⟩)⟩
  · skip
    have q_14 := hq
    refine lv_if_eq (tgt := 23) hx hb dX11_keep_4 (by decide) (fun c => ?_) (fun c => absurd c (by decide))
    refine lv_iconst (v := (-1)) hx hb dX11_keep_23 (by decide) ?_
    exact hret _ _ _ _ (-1) f0X L0 Q0 dX11_keep_24 hP hS ⟨trivial, Or.inr (⟨rfl, by omega⟩)⟩

set_option maxHeartbeats 4000000 in
set_option maxRecDepth 100000 in
theorem cf_X7_takesRow (l : Launch) (D : va_G) (ca : Nat → ClassId) (za h : Nat → Nat) (hh : sgH 52 h) (x0 : Int32) (x1 : Int32) (t : Nat) (ht_t : t < 6) (b1 : 0 ≤ x1.toInt ∧ x1.toInt ≤ 60) (sz : Nat) : Met l yX7_takesRow wsX7_takesRow { frames := 0, cells := 0, slots := 0, locals := 0 } (sgP D vwCl (tyX ca) 52 h (eX ca h) zcX za f0X L0 Q0 sz [.ref (h (40 + 2 * t)), .int x0, .int x1]) (sgQv D vwCl 52 h (eX ca h) sz (fun f1 L1 Q1 => True)) 0 0 (sgA 52 h sz) := by
  refine sg_ofWv (cc := cX7_takesRow) (maxL := 4) RX7 (by decide) rfl rfl (Nat.le_of_ble_eq_true rfl) ?_
  intro p e s m below meth c Qz ls hx hb hml hown hts hK hZ hP hS hl hret
  have hA := sgY.self (n := 52) (h := h) (sz := s.heap.size)
  have hl : lv_has ls 4 [(0, .ref (h (40 + 2 * t))), (1, .int x0), (2, .int x1)] := hl
  obtain ⟨H, hH⟩ : ∃ z : Heap, z = s.heap := ⟨_, rfl⟩
  obtain ⟨locs, hlo⟩ : ∃ z : List Loc, z = [] := ⟨_, rfl⟩
  have hP : va_P D vwCl (sgw 52 h (eX ca h) f0X L0 Q0) H := by rw [hH]; exact hP
  have hS : va_S (sgA 52 h s.heap.size) s.heap H locs := by rw [hH, hlo]; exact hS
  suffices hgo : W p l e ({ frames := 0, cells := 0, slots := 0, locals := 0 }) s m ([.ref (h (40 + 2 * t)), .int x0, .int x1] : List Value).toArray below meth c H locs 0 0 Qz (F0 m 0 ls []) by rw [hH, hlo] at hgo; exact hgo
  refine lv_aload_n hx hb dX7_takesRow_0 rfl (lv_at hl 0 rfl) ?_
  refine lv_iload_n hx hb dX7_takesRow_1 rfl (lv_at hl 1 rfl) ?_
  refine sg_put (ci := 7) (x := x0) (ty := .int) (C := RX7) (T := TX7) (N := 4) hx hb hts (by decide +kernel) tyX7 tyX7_ok nmX7 hown hh hA hK hP hS (40 + 2 * t) (by have := ht_t; omega) (eX_sh ca h ht_t _ _ _) rfl 1 (by decide) (hts (.fieldLink RX7 15 "SetAgain$Shelf" "sort" "I") (by decide +kernel)) (fun _ h9 => h9) rfl (eX_sh ca h ht_t _ _ _) (by decide +kernel) rfl rfl (Nat.le_of_ble_eq_true rfl) dX7_takesRow_2 (fun f_1 H locs ef_1 hP hS => ?_)
  refine lv_aload_n hx hb dX7_takesRow_5 rfl (lv_at hl 0 rfl) ?_
  refine lv_iload_n hx hb dX7_takesRow_6 rfl (lv_at hl 2 rfl) ?_
  refine sg_put (ci := 7) (x := x1) (ty := .int) (C := RX7) (T := TX7) (N := 4) hx hb hts (by decide +kernel) tyX7 tyX7_ok nmX7 hown hh hA hK hP hS (40 + 2 * t) (by have := ht_t; omega) (eX_sh ca h ht_t _ _ _) rfl 2 (by decide) (hts (.fieldLink RX7 22 "SetAgain$Shelf" "length" "I") (by decide +kernel)) (fun _ h9 => h9) rfl (eX_sh ca h ht_t _ _ _) (by decide +kernel) rfl rfl (Nat.le_of_ble_eq_true rfl) dX7_takesRow_7 (fun f_2 H locs ef_2 hP hS => ?_)
  refine lv_iconst (v := 0) hx hb dX7_takesRow_10 (by decide) ?_
  refine lv_istore_n (lv' := [(3, .int 0), (0, .ref (h (40 + 2 * t))), (1, .int x0), (2, .int x1)]) hx hb dX7_takesRow_11 rfl hl (by decide) rfl (fun ls hl => ?_)
  have loop_12 : ∀ (n : Nat) (y3_12 : Int32) (Ll : sg_L) (H : Heap) (locs : List Loc) (ls : Array Slot), x1.toInt - y3_12.toInt < (n : Int) → 0 ≤ y3_12.toInt → y3_12.toInt ≤ x1.toInt → va_P D vwCl (sgw 52 h (eX ca h) f_2 Ll Q0) H → va_S (sgA 52 h s.heap.size) s.heap H locs → lv_has ls 4 [(3, .int y3_12), (0, .ref (h (40 + 2 * t))), (1, .int x0), (2, .int x1)] → W p l e ({ frames := 0, cells := 0, slots := 0, locals := 0 }) s m ([.ref (h (40 + 2 * t)), .int x0, .int x1] : List Value).toArray below meth c H locs 0 0 Qz (F0 m 12 ls []) := by
    intro n
    induction n with
    | zero => intro y3_12 Ll H locs ls hm hf0 hf1 hP hS hl; exact absurd hm (by omega)
    | succ n ih =>
      intro y3_12 Ll H locs ls hm hf0 hf1 hP hS hl
      refine lv_iload_n hx hb dX7_takesRow_12 rfl (lv_at hl 0 rfl) ?_
      refine lv_iload_n hx hb dX7_takesRow_13 rfl (lv_at hl 3 rfl) ?_
      refine lv_icmp_ge (tgt := 30) hx hb dX7_takesRow_14 (by decide) (fun c => ?_) (fun c => ?_)
      · skip
        have c_3 : x1.toInt ≤ y3_12.toInt := (by have z := bn_le c; omega)
        exact hret _ _ _ _ f_2 Ll Q0 dX7_takesRow_30 hP hS trivial
      · skip
        have c_4 : y3_12.toInt < x1.toInt := (by have z := bn_nle c; omega)
        refine lv_aload_n hx hb dX7_takesRow_17 rfl (lv_at hl 1 rfl) ?_
        refine sg_get (ci := 7) (v := .ref (h (41 + 2 * t))) (C := RX7) (T := TX7) (N := 4) hx hb hts (by decide +kernel) hown hK hP (40 + 2 * t) (by have := ht_t; omega) (eX_sh ca h ht_t _ _ _) rfl 0 (by decide) (hts (.fieldLink RX7 9 "SetAgain$Shelf" "elements" "[J") (by decide +kernel)) (fun _ h9 => h9) rfl dX7_takesRow_18 ?_
        refine lv_iload_n hx hb dX7_takesRow_21 rfl (lv_at hl 0 rfl) ?_
        refine lv_lconst (v := 0) hx hb dX7_takesRow_22 (by decide) ?_
        refine sg_last hx hb hh hA hK hP hS (41 + 2 * t) (by have := ht_t; omega) 1 (fun _ => eX_el ca h ht_t _ _ _) rfl (i := y3_12) (x := 0) (vp_in_iff.mpr ⟨by omega, by omega⟩) dX7_takesRow_23 (fun L_5 H locs eL_5 hP hS => ?_)
        obtain ⟨v_6, ev_6⟩ : ∃ z : Int32, z = y3_12 + 1 := ⟨_, rfl⟩
        have q_7 : v_6.toInt = y3_12.toInt + 1 := by rw [ev_6]; exact (bn_addc y3_12 1 (by decide) (by omega) (by omega))
        refine lv_iinc (v := v_6) (lv' := [(3, .int v_6), (0, .ref (h (40 + 2 * t))), (1, .int x0), (2, .int x1)]) hx hb dX7_takesRow_24 hl (k := 0) rfl (by rw [ev_6]; rfl) (by decide) rfl (fun ls hl => ?_)
        refine lv_goto (tgt := 12) hx hb dX7_takesRow_27 (by decide) ?_
        exact ih v_6 L_5 _ _ _ (by omega) (by omega) (by omega) hP hS (lv_sub hl [0, 1, 2, 3] rfl)
  exact loop_12 100 0 L0 _ _ _ (by have k3 : (0 : Int32).toInt = 0 := (by decide); omega) (by have k3 : (0 : Int32).toInt = 0 := (by decide); omega) (by have k3 : (0 : Int32).toInt = 0 := (by decide); omega) hP hS (lv_sub hl [0, 1, 2, 3] rfl)

set_option maxHeartbeats 4000000 in
set_option maxRecDepth 100000 in
theorem cf_X11_row (l : Launch) (D : va_G) (ca : Nat → ClassId) (za h : Nat → Nat) (hh : sgH 52 h) (x0 : Int32) (x1 : Int32) (x2 : Int32) (sz : Nat) : Met l yX11_row wsX11_row { frames := 1, cells := 0, slots := 0, locals := 23 } (sgP D vwCl (tyX ca) 52 h (eX ca h) zcX za f0X L0 Q0 sz [.ref (h 0), .int x0, .int x1, .int x2]) (sgQi D vwCl 52 h (eX ca h) sz (fun r f1 L1 Q1 => True ∧ ((r = 1 ∧ ((0 ≤ x0.toInt ∧ x0.toInt ≤ 5) ∧ (0 ≤ x1.toInt ∧ x1.toInt ≤ 4) ∧ (0 ≤ x2.toInt ∧ x2.toInt ≤ 60))) ∨ (r = (-14) ∧ ((0 ≤ x0.toInt ∧ x0.toInt ≤ 5) ∧ (0 ≤ x1.toInt ∧ x1.toInt ≤ 4) ∧ x2.toInt < 0)) ∨ (r = (-1) ∧ (¬ ((0 ≤ x0.toInt ∧ x0.toInt ≤ 5) ∧ (0 ≤ x1.toInt ∧ x1.toInt ≤ 4) ∧ x2.toInt ≤ 60)))))) 0 0 (sgA 52 h sz) := by
  refine sg_ofWi (cc := cX11_row) (maxL := 4) RX11 (by decide) rfl rfl (Nat.le_of_ble_eq_true rfl) ?_
  intro p e s m below meth c Qz ls hx hb hml hown hts hK hZ hP hS hl hret
  have hA := sgY.self (n := 52) (h := h) (sz := s.heap.size)
  have hl : lv_has ls 4 [(0, .ref (h 0)), (1, .int x0), (2, .int x1), (3, .int x2)] := hl
  obtain ⟨H, hH⟩ : ∃ z : Heap, z = s.heap := ⟨_, rfl⟩
  obtain ⟨locs, hlo⟩ : ∃ z : List Loc, z = [] := ⟨_, rfl⟩
  have hP : va_P D vwCl (sgw 52 h (eX ca h) f0X L0 Q0) H := by rw [hH]; exact hP
  have hS : va_S (sgA 52 h s.heap.size) s.heap H locs := by rw [hH, hlo]; exact hS
  suffices hgo : W p l e ({ frames := 1, cells := 0, slots := 0, locals := 23 }) s m ([.ref (h 0), .int x0, .int x1, .int x2] : List Value).toArray below meth c H locs 0 0 Qz (F0 m 0 ls []) by rw [hH, hlo] at hgo; exact hgo
  refine lv_iload_n hx hb dX11_row_0 rfl (lv_at hl 1 rfl) ?_
  refine sg_calli (va_runS (As := [.int x0]) (rest := []) ⟨hx, hb, hml, hown, hts⟩ (cf_X11_isShelf l D ca za h hh f0X L0 Q0 x0 H.size) (va_cwS 1 hts gX11_row_X11_isShelf rfl rfl rfl (by decide +kernel) ⟨Nat.le_of_ble_eq_true rfl, Nat.le_of_ble_eq_true rfl⟩) (sg_preS hA hK hP hS hZ) rfl rfl hl.1 rfl (lv_room (Nat.le_of_ble_eq_true rfl)) dX11_row_1 ⟨Nat.le_refl _, Nat.le_refl _⟩) hA hS (fun r_4 f_1 L_2 Q_3 H locs hq hP hS => ?_)
  obtain ⟨⟨ef9, eL9, eQ9⟩, hq⟩ := hq
  rw [ef9, eL9, eQ9] at hP; clear ef9 eL9 eQ9
  rcases hq with ⟨rfl, hq⟩ | ⟨rfl, hq⟩
  · skip
    have q_5 := hq
    refine lv_if_eq (tgt := 22) hx hb dX11_row_4 (by decide) (fun c => absurd c (by decide)) (fun c => ?_)
    refine lv_iload_n hx hb dX11_row_7 rfl (lv_at hl 2 rfl) ?_
    refine lv_if_lt (tgt := 22) hx hb dX11_row_8 (by decide) (fun c => ?_) (fun c => ?_)
    · skip
      have c_6 : x1.toInt < 0 := (by have z := bn_lt c; have k1 : (0 : Int32).toInt = 0 := (by decide); omega)
      refine lv_iconst (v := (-1)) hx hb dX11_row_22 (by decide) ?_
      exact hret _ _ _ _ (-1) f0X L0 Q0 dX11_row_23 hP hS ⟨trivial, Or.inr (Or.inr (⟨rfl, by omega⟩))⟩
    · skip
      have c_7 : 0 ≤ x1.toInt := (by have z := bn_nlt c; have k1 : (0 : Int32).toInt = 0 := (by decide); omega)
      refine lv_iload_n hx hb dX11_row_11 rfl (lv_at hl 2 rfl) ?_
      refine lv_iconst (v := 4) hx hb dX11_row_12 (by decide) ?_
      refine lv_icmp_gt (tgt := 22) hx hb dX11_row_13 (by decide) (fun c => ?_) (fun c => ?_)
      · skip
        have c_8 : 4 < x1.toInt := (by have z := bn_lt c; have k1 : (4 : Int32).toInt = 4 := (by decide); omega)
        refine lv_iconst (v := (-1)) hx hb dX11_row_22 (by decide) ?_
        exact hret _ _ _ _ (-1) f0X L0 Q0 dX11_row_23 hP hS ⟨trivial, Or.inr (Or.inr (⟨rfl, by omega⟩))⟩
      · skip
        have c_9 : x1.toInt ≤ 4 := (by have z := bn_nlt c; have k1 : (4 : Int32).toInt = 4 := (by decide); omega)
        refine lv_iload_n hx hb dX11_row_16 rfl (lv_at hl 3 rfl) ?_
        refine lv_bipush (v := 60) hx hb dX11_row_17 (by decide) ?_
        refine lv_icmp_le (tgt := 24) hx hb dX11_row_19 (by decide) (fun c => ?_) (fun c => ?_)
        · skip
          have c_10 : x2.toInt ≤ 60 := (by have z := bn_le c; have k1 : (60 : Int32).toInt = 60 := (by decide); omega)
          refine lv_iload_n hx hb dX11_row_24 rfl (lv_at hl 3 rfl) ?_
          refine lv_if_ge (tgt := 31) hx hb dX11_row_25 (by decide) (fun c => ?_) (fun c => ?_)
          · skip
            have c_12 : 0 ≤ x2.toInt := (by have z := bn_le c; have k1 : (0 : Int32).toInt = 0 := (by decide); omega)
            refine lv_aload_n hx hb dX11_row_31 rfl (lv_at hl 0 rfl) ?_
            refine sg_get (ci := 11) (v := .ref (h 39)) (C := RX11) (T := TX11) (N := 10) hx hb hts (by decide +kernel) hown hK hP 0 (by decide) rfl rfl 9 (by decide) (hts (.fieldLink RX11 80 "SetAgain" "shelves" "[LSetAgain$Shelf;") (by decide +kernel)) (fun _ h9 => h9) rfl dX11_row_32 ?_
            refine lv_iload_n hx hb dX11_row_35 rfl (lv_at hl 1 rfl) ?_
            obtain ⟨t_14, et_14⟩ : ∃ z : Nat, z = x0.toNatClampNeg := ⟨_, rfl⟩
            have ht_t_14 : t_14 < 6 := by rw [et_14]; exact bn_kI (by omega) (by omega)
            refine sg_aald hx hb hK hP 39 (by decide) 3 rfl rfl (i := x0) (a := (h (40 + 2 * t_14))) (vp_in_iff.mpr ⟨by omega, by omega⟩) (show (if x0.toNatClampNeg < 6 then some (h (40 + 2 * x0.toNatClampNeg)) else none) = some (h (40 + 2 * t_14)) from by rw [← et_14, if_pos ht_t_14]) dX11_row_36 ?_
            refine lv_iload_n hx hb dX11_row_37 rfl (lv_at hl 2 rfl) ?_
            refine lv_iload_n hx hb dX11_row_38 rfl (lv_at hl 3 rfl) ?_
            refine sg_callv (va_runV (As := [.int x1, .int x2]) (rest := []) ⟨hx, hb, hml, hown, hts⟩ (cf_X7_takesRow l D ca za h hh x1 x2 t_14 ht_t_14 (by first | omega | decide) H.size) (cwV 2 hts gX11_row_X7_takesRow rfl rfl rfl (by decide +kernel) ⟨Nat.le_of_ble_eq_true rfl, Nat.le_of_ble_eq_true rfl⟩) (sg_preV (ci := 7) (C := RX7) (T := TX7) (N := 4) hA hK hP hS hZ (40 + 2 * t_14) (by have := ht_t_14; omega) (eX_sh ca h ht_t_14 _ _ _) rfl) rfl rfl hl.1 rfl (lv_room (Nat.le_of_ble_eq_true rfl)) dX11_row_39 ⟨Nat.le_refl _, Nat.le_refl _⟩) hA hS (fun f_15 L_16 Q_17 H locs hq hP hS => ?_)
            refine lv_iconst (v := 1) hx hb dX11_row_42 (by decide) ?_
            exact hret _ _ _ _ (1) f_15 L_16 Q_17 dX11_row_43 hP hS ⟨trivial, Or.inl ⟨rfl, by omega⟩⟩
          · skip
            have c_13 : x2.toInt < 0 := (by have z := bn_nle c; have k1 : (0 : Int32).toInt = 0 := (by decide); omega)
            refine lv_bipush (v := (-14)) hx hb dX11_row_28 (by decide) ?_
            exact hret _ _ _ _ (-14) f0X L0 Q0 dX11_row_30 hP hS ⟨trivial, Or.inr (Or.inl ⟨rfl, by omega⟩)⟩
        · skip
          have c_11 : 60 < x2.toInt := (by have z := bn_nle c; have k1 : (60 : Int32).toInt = 60 := (by decide); omega)
          refine lv_iconst (v := (-1)) hx hb dX11_row_22 (by decide) ?_
          exact hret _ _ _ _ (-1) f0X L0 Q0 dX11_row_23 hP hS ⟨trivial, Or.inr (Or.inr (⟨rfl, by omega⟩))⟩
  · skip
    have q_18 := hq
    refine lv_if_eq (tgt := 22) hx hb dX11_row_4 (by decide) (fun c => ?_) (fun c => absurd c (by decide))
    refine lv_iconst (v := (-1)) hx hb dX11_row_22 (by decide) ?_
    exact hret _ _ _ _ (-1) f0X L0 Q0 dX11_row_23 hP hS ⟨trivial, Or.inr (Or.inr (⟨rfl, by omega⟩))⟩

set_option maxHeartbeats 4000000 in
set_option maxRecDepth 100000 in
theorem cf_X11_refusalAt (l : Launch) (D : va_G) (ca : Nat → ClassId) (za h : Nat → Nat) (hh : sgH 52 h) (x0 : Int32) (x1 : Int32) (sz : Nat) : Met l yX11_refusalAt wsX11_refusalAt { frames := 1, cells := 0, slots := 0, locals := 20 } (sgP D vwCl (tyX ca) 52 h (eX ca h) zcX za f0X L0 Q0 sz [.ref (h 0), .int x0, .int x1]) (sgQi D vwCl 52 h (eX ca h) sz (fun r f1 L1 Q1 => (f1 = f0X ∧ L1 = L0 ∧ Q1 = Q0) ∧ ((r = (-11) ∧ ((0 ≤ x0.toInt ∧ x0.toInt ≤ 5))) ∨ (r = (-1) ∧ (¬ ((0 ≤ x0.toInt ∧ x0.toInt ≤ 5))))))) 0 0 (sgA 52 h sz) := by
  refine sg_ofWi (cc := cX11_refusalAt) (maxL := 4) RX11 (by decide) rfl rfl (Nat.le_of_ble_eq_true rfl) ?_
  intro p e s m below meth c Qz ls hx hb hml hown hts hK hZ hP hS hl hret
  have hA := sgY.self (n := 52) (h := h) (sz := s.heap.size)
  have hl : lv_has ls 4 [(0, .ref (h 0)), (1, .int x0), (2, .int x1)] := hl
  obtain ⟨H, hH⟩ : ∃ z : Heap, z = s.heap := ⟨_, rfl⟩
  obtain ⟨locs, hlo⟩ : ∃ z : List Loc, z = [] := ⟨_, rfl⟩
  have hP : va_P D vwCl (sgw 52 h (eX ca h) f0X L0 Q0) H := by rw [hH]; exact hP
  have hS : va_S (sgA 52 h s.heap.size) s.heap H locs := by rw [hH, hlo]; exact hS
  suffices hgo : W p l e ({ frames := 1, cells := 0, slots := 0, locals := 20 }) s m ([.ref (h 0), .int x0, .int x1] : List Value).toArray below meth c H locs 0 0 Qz (F0 m 0 ls []) by rw [hH, hlo] at hgo; exact hgo
  refine lv_iload_n hx hb dX11_refusalAt_0 rfl (lv_at hl 1 rfl) ?_
  refine sg_calli (va_runS (As := [.int x0]) (rest := []) ⟨hx, hb, hml, hown, hts⟩ (cf_X11_isShelf l D ca za h hh f0X L0 Q0 x0 H.size) (va_cwS 1 hts gX11_refusalAt_X11_isShelf rfl rfl rfl (by decide +kernel) ⟨Nat.le_of_ble_eq_true rfl, Nat.le_of_ble_eq_true rfl⟩) (sg_preS hA hK hP hS hZ) rfl rfl hl.1 rfl (lv_room (Nat.le_of_ble_eq_true rfl)) dX11_refusalAt_1 ⟨Nat.le_refl _, Nat.le_refl _⟩) hA hS (fun r_4 f_1 L_2 Q_3 H locs hq hP hS => ?_)
  obtain ⟨⟨ef9, eL9, eQ9⟩, hq⟩ := hq
  rw [ef9, eL9, eQ9] at hP; clear ef9 eL9 eQ9
  rcases hq with ⟨rfl, hq⟩ | ⟨rfl, hq⟩
  · skip
    have q_5 := hq
    refine lv_if_ne (tgt := 9) hx hb dX11_refusalAt_4 (by decide) (fun c => ?_) (fun c => absurd c (by decide))
    refine lv_aload_n hx hb dX11_refusalAt_9 rfl (lv_at hl 0 rfl) ?_
    refine sg_get (ci := 11) (v := .ref (h 39)) (C := RX11) (T := TX11) (N := 10) hx hb hts (by decide +kernel) hown hK hP 0 (by decide) rfl rfl 9 (by decide) (hts (.fieldLink RX11 80 "SetAgain" "shelves" "[LSetAgain$Shelf;") (by decide +kernel)) (fun _ h9 => h9) rfl dX11_refusalAt_10 ?_
    refine lv_iload_n hx hb dX11_refusalAt_13 rfl (lv_at hl 1 rfl) ?_
    obtain ⟨t_6, et_6⟩ : ∃ z : Nat, z = x0.toNatClampNeg := ⟨_, rfl⟩
    have ht_t_6 : t_6 < 6 := by rw [et_6]; exact bn_kI (by omega) (by omega)
    refine sg_aald hx hb hK hP 39 (by decide) 3 rfl rfl (i := x0) (a := (h (40 + 2 * t_6))) (vp_in_iff.mpr ⟨by omega, by omega⟩) (show (if x0.toNatClampNeg < 6 then some (h (40 + 2 * x0.toNatClampNeg)) else none) = some (h (40 + 2 * t_6)) from by rw [← et_6, if_pos ht_t_6]) dX11_refusalAt_14 ?_
    refine lv_astore_n (lv' := [(3, .ref (h (40 + 2 * t_6))), (0, .ref (h 0)), (1, .int x0), (2, .int x1)]) hx hb dX11_refusalAt_15 rfl hl (by decide) rfl (fun ls hl => ?_)
    refine lv_aload_n hx hb dX11_refusalAt_16 rfl (lv_at hl 0 rfl) ?_
    refine sg_get (ci := 7) (v := .int (-1)) (C := RX7) (T := TX7) (N := 4) hx hb hts (by decide +kernel) hown hK hP (40 + 2 * t_6) (by have := ht_t_6; omega) (eX_sh ca h ht_t_6 _ _ _) rfl 1 (by decide) (hts (.fieldLink RX11 100 "SetAgain$Shelf" "sort" "I") (by decide +kernel)) (fun _ h9 => h9) (congrArg (fun z => some (Value.int z)) (show f0X (40 + 2 * t_6) 1 = (-1) from (by rw [f0X_sh ht_t_6]; rfl))) dX11_refusalAt_17 ?_
    refine lv_iconst (v := (-1)) hx hb dX11_refusalAt_20 (by decide) ?_
    refine lv_icmp_ne (tgt := 27) hx hb dX11_refusalAt_21 (by decide) (fun c => absurd c (by decide)) (fun c => ?_)
    refine lv_bipush (v := (-11)) hx hb dX11_refusalAt_24 (by decide) ?_
    exact hret _ _ _ _ (-11) f0X L0 Q0 dX11_refusalAt_26 hP hS ⟨⟨rfl, rfl, rfl⟩, Or.inl ⟨rfl, by omega⟩⟩
  · skip
    have q_7 := hq
    refine lv_if_ne (tgt := 9) hx hb dX11_refusalAt_4 (by decide) (fun c => absurd c (by decide)) (fun c => ?_)
    refine lv_iconst (v := (-1)) hx hb dX11_refusalAt_7 (by decide) ?_
    exact hret _ _ _ _ (-1) f0X L0 Q0 dX11_refusalAt_8 hP hS ⟨⟨rfl, rfl, rfl⟩, Or.inr (⟨rfl, by omega⟩)⟩

set_option maxHeartbeats 4000000 in
set_option maxRecDepth 100000 in
theorem cf_X11_put (l : Launch) (D : va_G) (ca : Nat → ClassId) (za h : Nat → Nat) (hh : sgH 52 h) (x0 : Int32) (x1 : Int32) (x2 : Int64) (sz : Nat) : Met l yX11_put wsX11_put { frames := 2, cells := 0, slots := 0, locals := 43 } (sgP D vwCl (tyX ca) 52 h (eX ca h) zcX za f0X L0 Q0 sz [.ref (h 0), .int x0, .int x1, .long x2]) (sgQi D vwCl 52 h (eX ca h) sz (fun r f1 L1 Q1 => True ∧ ((r = (-11) ∧ ((0 ≤ x0.toInt ∧ x0.toInt ≤ 5))) ∨ (r = (-1) ∧ (¬ ((0 ≤ x0.toInt ∧ x0.toInt ≤ 5))))))) 0 0 (sgA 52 h sz) := by
  refine sg_ofWi (cc := cX11_put) (maxL := 6) RX11 (by decide) rfl rfl (Nat.le_of_ble_eq_true rfl) ?_
  intro p e s m below meth c Qz ls hx hb hml hown hts hK hZ hP hS hl hret
  have hA := sgY.self (n := 52) (h := h) (sz := s.heap.size)
  have hl : lv_has ls 6 [(0, .ref (h 0)), (1, .int x0), (2, .int x1), (3, .long x2)] := hl
  obtain ⟨H, hH⟩ : ∃ z : Heap, z = s.heap := ⟨_, rfl⟩
  obtain ⟨locs, hlo⟩ : ∃ z : List Loc, z = [] := ⟨_, rfl⟩
  have hP : va_P D vwCl (sgw 52 h (eX ca h) f0X L0 Q0) H := by rw [hH]; exact hP
  have hS : va_S (sgA 52 h s.heap.size) s.heap H locs := by rw [hH, hlo]; exact hS
  suffices hgo : W p l e ({ frames := 2, cells := 0, slots := 0, locals := 43 }) s m ([.ref (h 0), .int x0, .int x1, .long x2] : List Value).toArray below meth c H locs 0 0 Qz (F0 m 0 ls []) by rw [hH, hlo] at hgo; exact hgo
  refine lv_aload_n hx hb dX11_put_0 rfl (lv_at hl 0 rfl) ?_
  refine lv_iload_n hx hb dX11_put_1 rfl (lv_at hl 1 rfl) ?_
  refine lv_iload_n hx hb dX11_put_2 rfl (lv_at hl 2 rfl) ?_
  refine sg_calli (va_runV (As := [.int x0, .int x1]) (rest := []) ⟨hx, hb, hml, hown, hts⟩ (cf_X11_refusalAt l D ca za h hh x0 x1 H.size) (cwV 2 hts gX11_put_X11_refusalAt rfl rfl rfl (by decide +kernel) ⟨Nat.le_of_ble_eq_true rfl, Nat.le_of_ble_eq_true rfl⟩) (sg_preV (ci := 11) (C := RX11) (T := TX11) (N := 10) hA hK hP hS hZ 0 (by decide) rfl rfl) rfl rfl hl.1 rfl (lv_room (Nat.le_of_ble_eq_true rfl)) dX11_put_3 ⟨Nat.le_refl _, Nat.le_refl _⟩) hA hS (fun r_4 f_1 L_2 Q_3 H locs hq hP hS => ?_)
  obtain ⟨⟨ef9, eL9, eQ9⟩, hq⟩ := hq
  rw [ef9, eL9, eQ9] at hP; clear ef9 eL9 eQ9
  rcases hq with ⟨rfl, hq⟩ | ⟨rfl, hq⟩
  · skip
    have q_5 := hq
    refine lv_istore (lv' := [(5, .int (-11)), (0, .ref (h 0)), (1, .int x0), (2, .int x1), (3, .long x2)]) hx hb dX11_put_6 hl (by decide) rfl (fun ls hl => ?_)
    refine lv_iload hx hb dX11_put_8 (lv_at hl 0 rfl) ?_
    refine lv_if_eq (tgt := 16) hx hb dX11_put_10 (by decide) (fun c => absurd c (by decide)) (fun c => ?_)
    refine lv_iload hx hb dX11_put_13 (lv_at hl 0 rfl) ?_
    exact hret _ _ _ _ (-11) f0X L0 Q0 dX11_put_15 hP hS ⟨trivial, Or.inl ⟨rfl, by omega⟩⟩
  · skip
    have q_6 := hq
    refine lv_istore (lv' := [(5, .int (-1)), (0, .ref (h 0)), (1, .int x0), (2, .int x1), (3, .long x2)]) hx hb dX11_put_6 hl (by decide) rfl (fun ls hl => ?_)
    refine lv_iload hx hb dX11_put_8 (lv_at hl 0 rfl) ?_
    refine lv_if_eq (tgt := 16) hx hb dX11_put_10 (by decide) (fun c => absurd c (by decide)) (fun c => ?_)
    refine lv_iload hx hb dX11_put_13 (lv_at hl 0 rfl) ?_
    exact hret _ _ _ _ (-1) f0X L0 Q0 dX11_put_15 hP hS ⟨trivial, Or.inr (⟨rfl, by omega⟩)⟩

set_option maxHeartbeats 4000000 in
set_option maxRecDepth 100000 in
theorem cf_X11_element (l : Launch) (D : va_G) (ca : Nat → ClassId) (za h : Nat → Nat) (hh : sgH 52 h) (x0 : Int32) (x1 : Int32) (sz : Nat) : Met l yX11_element wsX11_element { frames := 2, cells := 0, slots := 0, locals := 43 } (sgP D vwCl (tyX ca) 52 h (eX ca h) zcX za f0X L0 Q0 sz [.ref (h 0), .int x0, .int x1]) (sgQl D vwCl 52 h (eX ca h) sz (fun r f1 L1 Q1 => True ∧ ((r = (-9223372036854775808) ∧ (True))))) 0 0 (sgA 52 h sz) := by
  refine sg_ofWl (cc := cX11_element) (maxL := 3) RX11 (by decide) rfl rfl (Nat.le_of_ble_eq_true rfl) ?_
  intro p e s m below meth c Qz ls hx hb hml hown hts hK hZ hP hS hl hret
  have hA := sgY.self (n := 52) (h := h) (sz := s.heap.size)
  have hl : lv_has ls 3 [(0, .ref (h 0)), (1, .int x0), (2, .int x1)] := hl
  obtain ⟨H, hH⟩ : ∃ z : Heap, z = s.heap := ⟨_, rfl⟩
  obtain ⟨locs, hlo⟩ : ∃ z : List Loc, z = [] := ⟨_, rfl⟩
  have hP : va_P D vwCl (sgw 52 h (eX ca h) f0X L0 Q0) H := by rw [hH]; exact hP
  have hS : va_S (sgA 52 h s.heap.size) s.heap H locs := by rw [hH, hlo]; exact hS
  suffices hgo : W p l e ({ frames := 2, cells := 0, slots := 0, locals := 43 }) s m ([.ref (h 0), .int x0, .int x1] : List Value).toArray below meth c H locs 0 0 Qz (F0 m 0 ls []) by rw [hH, hlo] at hgo; exact hgo
  refine lv_aload_n hx hb dX11_element_0 rfl (lv_at hl 0 rfl) ?_
  refine lv_iload_n hx hb dX11_element_1 rfl (lv_at hl 1 rfl) ?_
  refine lv_iload_n hx hb dX11_element_2 rfl (lv_at hl 2 rfl) ?_
  refine sg_calli (va_runV (As := [.int x0, .int x1]) (rest := []) ⟨hx, hb, hml, hown, hts⟩ (cf_X11_refusalAt l D ca za h hh x0 x1 H.size) (cwV 2 hts gX11_element_X11_refusalAt rfl rfl rfl (by decide +kernel) ⟨Nat.le_of_ble_eq_true rfl, Nat.le_of_ble_eq_true rfl⟩) (sg_preV (ci := 11) (C := RX11) (T := TX11) (N := 10) hA hK hP hS hZ 0 (by decide) rfl rfl) rfl rfl hl.1 rfl (lv_room (Nat.le_of_ble_eq_true rfl)) dX11_element_3 ⟨Nat.le_refl _, Nat.le_refl _⟩) hA hS (fun r_4 f_1 L_2 Q_3 H locs hq hP hS => ?_)
  obtain ⟨⟨ef9, eL9, eQ9⟩, hq⟩ := hq
  rw [ef9, eL9, eQ9] at hP; clear ef9 eL9 eQ9
  rcases hq with ⟨rfl, hq⟩ | ⟨rfl, hq⟩
  · skip
    have q_5 := hq
    refine lv_if_eq (tgt := 15) hx hb dX11_element_6 (by decide) (fun c => absurd c (by decide)) (fun c => ?_)
    refine lv_ldc2 (v := (-9223372036854775808)) hx hb hown (hts (.constantLong RX11 289 (-9223372036854775808)) (by decide +kernel)) dX11_element_9 ?_
    refine lv_goto (tgt := 26) hx hb dX11_element_12 (by decide) ?_
    exact hret _ _ _ _ (-9223372036854775808) f0X L0 Q0 dX11_element_26 hP hS ⟨trivial, ⟨rfl, trivial⟩⟩
  · skip
    have q_6 := hq
    refine lv_if_eq (tgt := 15) hx hb dX11_element_6 (by decide) (fun c => absurd c (by decide)) (fun c => ?_)
    refine lv_ldc2 (v := (-9223372036854775808)) hx hb hown (hts (.constantLong RX11 289 (-9223372036854775808)) (by decide +kernel)) dX11_element_9 ?_
    refine lv_goto (tgt := 26) hx hb dX11_element_12 (by decide) ?_
    exact hret _ _ _ _ (-9223372036854775808) f0X L0 Q0 dX11_element_26 hP hS ⟨trivial, ⟨rfl, trivial⟩⟩

set_option maxHeartbeats 4000000 in
set_option maxRecDepth 100000 in
theorem cf_X11_shift (l : Launch) (D : va_G) (ca : Nat → ClassId) (za h : Nat → Nat) (hh : sgH 52 h) (x0 : Int32) (x1 : Int32) (x2 : Int32) (x3 : Int32) (x4 : Int32) (sz : Nat) : Met l yX11_shift wsX11_shift { frames := 1, cells := 0, slots := 0, locals := 20 } (sgP D vwCl (tyX ca) 52 h (eX ca h) zcX za f0X L0 Q0 sz [.ref (h 0), .int x0, .int x1, .int x2, .int x3, .int x4]) (sgQi D vwCl 52 h (eX ca h) sz (fun r f1 L1 Q1 => True ∧ ((r = (-11) ∧ ((0 ≤ x0.toInt ∧ x0.toInt ≤ 5) ∧ (0 ≤ x2.toInt ∧ x2.toInt ≤ 5))) ∨ (r = (-1) ∧ (¬ ((0 ≤ x0.toInt ∧ x0.toInt ≤ 5) ∧ (0 ≤ x2.toInt ∧ x2.toInt ≤ 5))))))) 0 0 (sgA 52 h sz) := by
  refine sg_ofWi (cc := cX11_shift) (maxL := 8) RX11 (by decide) rfl rfl (Nat.le_of_ble_eq_true rfl) ?_
  intro p e s m below meth c Qz ls hx hb hml hown hts hK hZ hP hS hl hret
  have hA := sgY.self (n := 52) (h := h) (sz := s.heap.size)
  have hl : lv_has ls 8 [(0, .ref (h 0)), (1, .int x0), (2, .int x1), (3, .int x2), (4, .int x3), (5, .int x4)] := hl
  obtain ⟨H, hH⟩ : ∃ z : Heap, z = s.heap := ⟨_, rfl⟩
  obtain ⟨locs, hlo⟩ : ∃ z : List Loc, z = [] := ⟨_, rfl⟩
  have hP : va_P D vwCl (sgw 52 h (eX ca h) f0X L0 Q0) H := by rw [hH]; exact hP
  have hS : va_S (sgA 52 h s.heap.size) s.heap H locs := by rw [hH, hlo]; exact hS
  suffices hgo : W p l e ({ frames := 1, cells := 0, slots := 0, locals := 20 }) s m ([.ref (h 0), .int x0, .int x1, .int x2, .int x3, .int x4] : List Value).toArray below meth c H locs 0 0 Qz (F0 m 0 ls []) by rw [hH, hlo] at hgo; exact hgo
  refine lv_iload_n hx hb dX11_shift_0 rfl (lv_at hl 1 rfl) ?_
  refine sg_calli (va_runS (As := [.int x0]) (rest := []) ⟨hx, hb, hml, hown, hts⟩ (cf_X11_isShelf l D ca za h hh f0X L0 Q0 x0 H.size) (va_cwS 1 hts gX11_shift_X11_isShelf rfl rfl rfl (by decide +kernel) ⟨Nat.le_of_ble_eq_true rfl, Nat.le_of_ble_eq_true rfl⟩) (sg_preS hA hK hP hS hZ) rfl rfl hl.1 rfl (lv_room (Nat.le_of_ble_eq_true rfl)) dX11_shift_1 ⟨Nat.le_refl _, Nat.le_refl _⟩) hA hS (fun r_4 f_1 L_2 Q_3 H locs hq hP hS => ?_)
  obtain ⟨⟨ef9, eL9, eQ9⟩, hq⟩ := hq
  rw [ef9, eL9, eQ9] at hP; clear ef9 eL9 eQ9
  rcases hq with ⟨rfl, hq⟩ | ⟨rfl, hq⟩
  · skip
    have q_5 := hq
    refine lv_if_eq (tgt := 14) hx hb dX11_shift_4 (by decide) (fun c => absurd c (by decide)) (fun c => ?_)
    refine lv_iload_n hx hb dX11_shift_7 rfl (lv_at hl 3 rfl) ?_
    refine sg_calli (va_runS (As := [.int x2]) (rest := []) ⟨hx, hb, hml, hown, hts⟩ (cf_X11_isShelf l D ca za h hh f0X L0 Q0 x2 H.size) (va_cwS 1 hts gX11_shift_X11_isShelf rfl rfl rfl (by decide +kernel) ⟨Nat.le_of_ble_eq_true rfl, Nat.le_of_ble_eq_true rfl⟩) (sg_preS hA hK hP hS hZ) rfl rfl hl.1 rfl (lv_room (Nat.le_of_ble_eq_true rfl)) dX11_shift_8 ⟨Nat.le_refl _, Nat.le_refl _⟩) hA hS (fun r_9 f_6 L_7 Q_8 H locs hq hP hS => ?_)
    obtain ⟨⟨ef9, eL9, eQ9⟩, hq⟩ := hq
    rw [ef9, eL9, eQ9] at hP; clear ef9 eL9 eQ9
    rcases hq with ⟨rfl, hq⟩ | ⟨rfl, hq⟩
    · skip
      have q_10 := hq
      refine lv_if_ne (tgt := 16) hx hb dX11_shift_11 (by decide) (fun c => ?_) (fun c => absurd c (by decide))
      refine lv_aload_n hx hb dX11_shift_16 rfl (lv_at hl 0 rfl) ?_
      refine sg_get (ci := 11) (v := .ref (h 39)) (C := RX11) (T := TX11) (N := 10) hx hb hts (by decide +kernel) hown hK hP 0 (by decide) rfl rfl 9 (by decide) (hts (.fieldLink RX11 80 "SetAgain" "shelves" "[LSetAgain$Shelf;") (by decide +kernel)) (fun _ h9 => h9) rfl dX11_shift_17 ?_
      refine lv_iload_n hx hb dX11_shift_20 rfl (lv_at hl 1 rfl) ?_
      obtain ⟨t_11, et_11⟩ : ∃ z : Nat, z = x0.toNatClampNeg := ⟨_, rfl⟩
      have ht_t_11 : t_11 < 6 := by rw [et_11]; exact bn_kI (by omega) (by omega)
      refine sg_aald hx hb hK hP 39 (by decide) 3 rfl rfl (i := x0) (a := (h (40 + 2 * t_11))) (vp_in_iff.mpr ⟨by omega, by omega⟩) (show (if x0.toNatClampNeg < 6 then some (h (40 + 2 * x0.toNatClampNeg)) else none) = some (h (40 + 2 * t_11)) from by rw [← et_11, if_pos ht_t_11]) dX11_shift_21 ?_
      refine lv_astore (lv' := [(6, .ref (h (40 + 2 * t_11))), (0, .ref (h 0)), (1, .int x0), (2, .int x1), (3, .int x2), (4, .int x3), (5, .int x4)]) hx hb dX11_shift_22 hl (by decide) rfl (fun ls hl => ?_)
      refine lv_aload_n hx hb dX11_shift_24 rfl (lv_at hl 1 rfl) ?_
      refine sg_get (ci := 11) (v := .ref (h 39)) (C := RX11) (T := TX11) (N := 10) hx hb hts (by decide +kernel) hown hK hP 0 (by decide) rfl rfl 9 (by decide) (hts (.fieldLink RX11 80 "SetAgain" "shelves" "[LSetAgain$Shelf;") (by decide +kernel)) (fun _ h9 => h9) rfl dX11_shift_25 ?_
      refine lv_iload_n hx hb dX11_shift_28 rfl (lv_at hl 4 rfl) ?_
      obtain ⟨t_12, et_12⟩ : ∃ z : Nat, z = x2.toNatClampNeg := ⟨_, rfl⟩
      have ht_t_12 : t_12 < 6 := by rw [et_12]; exact bn_kI (by omega) (by omega)
      refine sg_aald hx hb hK hP 39 (by decide) 3 rfl rfl (i := x2) (a := (h (40 + 2 * t_12))) (vp_in_iff.mpr ⟨by omega, by omega⟩) (show (if x2.toNatClampNeg < 6 then some (h (40 + 2 * x2.toNatClampNeg)) else none) = some (h (40 + 2 * t_12)) from by rw [← et_12, if_pos ht_t_12]) dX11_shift_29 ?_
      refine lv_astore (lv' := [(7, .ref (h (40 + 2 * t_12))), (6, .ref (h (40 + 2 * t_11))), (0, .ref (h 0)), (1, .int x0), (2, .int x1), (3, .int x2), (4, .int x3), (5, .int x4)]) hx hb dX11_shift_30 hl (by decide) rfl (fun ls hl => ?_)
      refine lv_aload hx hb dX11_shift_32 (lv_at hl 1 rfl) ?_
      refine sg_get (ci := 7) (v := .int (-1)) (C := RX7) (T := TX7) (N := 4) hx hb hts (by decide +kernel) hown hK hP (40 + 2 * t_11) (by have := ht_t_11; omega) (eX_sh ca h ht_t_11 _ _ _) rfl 1 (by decide) (hts (.fieldLink RX11 100 "SetAgain$Shelf" "sort" "I") (by decide +kernel)) (fun _ h9 => h9) (congrArg (fun z => some (Value.int z)) (show f0X (40 + 2 * t_11) 1 = (-1) from (by rw [f0X_sh ht_t_11]; rfl))) dX11_shift_34 ?_
      refine lv_iconst (v := (-1)) hx hb dX11_shift_37 (by decide) ?_
      refine lv_icmp_eq (tgt := 50) hx hb dX11_shift_38 (by decide) (fun c => ?_) (fun c => absurd c (by decide))
      refine lv_bipush (v := (-11)) hx hb dX11_shift_50 (by decide) ?_
      exact hret _ _ _ _ (-11) f0X L0 Q0 dX11_shift_52 hP hS ⟨trivial, Or.inl ⟨rfl, by omega⟩⟩
    · skip
      have q_13 := hq
      refine lv_if_ne (tgt := 16) hx hb dX11_shift_11 (by decide) (fun c => absurd c (by decide)) (fun c => ?_)
      refine lv_iconst (v := (-1)) hx hb dX11_shift_14 (by decide) ?_
      exact hret _ _ _ _ (-1) f0X L0 Q0 dX11_shift_15 hP hS ⟨trivial, Or.inr (⟨rfl, by omega⟩)⟩
  · skip
    have q_14 := hq
    refine lv_if_eq (tgt := 14) hx hb dX11_shift_4 (by decide) (fun c => ?_) (fun c => absurd c (by decide))
    refine lv_iconst (v := (-1)) hx hb dX11_shift_14 (by decide) ?_
    exact hret _ _ _ _ (-1) f0X L0 Q0 dX11_shift_15 hP hS ⟨trivial, Or.inr (⟨rfl, by omega⟩)⟩

set_option maxHeartbeats 4000000 in
set_option maxRecDepth 100000 in
theorem cf_X11_taken (l : Launch) (D : va_G) (ca : Nat → ClassId) (za h : Nat → Nat) (hh : sgH 52 h) (x0 : Int32) (x1 : Int32) (sz : Nat) : Met l yX11_taken wsX11_taken { frames := 1, cells := 0, slots := 0, locals := 20 } (sgP D vwCl (tyX ca) 52 h (eX ca h) zcX za f0X L0 Q0 sz [.ref (h 0), .int x0, .int x1]) (sgQi D vwCl 52 h (eX ca h) sz (fun r f1 L1 Q1 => True ∧ ((r = (-11) ∧ ((0 ≤ x0.toInt ∧ x0.toInt ≤ 5) ∧ (0 ≤ x1.toInt ∧ x1.toInt ≤ 7))) ∨ (r = (-1) ∧ (¬ ((0 ≤ x0.toInt ∧ x0.toInt ≤ 5) ∧ (0 ≤ x1.toInt ∧ x1.toInt ≤ 7))))))) 0 0 (sgA 52 h sz) := by
  refine sg_ofWi (cc := cX11_taken) (maxL := 4) RX11 (by decide) rfl rfl (Nat.le_of_ble_eq_true rfl) ?_
  intro p e s m below meth c Qz ls hx hb hml hown hts hK hZ hP hS hl hret
  have hA := sgY.self (n := 52) (h := h) (sz := s.heap.size)
  have hl : lv_has ls 4 [(0, .ref (h 0)), (1, .int x0), (2, .int x1)] := hl
  obtain ⟨H, hH⟩ : ∃ z : Heap, z = s.heap := ⟨_, rfl⟩
  obtain ⟨locs, hlo⟩ : ∃ z : List Loc, z = [] := ⟨_, rfl⟩
  have hP : va_P D vwCl (sgw 52 h (eX ca h) f0X L0 Q0) H := by rw [hH]; exact hP
  have hS : va_S (sgA 52 h s.heap.size) s.heap H locs := by rw [hH, hlo]; exact hS
  suffices hgo : W p l e ({ frames := 1, cells := 0, slots := 0, locals := 20 }) s m ([.ref (h 0), .int x0, .int x1] : List Value).toArray below meth c H locs 0 0 Qz (F0 m 0 ls []) by rw [hH, hlo] at hgo; exact hgo
  refine lv_iload_n hx hb dX11_taken_0 rfl (lv_at hl 1 rfl) ?_
  refine sg_calli (va_runS (As := [.int x0]) (rest := []) ⟨hx, hb, hml, hown, hts⟩ (cf_X11_isShelf l D ca za h hh f0X L0 Q0 x0 H.size) (va_cwS 1 hts gX11_taken_X11_isShelf rfl rfl rfl (by decide +kernel) ⟨Nat.le_of_ble_eq_true rfl, Nat.le_of_ble_eq_true rfl⟩) (sg_preS hA hK hP hS hZ) rfl rfl hl.1 rfl (lv_room (Nat.le_of_ble_eq_true rfl)) dX11_taken_1 ⟨Nat.le_refl _, Nat.le_refl _⟩) hA hS (fun r_4 f_1 L_2 Q_3 H locs hq hP hS => ?_)
  obtain ⟨⟨ef9, eL9, eQ9⟩, hq⟩ := hq
  rw [ef9, eL9, eQ9] at hP; clear ef9 eL9 eQ9
  rcases hq with ⟨rfl, hq⟩ | ⟨rfl, hq⟩
  · skip
    have q_5 := hq
    refine lv_if_eq (tgt := 14) hx hb dX11_taken_4 (by decide) (fun c => absurd c (by decide)) (fun c => ?_)
    refine lv_iload_n hx hb dX11_taken_7 rfl (lv_at hl 2 rfl) ?_
    refine sg_calli (va_runS (As := [.int x1]) (rest := []) ⟨hx, hb, hml, hown, hts⟩ (cf_X11_isKind l D ca za h hh f0X L0 Q0 x1 H.size) (va_cwS 1 hts gX11_taken_X11_isKind rfl rfl rfl (by decide +kernel) ⟨Nat.le_of_ble_eq_true rfl, Nat.le_of_ble_eq_true rfl⟩) (sg_preS hA hK hP hS hZ) rfl rfl hl.1 rfl (lv_room (Nat.le_of_ble_eq_true rfl)) dX11_taken_8 ⟨Nat.le_refl _, Nat.le_refl _⟩) hA hS (fun r_9 f_6 L_7 Q_8 H locs hq hP hS => ?_)
    obtain ⟨⟨ef9, eL9, eQ9⟩, hq⟩ := hq
    rw [ef9, eL9, eQ9] at hP; clear ef9 eL9 eQ9
    rcases hq with ⟨rfl, hq⟩ | ⟨rfl, hq⟩
    · skip
      have q_10 := hq
      refine lv_if_ne (tgt := 16) hx hb dX11_taken_11 (by decide) (fun c => ?_) (fun c => absurd c (by decide))
      refine lv_aload_n hx hb dX11_taken_16 rfl (lv_at hl 0 rfl) ?_
      refine sg_get (ci := 11) (v := .ref (h 39)) (C := RX11) (T := TX11) (N := 10) hx hb hts (by decide +kernel) hown hK hP 0 (by decide) rfl rfl 9 (by decide) (hts (.fieldLink RX11 80 "SetAgain" "shelves" "[LSetAgain$Shelf;") (by decide +kernel)) (fun _ h9 => h9) rfl dX11_taken_17 ?_
      refine lv_iload_n hx hb dX11_taken_20 rfl (lv_at hl 1 rfl) ?_
      obtain ⟨t_11, et_11⟩ : ∃ z : Nat, z = x0.toNatClampNeg := ⟨_, rfl⟩
      have ht_t_11 : t_11 < 6 := by rw [et_11]; exact bn_kI (by omega) (by omega)
      refine sg_aald hx hb hK hP 39 (by decide) 3 rfl rfl (i := x0) (a := (h (40 + 2 * t_11))) (vp_in_iff.mpr ⟨by omega, by omega⟩) (show (if x0.toNatClampNeg < 6 then some (h (40 + 2 * x0.toNatClampNeg)) else none) = some (h (40 + 2 * t_11)) from by rw [← et_11, if_pos ht_t_11]) dX11_taken_21 ?_
      refine lv_astore_n (lv' := [(3, .ref (h (40 + 2 * t_11))), (0, .ref (h 0)), (1, .int x0), (2, .int x1)]) hx hb dX11_taken_22 rfl hl (by decide) rfl (fun ls hl => ?_)
      refine lv_aload_n hx hb dX11_taken_23 rfl (lv_at hl 0 rfl) ?_
      refine sg_get (ci := 7) (v := .int (-1)) (C := RX7) (T := TX7) (N := 4) hx hb hts (by decide +kernel) hown hK hP (40 + 2 * t_11) (by have := ht_t_11; omega) (eX_sh ca h ht_t_11 _ _ _) rfl 1 (by decide) (hts (.fieldLink RX11 100 "SetAgain$Shelf" "sort" "I") (by decide +kernel)) (fun _ h9 => h9) (congrArg (fun z => some (Value.int z)) (show f0X (40 + 2 * t_11) 1 = (-1) from (by rw [f0X_sh ht_t_11]; rfl))) dX11_taken_24 ?_
      refine lv_iconst (v := (-1)) hx hb dX11_taken_27 (by decide) ?_
      refine lv_icmp_ne (tgt := 34) hx hb dX11_taken_28 (by decide) (fun c => absurd c (by decide)) (fun c => ?_)
      refine lv_bipush (v := (-11)) hx hb dX11_taken_31 (by decide) ?_
      exact hret _ _ _ _ (-11) f0X L0 Q0 dX11_taken_33 hP hS ⟨trivial, Or.inl ⟨rfl, by omega⟩⟩
    · skip
      have q_12 := hq
      refine lv_if_ne (tgt := 16) hx hb dX11_taken_11 (by decide) (fun c => absurd c (by decide)) (fun c => ?_)
      refine lv_iconst (v := (-1)) hx hb dX11_taken_14 (by decide) ?_
      exact hret _ _ _ _ (-1) f0X L0 Q0 dX11_taken_15 hP hS ⟨trivial, Or.inr (⟨rfl, by omega⟩)⟩
  · skip
    have q_13 := hq
    refine lv_if_eq (tgt := 14) hx hb dX11_taken_4 (by decide) (fun c => ?_) (fun c => absurd c (by decide))
    refine lv_iconst (v := (-1)) hx hb dX11_taken_14 (by decide) ?_
    exact hret _ _ _ _ (-1) f0X L0 Q0 dX11_taken_15 hP hS ⟨trivial, Or.inr (⟨rfl, by omega⟩)⟩

set_option maxHeartbeats 4000000 in
set_option maxRecDepth 100000 in
theorem cf_X11_count (l : Launch) (D : va_G) (ca : Nat → ClassId) (za h : Nat → Nat) (hh : sgH 52 h) (x0 : Int32) (sz : Nat) : Met l yX11_count wsX11_count { frames := 0, cells := 0, slots := 0, locals := 0 } (sgP D vwCl (tyX ca) 52 h (eX ca h) zcX za f0X L0 Q0 sz [.ref (h 0), .int x0]) (sgQi D vwCl 52 h (eX ca h) sz (fun r f1 L1 Q1 => True ∧ ((r = 0 ∧ ((0 ≤ x0.toInt ∧ x0.toInt ≤ 4))) ∨ (r = (-1) ∧ (¬ ((0 ≤ x0.toInt ∧ x0.toInt ≤ 4))))))) 0 0 (sgA 52 h sz) := by
  refine sg_ofWi (cc := cX11_count) (maxL := 2) RX11 (by decide) rfl rfl (Nat.le_of_ble_eq_true rfl) ?_
  intro p e s m below meth c Qz ls hx hb hml hown hts hK hZ hP hS hl hret
  have hA := sgY.self (n := 52) (h := h) (sz := s.heap.size)
  have hl : lv_has ls 2 [(0, .ref (h 0)), (1, .int x0)] := hl
  obtain ⟨H, hH⟩ : ∃ z : Heap, z = s.heap := ⟨_, rfl⟩
  obtain ⟨locs, hlo⟩ : ∃ z : List Loc, z = [] := ⟨_, rfl⟩
  have hP : va_P D vwCl (sgw 52 h (eX ca h) f0X L0 Q0) H := by rw [hH]; exact hP
  have hS : va_S (sgA 52 h s.heap.size) s.heap H locs := by rw [hH, hlo]; exact hS
  suffices hgo : W p l e ({ frames := 0, cells := 0, slots := 0, locals := 0 }) s m ([.ref (h 0), .int x0] : List Value).toArray below meth c H locs 0 0 Qz (F0 m 0 ls []) by rw [hH, hlo] at hgo; exact hgo
  refine lv_iload_n hx hb dX11_count_0 rfl (lv_at hl 1 rfl) ?_
  rcases (show (x0.toInt < 0 ∨ 4 < x0.toInt) ∨ x0.toInt = 0 ∨ x0.toInt = 1 ∨ x0.toInt = 2 ∨ x0.toInt = 3 ∨ x0.toInt = 4 from by omega) with c | c | c | c | c | c
  · skip
    refine lv_tableOut (x := x0) (tgt := 79) hx hb dX11_count_1 c (by decide) ?_
    refine lv_iconst (v := (-1)) hx hb dX11_count_79 (by decide) ?_
    exact hret _ _ _ _ (-1) f0X L0 Q0 dX11_count_80 hP hS ⟨trivial, Or.inr (⟨rfl, by omega⟩)⟩
  · skip
    refine lv_tableIn (x := x0) (tgt := 36) hx hb dX11_count_1 (by omega) (by omega) (by rw [c]; rfl) (by decide) ?_
    refine lv_aload_n hx hb dX11_count_36 rfl (lv_at hl 0 rfl) ?_
    refine sg_get (ci := 11) (v := .ref (h 1)) (C := RX11) (T := TX11) (N := 10) hx hb hts (by decide +kernel) hown hK hP 0 (by decide) rfl rfl 0 (by decide) (hts (.fieldLink RX11 12 "SetAgain" "chair" "LSetAgain$Chair;") (by decide +kernel)) (fun _ h9 => h9) rfl dX11_count_37 ?_
    refine sg_get (ci := 0) (v := .int 0) (C := RX0) (T := TX0) (N := 5) hx hb hts (by decide +kernel) hown hK hP 1 (by decide) rfl rfl 3 (by decide) (hts (.fieldLink RX11 310 "SetAgain$Chair" "sitters" "I") (by decide +kernel)) (fun _ h9 => h9) rfl dX11_count_40 ?_
    exact hret _ _ _ _ (0) f0X L0 Q0 dX11_count_43 hP hS ⟨trivial, Or.inl ⟨rfl, by omega⟩⟩
  · skip
    refine lv_tableIn (x := x0) (tgt := 44) hx hb dX11_count_1 (by omega) (by omega) (by rw [c]; rfl) (by decide) ?_
    refine lv_aload_n hx hb dX11_count_44 rfl (lv_at hl 0 rfl) ?_
    refine sg_get (ci := 11) (v := .ref (h 1)) (C := RX11) (T := TX11) (N := 10) hx hb hts (by decide +kernel) hown hK hP 0 (by decide) rfl rfl 0 (by decide) (hts (.fieldLink RX11 12 "SetAgain" "chair" "LSetAgain$Chair;") (by decide +kernel)) (fun _ h9 => h9) rfl dX11_count_45 ?_
    refine sg_get (ci := 0) (v := .ref (h 4)) (C := RX0) (T := TX0) (N := 5) hx hb hts (by decide +kernel) hown hK hP 1 (by decide) rfl rfl 2 (by decide) (hts (.fieldLink RX11 129 "SetAgain$Chair" "law" "LSetAgain$Law;") (by decide +kernel)) (fun _ h9 => h9) rfl dX11_count_48 ?_
    refine sg_get (ci := 5) (v := .int 0) (C := RX5) (T := TX5) (N := 10) hx hb hts (by decide +kernel) hown hK hP 4 (by decide) rfl rfl 1 (by decide) (hts (.fieldLink RX11 313 "SetAgain$Law" "length" "I") (by decide +kernel)) (fun _ h9 => h9) rfl dX11_count_51 ?_
    exact hret _ _ _ _ (0) f0X L0 Q0 dX11_count_54 hP hS ⟨trivial, Or.inl ⟨rfl, by omega⟩⟩
  · skip
    refine lv_tableIn (x := x0) (tgt := 55) hx hb dX11_count_1 (by omega) (by omega) (by rw [c]; rfl) (by decide) ?_
    refine lv_aload_n hx hb dX11_count_55 rfl (lv_at hl 0 rfl) ?_
    refine sg_get (ci := 11) (v := .ref (h 32)) (C := RX11) (T := TX11) (N := 10) hx hb hts (by decide +kernel) hown hK hP 0 (by decide) rfl rfl 7 (by decide) (hts (.fieldLink RX11 67 "SetAgain" "changes" "LSetAgain$Changes;") (by decide +kernel)) (fun _ h9 => h9) rfl dX11_count_56 ?_
    refine sg_get (ci := 1) (v := .int 0) (C := RX1) (T := TX1) (N := 5) hx hb hts (by decide +kernel) hown hK hP 32 (by decide) rfl rfl 3 (by decide) (hts (.fieldLink RX11 238 "SetAgain$Changes" "done" "I") (by decide +kernel)) (fun _ h9 => h9) rfl dX11_count_59 ?_
    exact hret _ _ _ _ (0) f0X L0 Q0 dX11_count_62 hP hS ⟨trivial, Or.inl ⟨rfl, by omega⟩⟩
  · skip
    refine lv_tableIn (x := x0) (tgt := 63) hx hb dX11_count_1 (by omega) (by omega) (by rw [c]; rfl) (by decide) ?_
    refine lv_aload_n hx hb dX11_count_63 rfl (lv_at hl 0 rfl) ?_
    refine sg_get (ci := 11) (v := .ref (h 36)) (C := RX11) (T := TX11) (N := 10) hx hb hts (by decide +kernel) hown hK hP 0 (by decide) rfl rfl 8 (by decide) (hts (.fieldLink RX11 74 "SetAgain" "desks" "LSetAgain$Desks;") (by decide +kernel)) (fun _ h9 => h9) rfl dX11_count_64 ?_
    refine sg_get (ci := 3) (v := .int 0) (C := RX3) (T := TX3) (N := 6) hx hb hts (by decide +kernel) hown hK hP 36 (by decide) rfl rfl 2 (by decide) (hts (.fieldLink RX11 271 "SetAgain$Desks" "kept" "I") (by decide +kernel)) (fun _ h9 => h9) rfl dX11_count_67 ?_
    exact hret _ _ _ _ (0) f0X L0 Q0 dX11_count_70 hP hS ⟨trivial, Or.inl ⟨rfl, by omega⟩⟩
  · skip
    refine lv_tableIn (x := x0) (tgt := 71) hx hb dX11_count_1 (by omega) (by omega) (by rw [c]; rfl) (by decide) ?_
    refine lv_aload_n hx hb dX11_count_71 rfl (lv_at hl 0 rfl) ?_
    refine sg_get (ci := 11) (v := .ref (h 36)) (C := RX11) (T := TX11) (N := 10) hx hb hts (by decide +kernel) hown hK hP 0 (by decide) rfl rfl 8 (by decide) (hts (.fieldLink RX11 74 "SetAgain" "desks" "LSetAgain$Desks;") (by decide +kernel)) (fun _ h9 => h9) rfl dX11_count_72 ?_
    refine sg_get (ci := 3) (v := .int 0) (C := RX3) (T := TX3) (N := 6) hx hb hts (by decide +kernel) hown hK hP 36 (by decide) rfl rfl 3 (by decide) (hts (.fieldLink RX11 260 "SetAgain$Desks" "ran" "I") (by decide +kernel)) (fun _ h9 => h9) rfl dX11_count_75 ?_
    exact hret _ _ _ _ (0) f0X L0 Q0 dX11_count_78 hP hS ⟨trivial, Or.inl ⟨rfl, by omega⟩⟩
end
