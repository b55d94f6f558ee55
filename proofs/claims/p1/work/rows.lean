section
/-! A WORLD AS FUNCTIONS: the cells of a system are numbered 0 .. n-1; cell k lies at h k and holds e k (its ints) (its longs) (its references). The words here are general; each system has its own n, h, e. -/
def sg_up {α : Type} (f : Nat → Nat → α) (k : Nat) (g : Nat → α) : Nat → Nat → α := fun i => bif Nat.beq i k then g else f i
def sgu {α : Type} (g : Nat → α) (j : Nat) (x : α) : Nat → α := fun i => bif Nat.beq i j then x else g i
theorem sg_up_s {α : Type} {f : Nat → Nat → α} {k : Nat} {g : Nat → α} : sg_up f k g k = g := by
  unfold sg_up
  rw [Nat.beq_refl]
  rfl
theorem sg_up_n {α : Type} {f : Nat → Nat → α} {k i : Nat} {g : Nat → α} (h : i ≠ k) : sg_up f k g i = f i := by
  unfold sg_up
  have : Nat.beq i k = false := by
    cases hb : Nat.beq i k
    · rfl
    · exact absurd (Nat.eq_of_beq_eq_true hb) h
  rw [this]
  rfl
theorem sgu_s {α : Type} {g : Nat → α} {j : Nat} {x : α} : sgu g j x j = x := by
  unfold sgu
  rw [Nat.beq_refl]
  rfl
theorem sgu_n {α : Type} {g : Nat → α} {j i : Nat} {x : α} (h : i ≠ j) : sgu g j x i = g i := by
  unfold sgu
  have : Nat.beq i j = false := by
    cases hb : Nat.beq i j
    · rfl
    · exact absurd (Nat.eq_of_beq_eq_true hb) h
  rw [this]
  rfl
theorem sgu_upd (g : Nat → Int32) (j : Nat) (x : Int32) : upd g j x = sgu g j x := by
  funext i
  by_cases h : i = j
  · subst h; rw [sgu_s]; exact if_pos rfl
  · rw [sgu_n h]; exact if_neg h
theorem sgu_updL (g : Nat → Int64) (j : Nat) (x : Int64) : vp_updL g j x = sgu g j x := by
  funext i
  by_cases h : i = j
  · subst h; rw [sgu_s]; exact if_pos rfl
  · rw [sgu_n h]; exact if_neg h
theorem sg_up_id {α : Type} (f : Nat → Nat → α) (k : Nat) : sg_up f k (f k) = f := by
  funext i
  by_cases h : i = k
  · subst h; exact sg_up_s
  · exact sg_up_n h
abbrev sg_F : Type := Nat → Nat → Int32
abbrev sg_L : Type := Nat → Nat → Int64
abbrev sg_Q : Type := Nat → Nat → Option Nat
abbrev sg_E : Type := Nat → (Nat → Int32) → (Nat → Int64) → (Nat → Option Nat) → va_E
def sgw (n : Nat) (h : Nat → Nat) (e : sg_E) (f : sg_F) (L : sg_L) (Q : sg_Q) : va_W := (List.range n).map (fun k => (h k, e k (f k) (L k) (Q k)))
theorem sgw_at {n : Nat} {h : Nat → Nat} {e : sg_E} {f : sg_F} {L : sg_L} {Q : sg_Q} {k : Nat} (hk : k < n) : (sgw n h e f L Q)[k]? = some (h k, e k (f k) (L k) (Q k)) := by
  unfold sgw
  rw [List.getElem?_map, List.getElem?_range hk]
  rfl
theorem sgw_len {n : Nat} {h : Nat → Nat} {e : sg_E} {f : sg_F} {L : sg_L} {Q : sg_Q} : (sgw n h e f L Q).length = n := by simp [sgw]
theorem sgw_inv {n : Nat} {h : Nat → Nat} {e : sg_E} {f : sg_F} {L : sg_L} {Q : sg_Q} {k : Nat} {q : Nat × va_E} (hq : (sgw n h e f L Q)[k]? = some q) : k < n ∧ q = (h k, e k (f k) (L k) (Q k)) := by
  have hk : k < n := by
    have := (List.getElem?_eq_some_iff.mp hq).1
    rwa [sgw_len] at this
  rw [sgw_at hk] at hq
  exact ⟨hk, (Option.some.inj hq).symm⟩
theorem sgw_set {n : Nat} {h : Nat → Nat} {e : sg_E} {f : sg_F} {L : sg_L} {Q : sg_Q} {k : Nat} (hk : k < n) (g : Nat → Int32) (l : Nat → Int64) (r : Nat → Option Nat) : (sgw n h e f L Q).set k (h k, e k g l r) = sgw n h e (sg_up f k g) (sg_up L k l) (sg_up Q k r) := by
  apply List.ext_getElem?
  intro i
  by_cases hi : i < n
  · rw [sgw_at hi]
    by_cases hik : i = k
    · subst hik
      rw [List.getElem?_set_self (by rw [sgw_len]; exact hi), sg_up_s, sg_up_s, sg_up_s]
    · rw [List.getElem?_set_ne (Ne.symm hik), sgw_at hi, sg_up_n hik, sg_up_n hik, sg_up_n hik]
  · rw [List.getElem?_eq_none (by rw [List.length_set, sgw_len]; omega), List.getElem?_eq_none (by rw [sgw_len]; omega)]
/-- the cells of a system, and those that came since -/
def sgA (n : Nat) (h : Nat → Nat) (sz : Nat) : Nat → Prop := fun q => (∃ k : Nat, k < n ∧ q = h k) ∨ sz ≤ q
theorem sgA_mono {n : Nat} {h : Nat → Nat} {a b q : Nat} (hab : a ≤ b) (hq : sgA n h b q) : sgA n h a q := by
  rcases hq with hq | hq
  · exact Or.inl hq
  · exact Or.inr (Nat.le_trans hab hq)
/-- the cells lie apart -/
def sgH (n : Nat) (h : Nat → Nat) : Prop := ∀ i j : Nat, i < n → j < n → h i = h j → i = j
/-- what a walk may write: the cells of the system, and all that came since -/
def sgY (A : Nat → Prop) (n : Nat) (h : Nat → Nat) (sz : Nat) : Prop := (∀ k : Nat, k < n → A (h k)) ∧ ∀ q : Nat, sz ≤ q → A q
theorem sgY.self {n : Nat} {h : Nat → Nat} {sz : Nat} : sgY (sgA n h sz) n h sz := ⟨fun k hk => Or.inl ⟨k, hk, rfl⟩, fun _ hq => Or.inr hq⟩
theorem sgY.sub {A : Nat → Prop} {n : Nat} {h : Nat → Nat} {a b : Nat} (hA : sgY A n h a) (hab : a ≤ b) {q : Nat} (hq : sgA n h b q) : A q := by
  rcases hq with ⟨k, hk, rfl⟩ | hq
  · exact hA.1 k hk
  · exact hA.2 q (Nat.le_trans hab hq)
theorem sgD {A : Nat → Prop} {n : Nat} {h : Nat → Nat} {e : sg_E} {f : sg_F} {L : sg_L} {Q : sg_Q} {sz : Nat} (hh : sgH n h) (hA : sgY A n h sz) : va_D A (sgw n h e f L Q) := by
  refine ⟨fun i j p q hp hq hpq => ?_, fun k q hq => ?_⟩
  · obtain ⟨hi, rfl⟩ := sgw_inv hp
    obtain ⟨hj, rfl⟩ := sgw_inv hq
    exact hh i j hi hj hpq
  · obtain ⟨hk, rfl⟩ := sgw_inv hq
    exact hA.1 k hk
/-- bounds of all ints -/
def sgI (lo hi : Nat → Nat → Int) (f : sg_F) : Prop := ∀ k j : Nat, lo k j ≤ (f k j).toInt ∧ (f k j).toInt ≤ hi k j
theorem sgI.row {lo hi : Nat → Nat → Int} {f : sg_F} (hI : sgI lo hi f) (k : Nat) {g : Nat → Int32} (hg : ∀ j : Nat, lo k j ≤ (g j).toInt ∧ (g j).toInt ≤ hi k j) : sgI lo hi (sg_up f k g) := by
  intro i j
  by_cases h : i = k
  · subst h; rw [sg_up_s]; exact hg j
  · rw [sg_up_n h]; exact hI i j
theorem sgI.put {lo hi : Nat → Nat → Int} {f : sg_F} (hI : sgI lo hi f) (k j : Nat) {x : Int32} (hx : lo k j ≤ x.toInt ∧ x.toInt ≤ hi k j) : sgI lo hi (sg_up f k (sgu (f k) j x)) := by
  refine hI.row k (fun i => ?_)
  by_cases h : i = j
  · subst h; rw [sgu_s]; exact hx
  · rw [sgu_n h]; exact hI k i
theorem sgI.cpy {lo hi : Nat → Nat → Int} {f : sg_F} (hI : sgI lo hi f) (a b : Nat) {sp dp n : Nat} (hx : ∀ j i : Nat, lo b j ≤ lo a i ∧ hi a i ≤ hi b j) : sgI lo hi (sg_up f b (va_cpy (f a) (f b) sp dp n)) := by
  refine hI.row b (fun i => ?_)
  unfold va_cpy
  split
  · exact ⟨Int.le_trans (hx i _).1 (hI a _).1, Int.le_trans (hI a _).2 (hx i _).2⟩
  · exact hI b i
/-- static arrays: a static field (class, name, descriptor) holds an array of ints that is none of the system's -/
abbrev sg_S : Type := String × String × String × Nat × (Nat → Int32)
def sgZ (zc : List sg_S) (za : Nat → Nat) (A : Nat → Prop) (sz : Nat) (U : State) : Prop := ∀ (i : Nat) (q : sg_S), zc[i]? = some q → va_Z q.1 q.2.1 q.2.2.1 (.ref (za i)) A U U.heap ∧ va_X (za i) q.2.2.2.1 q.2.2.2.2 U U.heap ∧ za i < sz ∧ ¬ A (za i)
theorem sgZ.go {zc : List sg_S} {za : Nat → Nat} {A A1 : Nat → Prop} {s U : State} {H : Heap} {locs : List Loc} (hZ : sgZ zc za A s.heap.size s) (hS : va_S A s.heap H locs) (hU : U.heap = H) (hvm : s.vm.Alike U.vm) (hAA : ∀ q, A1 q → A q) : sgZ zc za A1 H.size U := by
  intro i q hq
  obtain ⟨h1, h2, h3, h4⟩ := hZ i q hq
  refine ⟨?_, ?_, Nat.lt_of_lt_of_le h3 hS.1, fun z => h4 (hAA _ z)⟩
  · rw [hU]
    exact ((va_Z.moved hvm h1).kept (fun a g1 g2 => hS.2.1 a g1 g2)).narrow hAA
  · rw [hU]
    exact (va_X.moved hvm h2).kept (hS.2.1 _ h3 h4)
/-- a contract's start -/
def sgP (D : va_G) (cl : List vw_C) (tys : List (ClassId × FieldType)) (n : Nat) (h : Nat → Nat) (e : sg_E) (zc : List sg_S) (za : Nat → Nat) (f : sg_F) (L : sg_L) (Q : sg_Q) (sz : Nat) (av : List Value) : Array Value → State → Prop := va_Pc av (fun U => U.heap.size = sz ∧ va_P D cl (sgw n h e f L Q) U.heap ∧ va_K D cl tys U ∧ sgZ zc za (sgA n h sz) sz U)
theorem sgP_blind {D : va_G} {cl : List vw_C} {tys : List (ClassId × FieldType)} {n : Nat} {h : Nat → Nat} {e : sg_E} {zc : List sg_S} {za : Nat → Nat} {f : sg_F} {L : sg_L} {Q : sg_Q} {sz : Nat} {av : List Value} : FrameBlind (sgP D cl tys n h e zc za f L Q sz av) := by
  intro a U g mk q
  obtain ⟨q0, q1, qP, qK, qZ⟩ := q
  refine ⟨q0, q1, qP, va_K.moved (u := U) (U := U.calling g mk a) (Vm.Alike.refl U.vm) qK, fun i z hz => ?_⟩
  obtain ⟨h1, h2, h3, h4⟩ := qZ i z hz
  exact ⟨va_Z.moved (u := U) (U := U.calling g mk a) (Vm.Alike.refl U.vm) h1, va_X.moved (u := U) (U := U.calling g mk a) (Vm.Alike.refl U.vm) h2, h3, h4⟩
/-- a contract's end, by what it answers -/
abbrev sg_U : Type := sg_F × sg_L × sg_Q
def sgQi (D : va_G) (cl : List vw_C) (n : Nat) (h : Nat → Nat) (e : sg_E) (sz : Nat) (post : Int32 → sg_F → sg_L → sg_Q → Prop) : Array Value → State → Outcome → State → Prop := va_Qi (S := sg_U) (fun r u => post r u.1 u.2.1 u.2.2) (fun u t => va_P D cl (sgw n h e u.1 u.2.1 u.2.2) t.heap) (sgA n h sz)
def sgQl (D : va_G) (cl : List vw_C) (n : Nat) (h : Nat → Nat) (e : sg_E) (sz : Nat) (post : Int64 → sg_F → sg_L → sg_Q → Prop) : Array Value → State → Outcome → State → Prop := va_Ql (S := sg_U) (fun r u => post r u.1 u.2.1 u.2.2) (fun u t => va_P D cl (sgw n h e u.1 u.2.1 u.2.2) t.heap) (sgA n h sz)
def sgQv (D : va_G) (cl : List vw_C) (n : Nat) (h : Nat → Nat) (e : sg_E) (sz : Nat) (post : sg_F → sg_L → sg_Q → Prop) : Array Value → State → Outcome → State → Prop := va_Qv (S := sg_U) (fun u => post u.1 u.2.1 u.2.2) (fun u t => va_P D cl (sgw n h e u.1 u.2.1 u.2.2) t.heap) (sgA n h sz)
end
section
section SGR
variable {p : Program} {l : Launch} {e : Env} {R : Room} {s : State} {m : MethodId} {args : Array Value} {below : List Frame} {meth : Method} {c : Code} {H : Heap} {locs : List Loc} {cells slots : Nat} {Qz : State → Prop}
variable {cc : ByteArray} {pc : Nat} {ls : Array Slot} {rest : List Value} {D : va_G} {cl : List vw_C} {tys : List (ClassId × FieldType)} {n : Nat} {h : Nat → Nat} {ee : sg_E} {f : sg_F} {L : sg_L} {Q : sg_Q} {sz : Nat} {zc : List sg_S} {za : Nat → Nat} {A : Nat → Prop}
theorem sg_get (hx : p.tables.exec = Jvm.exec) (hb : c.code = cc) {own ref C : String} {T : u_T} {N ci index : Nat} {Ts : List Cond} (hts : ∀ w ∈ Ts, w.before args s = true) (hin : ∀ w ∈ u_ws C T N, w ∈ Ts) (hown : s.vm.findClass own = some m.cls) (hK : va_K D cl tys s) (hP : va_P D cl (sgw n h ee f L Q) H) (k : Nat) (hk : k < n) {fs : List Value} (he : ee k (f k) (L k) (Q k) = .inr (ci, fs)) (hc : cl[ci]? = some (C, T, N)) (j : Nat) (hj : j < N) (hlink : (Cond.fieldLink own index ref (T j).2.1 (T j).2.2.1).before args s = true) (hsame : ∀ x, s.fieldFound? (T j).1 (T j).2.1 (T j).2.2.1 = some x → s.fieldFound? ref (T j).2.1 (T j).2.2.1 = some x) {v : Value} (hv : fs[j]? = some v) (hdg : decode cc pc = .ok (.getfield index, 3))
    (kk : W p l e R s m args below meth c H locs cells slots Qz (F0 m (pc + 3) ls (v :: rest))) : W p l e R s m args below meth c H locs cells slots Qz (F0 m pc ls (.ref (h k) :: rest)) :=
  va_get hx hb hts hin hown hK hP k (by rw [sgw_at hk, he]) hc j hj hlink hsame hv hdg kk
theorem sg_put (hx : p.tables.exec = Jvm.exec) (hb : c.code = cc) {own ref C : String} {T : u_T} {N ci index : Nat} {Ts : List Cond} (hts : ∀ w ∈ Ts, w.before args s = true) (hin : ∀ w ∈ u_ws C T N, w ∈ Ts) (ty0 : Nat → FieldType) (hty : ∀ k, k < N → parseFieldDescriptor (T k).2.2.1 = some (ty0 k)) (hnm : ∀ a, a < N → ∀ b, b < N → a ≠ b → (T a).2.1 ≠ (T b).2.1) (hown : s.vm.findClass own = some m.cls) (hh : sgH n h) (hA : sgY A n h s.heap.size) (hK : va_K D cl tys s) (hP : va_P D cl (sgw n h ee f L Q) H) (hS : va_S A s.heap H locs) (k : Nat) (hk : k < n) {fs : List Value} (he : ee k (f k) (L k) (Q k) = .inr (ci, fs)) (hc : cl[ci]? = some (C, T, N)) (j : Nat) (hj : j < N) (hlink : (Cond.fieldLink own index ref (T j).2.1 (T j).2.2.1).before args s = true) (hsame : ∀ x, s.fieldFound? (T j).1 (T j).2.1 (T j).2.2.1 = some x → s.fieldFound? ref (T j).2.1 (T j).2.2.1 = some x) (hfin : (T j).2.2.2 = false) {ty : FieldType} {x : Int32} (he2 : ee k (sgu (f k) j x) (L k) (Q k) = .inr (ci, fs.set j (.int x))) (hd : parseFieldDescriptor (T j).2.2.1 = some ty) (hn : narrow ty (.int x) = .int x) (hfit : fits ty (.int x) = true) (hl : j < fs.length)
    (hdg : decode cc pc = .ok (.putfield index, 3)) (kk : ∀ (f1 : sg_F) (H1 : Heap) (locs1 : List Loc), f1 = sg_up f k (sgu (f k) j x) → va_P D cl (sgw n h ee f1 L Q) H1 → va_S A s.heap H1 locs1 → W p l e R s m args below meth c H1 locs1 cells slots Qz (F0 m (pc + 3) ls rest)) : W p l e R s m args below meth c H locs cells slots Qz (F0 m pc ls (.int x :: .ref (h k) :: rest)) :=
  va_put hx hb hts hin ty0 hty hnm hown hK hP (sgD hh hA) hS k (by rw [sgw_at hk, he]) hc j hj hlink hsame hfin hd hn hfit hl hdg (fun H1 locs1 hP1 _ hS1 => kk _ H1 locs1 rfl (by
    rw [← he2, sgw_set hk, sg_up_id, sg_up_id] at hP1
    exact hP1) hS1)
/-- a field that holds a reference is set: what the cell holds is said by he2 -/
theorem sg_putq (hx : p.tables.exec = Jvm.exec) (hb : c.code = cc) {own ref C : String} {T : u_T} {N ci index : Nat} {Ts : List Cond} (hts : ∀ w ∈ Ts, w.before args s = true) (hin : ∀ w ∈ u_ws C T N, w ∈ Ts) (ty0 : Nat → FieldType) (hty : ∀ k, k < N → parseFieldDescriptor (T k).2.2.1 = some (ty0 k)) (hnm : ∀ a, a < N → ∀ b, b < N → a ≠ b → (T a).2.1 ≠ (T b).2.1) (hown : s.vm.findClass own = some m.cls) (hh : sgH n h) (hA : sgY A n h s.heap.size) (hK : va_K D cl tys s) (hP : va_P D cl (sgw n h ee f L Q) H) (hS : va_S A s.heap H locs) (k : Nat) (hk : k < n) {fs : List Value} (he : ee k (f k) (L k) (Q k) = .inr (ci, fs)) (hc : cl[ci]? = some (C, T, N)) (j : Nat) (hj : j < N) (hlink : (Cond.fieldLink own index ref (T j).2.1 (T j).2.2.1).before args s = true) (hsame : ∀ x, s.fieldFound? (T j).1 (T j).2.1 (T j).2.2.1 = some x → s.fieldFound? ref (T j).2.1 (T j).2.2.1 = some x) (hfin : (T j).2.2.2 = false) {ty : FieldType} {q : Nat} {r1 : Nat → Option Nat} (he2 : ee k (f k) (L k) r1 = .inr (ci, fs.set j (.ref q))) (hd : parseFieldDescriptor (T j).2.2.1 = some ty) (hn : narrow ty (.ref q) = .ref q) (hfit : fits ty (.ref q) = true) (hl : j < fs.length)
    (hdg : decode cc pc = .ok (.putfield index, 3)) (kk : ∀ (Q1 : sg_Q) (H1 : Heap) (locs1 : List Loc), Q1 = sg_up Q k r1 → va_P D cl (sgw n h ee f L Q1) H1 → va_S A s.heap H1 locs1 → W p l e R s m args below meth c H1 locs1 cells slots Qz (F0 m (pc + 3) ls rest)) : W p l e R s m args below meth c H locs cells slots Qz (F0 m pc ls (.ref q :: .ref (h k) :: rest)) :=
  va_put hx hb hts hin ty0 hty hnm hown hK hP (sgD hh hA) hS k (by rw [sgw_at hk, he]) hc j hj hlink hsame hfin hd hn hfit hl hdg (fun H1 locs1 hP1 _ hS1 => kk _ H1 locs1 rfl (by
    rw [← he2, sgw_set hk, sg_up_id, sg_up_id] at hP1
    exact hP1) hS1)
theorem sg_iald (hx : p.tables.exec = Jvm.exec) (hb : c.code = cc) (hK : va_K D cl tys s) (hP : va_P D cl (sgw n h ee f L Q) H) (k : Nat) (hk : k < n) (t0 : Nat) {cA : ClassId} {N : Nat} {g : Nat → Int32} (he : ee k (f k) (L k) (Q k) = .inl (cA, N, .inl g)) (ht : tys[t0]? = some (cA, .int)) {i : Int32} (hin : vp_in i N) (hdg : decode cc pc = .ok (.iaload, 1))
    (kk : W p l e R s m args below meth c H locs cells slots Qz (F0 m (pc + 1) ls (.int (g i.toNatClampNeg) :: rest))) : W p l e R s m args below meth c H locs cells slots Qz (F0 m pc ls (.int i :: .ref (h k) :: rest)) :=
  va_iald hx hb hK hP k t0 (by rw [sgw_at hk, he]) ht hin hdg kk
theorem sg_zald (hx : p.tables.exec = Jvm.exec) (hb : c.code = cc) (hK : va_K D cl tys s) (hP : va_P D cl (sgw n h ee f L Q) H) (k : Nat) (hk : k < n) (t0 : Nat) {cA : ClassId} {N : Nat} {g : Nat → Int32} (he : ee k (f k) (L k) (Q k) = .inl (cA, N, .inl g)) (ht : tys[t0]? = some (cA, .boolean)) {i : Int32} (hin : vp_in i N) (hdg : decode cc pc = .ok (.baload, 1))
    (kk : W p l e R s m args below meth c H locs cells slots Qz (F0 m (pc + 1) ls (.int (g i.toNatClampNeg) :: rest))) : W p l e R s m args below meth c H locs cells slots Qz (F0 m pc ls (.int i :: .ref (h k) :: rest)) :=
  va_zald hx hb hK hP k t0 (by rw [sgw_at hk, he]) ht hin hdg kk
theorem sg_lald (hx : p.tables.exec = Jvm.exec) (hb : c.code = cc) (hK : va_K D cl tys s) (hP : va_P D cl (sgw n h ee f L Q) H) (k : Nat) (hk : k < n) (t0 : Nat) {cA : ClassId} {N : Nat} {g : Nat → Int64} (he : ee k (f k) (L k) (Q k) = .inl (cA, N, .inr (.inl g))) (ht : tys[t0]? = some (cA, .long)) {i : Int32} (hin : vp_in i N) (hdg : decode cc pc = .ok (.laload, 1))
    (kk : W p l e R s m args below meth c H locs cells slots Qz (F0 m (pc + 1) ls (.long (g i.toNatClampNeg) :: rest))) : W p l e R s m args below meth c H locs cells slots Qz (F0 m pc ls (.int i :: .ref (h k) :: rest)) :=
  va_lald hx hb hK hP k t0 (by rw [sgw_at hk, he]) ht hin hdg kk
theorem sg_aald (hx : p.tables.exec = Jvm.exec) (hb : c.code = cc) (hK : va_K D cl tys s) (hP : va_P D cl (sgw n h ee f L Q) H) (k : Nat) (hk : k < n) (t0 : Nat) {cA : ClassId} {C : String} {N : Nat} {g : Nat → Option Nat} (he : ee k (f k) (L k) (Q k) = .inl (cA, N, .inr (.inr (.inr (.inr g))))) (ht : tys[t0]? = some (cA, .object C)) {i : Int32} (hin : vp_in i N) {a : Nat} (ha : g i.toNatClampNeg = some a) (hdg : decode cc pc = .ok (.aaload, 1))
    (kk : W p l e R s m args below meth c H locs cells slots Qz (F0 m (pc + 1) ls (.ref a :: rest))) : W p l e R s m args below meth c H locs cells slots Qz (F0 m pc ls (.int i :: .ref (h k) :: rest)) :=
  va_aldq hx hb hK hP k t0 (by rw [sgw_at hk, he]) ht hin hdg (by rw [ha]; exact kk)
theorem sg_iast (hx : p.tables.exec = Jvm.exec) (hb : c.code = cc) (hh : sgH n h) (hA : sgY A n h s.heap.size) (hK : va_K D cl tys s) (hP : va_P D cl (sgw n h ee f L Q) H) (hS : va_S A s.heap H locs) (k : Nat) (hk : k < n) (t0 : Nat) {cA : ClassId} {N : Nat} (he : ∀ g : Nat → Int32, ee k g (L k) (Q k) = .inl (cA, N, .inl g)) (ht : tys[t0]? = some (cA, .int)) {i : Int32} {x : Int32} (hin : vp_in i N) (hdg : decode cc pc = .ok (.iastore, 1))
    (kk : ∀ (f1 : sg_F) (H1 : Heap) (locs1 : List Loc), f1 = sg_up f k (sgu (f k) i.toNatClampNeg x) → va_P D cl (sgw n h ee f1 L Q) H1 → va_S A s.heap H1 locs1 → W p l e R s m args below meth c H1 locs1 cells slots Qz (F0 m (pc + 1) ls rest)) : W p l e R s m args below meth c H locs cells slots Qz (F0 m pc ls (.int x :: .int i :: .ref (h k) :: rest)) :=
  va_iast hx hb hK hP (sgD hh hA) hS k t0 (by rw [sgw_at hk, he]) ht hin hdg (fun H1 locs1 hP1 _ hS1 => kk _ H1 locs1 rfl (by
    rw [sgu_upd, ← he (sgu (f k) i.toNatClampNeg x), sgw_set hk, sg_up_id, sg_up_id] at hP1
    exact hP1) hS1)
theorem sg_zast (hx : p.tables.exec = Jvm.exec) (hb : c.code = cc) (hh : sgH n h) (hA : sgY A n h s.heap.size) (hK : va_K D cl tys s) (hP : va_P D cl (sgw n h ee f L Q) H) (hS : va_S A s.heap H locs) (k : Nat) (hk : k < n) (t0 : Nat) {cA : ClassId} {N : Nat} (he : ∀ g : Nat → Int32, ee k g (L k) (Q k) = .inl (cA, N, .inl g)) (ht : tys[t0]? = some (cA, .boolean)) {i : Int32} {x : Int32} (hin : vp_in i N) (hx1 : vp_nar .boolean x = x) (hdg : decode cc pc = .ok (.bastore, 1))
    (kk : ∀ (f1 : sg_F) (H1 : Heap) (locs1 : List Loc), f1 = sg_up f k (sgu (f k) i.toNatClampNeg x) → va_P D cl (sgw n h ee f1 L Q) H1 → va_S A s.heap H1 locs1 → W p l e R s m args below meth c H1 locs1 cells slots Qz (F0 m (pc + 1) ls rest)) : W p l e R s m args below meth c H locs cells slots Qz (F0 m pc ls (.int x :: .int i :: .ref (h k) :: rest)) :=
  va_zast hx hb hK hP (sgD hh hA) hS k t0 (by rw [sgw_at hk, he]) ht hin hdg (fun H1 locs1 hP1 _ hS1 => kk _ H1 locs1 rfl (by
    rw [hx1, sgu_upd, ← he (sgu (f k) i.toNatClampNeg x), sgw_set hk, sg_up_id, sg_up_id] at hP1
    exact hP1) hS1)
theorem sg_last (hx : p.tables.exec = Jvm.exec) (hb : c.code = cc) (hh : sgH n h) (hA : sgY A n h s.heap.size) (hK : va_K D cl tys s) (hP : va_P D cl (sgw n h ee f L Q) H) (hS : va_S A s.heap H locs) (k : Nat) (hk : k < n) (t0 : Nat) {cA : ClassId} {N : Nat} (he : ∀ g : Nat → Int64, ee k (f k) g (Q k) = .inl (cA, N, .inr (.inl g))) (ht : tys[t0]? = some (cA, .long)) {i : Int32} {x : Int64} (hin : vp_in i N) (hdg : decode cc pc = .ok (.lastore, 1))
    (kk : ∀ (L1 : sg_L) (H1 : Heap) (locs1 : List Loc), L1 = sg_up L k (sgu (L k) i.toNatClampNeg x) → va_P D cl (sgw n h ee f L1 Q) H1 → va_S A s.heap H1 locs1 → W p l e R s m args below meth c H1 locs1 cells slots Qz (F0 m (pc + 1) ls rest)) : W p l e R s m args below meth c H locs cells slots Qz (F0 m pc ls (.long x :: .int i :: .ref (h k) :: rest)) :=
  va_last hx hb hK hP (sgD hh hA) hS k t0 (by rw [sgw_at hk, he]) ht hin hdg (fun H1 locs1 hP1 _ hS1 => kk _ H1 locs1 rfl (by
    rw [sgu_updL, ← he (sgu (L k) i.toNatClampNeg x), sgw_set hk, sg_up_id, sg_up_id] at hP1
    exact hP1) hS1)
theorem sg_alen (hx : p.tables.exec = Jvm.exec) (hb : c.code = cc) (hK : va_K D cl tys s) (hP : va_P D cl (sgw n h ee f L Q) H) (k : Nat) (hk : k < n) (t0 : Nat) {cA : ClassId} {y : vp_A} (he : ee k (f k) (L k) (Q k) = .inl (cA, y)) {ty : FieldType} (ht : tys[t0]? = some (cA, ty)) {v : Int32} (hv : Int32.ofNat y.1 = v) (hdg : decode cc pc = .ok (.arraylength, 1))
    (kk : W p l e R s m args below meth c H locs cells slots Qz (F0 m (pc + 1) ls (.int v :: rest))) : W p l e R s m args below meth c H locs cells slots Qz (F0 m pc ls (.ref (h k) :: rest)) :=
  va_alen hx hb hK hP k t0 (by rw [sgw_at hk, he]) ht hv hdg kk
/-- a static array -/
theorem sg_gets (hx : p.tables.exec = Jvm.exec) (hb : c.code = cc) (hZ : sgZ zc za A s.heap.size s) (i : Nat) {C nm d own ref : String} {N index : Nat} {g : Nat → Int32} (hz : zc[i]? = some (C, nm, d, N, g)) (hS : va_S A s.heap H locs) (hown : s.vm.findClass own = some m.cls) (hlink : (Cond.fieldLink own index ref nm d).before args s = true) (hsame : ∀ x, s.fieldFound? C nm d = some x → s.fieldFound? ref nm d = some x) (hdg : decode cc pc = .ok (.getstatic index, 3))
    (kk : W p l e R s m args below meth c H locs cells slots Qz (F0 m (pc + 3) ls (.ref (za i) :: rest))) : W p l e R s m args below meth c H locs cells slots Qz (F0 m pc ls rest) :=
  va_gets hx hb (hZ i _ hz).1 hS hown hlink hsame hdg kk
theorem sg_sald (hx : p.tables.exec = Jvm.exec) (hb : c.code = cc) (hZ : sgZ zc za A s.heap.size s) (i : Nat) {C nm d : String} {N : Nat} {g : Nat → Int32} (hz : zc[i]? = some (C, nm, d, N, g)) (hS : va_S A s.heap H locs) {y : Int32} (hin : vp_in y N) (hdg : decode cc pc = .ok (.iaload, 1))
    (kk : W p l e R s m args below meth c H locs cells slots Qz (F0 m (pc + 1) ls (.int (g y.toNatClampNeg) :: rest))) : W p l e R s m args below meth c H locs cells slots Qz (F0 m pc ls (.int y :: .ref (za i) :: rest)) :=
  va_sld hx hb (hZ i _ hz).2.1 (hZ i _ hz).2.2.1 (hZ i _ hz).2.2.2 hS hin hdg kk
theorem sg_slen (hx : p.tables.exec = Jvm.exec) (hb : c.code = cc) (hZ : sgZ zc za A s.heap.size s) (i : Nat) {C nm d : String} {N : Nat} {g : Nat → Int32} (hz : zc[i]? = some (C, nm, d, N, g)) (hS : va_S A s.heap H locs) {v : Int32} (hv : Int32.ofNat N = v) (hdg : decode cc pc = .ok (.arraylength, 1))
    (kk : W p l e R s m args below meth c H locs cells slots Qz (F0 m (pc + 1) ls (.int v :: rest))) : W p l e R s m args below meth c H locs cells slots Qz (F0 m pc ls (.ref (za i) :: rest)) :=
  va_slen hx hb (hZ i _ hz).2.1 (hZ i _ hz).2.2.1 (hZ i _ hz).2.2.2 hS hdg (by rw [hv]; exact kk)
/-- calls: the whole world goes in, the whole world comes back -/
theorem sg_calli {st0 : List Value} {a : Array Value} {mc ms : Nat} {post : Int32 → sg_F → sg_L → sg_Q → Prop} (hr : va_Run p l e R s m args below meth c H locs cells slots mc ms (F0 m pc ls st0) rest (sgQi D cl n h ee H.size post a) (sgA n h H.size)) (hA : sgY A n h s.heap.size) (hS : va_S A s.heap H locs)
    (kk : ∀ (r : Int32) (f1 : sg_F) (L1 : sg_L) (Q1 : sg_Q) (H1 : Heap) (locs1 : List Loc), post r f1 L1 Q1 → va_P D cl (sgw n h ee f1 L1 Q1) H1 → va_S A s.heap H1 locs1 → W p l e R s m args below meth c H1 locs1 (cells + mc) (slots + ms) Qz (F0 m (pc + 3) ls (.int r :: rest))) : W p l e R s m args below meth c H locs cells slots Qz (F0 m pc ls st0) :=
  va_calli hr hS (fun q _ hq => hA.sub hS.1 hq) (fun q hq => hA.sub hS.1 hq) (fun r u t H1 locs1 ht _ hw hB _ _ hS1 => kk r u.1 u.2.1 u.2.2 H1 locs1 hw (by rw [← ht]; exact hB) hS1)
theorem sg_calll {st0 : List Value} {a : Array Value} {mc ms : Nat} {post : Int64 → sg_F → sg_L → sg_Q → Prop} (hr : va_Run p l e R s m args below meth c H locs cells slots mc ms (F0 m pc ls st0) rest (sgQl D cl n h ee H.size post a) (sgA n h H.size)) (hA : sgY A n h s.heap.size) (hS : va_S A s.heap H locs)
    (kk : ∀ (r : Int64) (f1 : sg_F) (L1 : sg_L) (Q1 : sg_Q) (H1 : Heap) (locs1 : List Loc), post r f1 L1 Q1 → va_P D cl (sgw n h ee f1 L1 Q1) H1 → va_S A s.heap H1 locs1 → W p l e R s m args below meth c H1 locs1 (cells + mc) (slots + ms) Qz (F0 m (pc + 3) ls (.long r :: rest))) : W p l e R s m args below meth c H locs cells slots Qz (F0 m pc ls st0) :=
  va_calll hr hS (fun q _ hq => hA.sub hS.1 hq) (fun q hq => hA.sub hS.1 hq) (fun r u t H1 locs1 ht _ hw hB _ _ hS1 => kk r u.1 u.2.1 u.2.2 H1 locs1 hw (by rw [← ht]; exact hB) hS1)
theorem sg_callv {st0 : List Value} {a : Array Value} {mc ms : Nat} {post : sg_F → sg_L → sg_Q → Prop} (hr : va_Run p l e R s m args below meth c H locs cells slots mc ms (F0 m pc ls st0) rest (sgQv D cl n h ee H.size post a) (sgA n h H.size)) (hA : sgY A n h s.heap.size) (hS : va_S A s.heap H locs)
    (kk : ∀ (f1 : sg_F) (L1 : sg_L) (Q1 : sg_Q) (H1 : Heap) (locs1 : List Loc), post f1 L1 Q1 → va_P D cl (sgw n h ee f1 L1 Q1) H1 → va_S A s.heap H1 locs1 → W p l e R s m args below meth c H1 locs1 (cells + mc) (slots + ms) Qz (F0 m (pc + 3) ls rest)) : W p l e R s m args below meth c H locs cells slots Qz (F0 m pc ls st0) :=
  va_callv hr hS (fun q _ hq => hA.sub hS.1 hq) (fun q hq => hA.sub hS.1 hq) (fun u t H1 locs1 ht _ hw hB _ _ hS1 => kk u.1 u.2.1 u.2.2 H1 locs1 hw (by rw [← ht]; exact hB) hS1)
/-- what a call finds: the receiver is cell k -/
theorem sg_preV (hA : sgY A n h s.heap.size) (hK : va_K D cl tys s) (hP : va_P D cl (sgw n h ee f L Q) H) (hS : va_S A s.heap H locs) (hZ : sgZ zc za A s.heap.size s) (k : Nat) (hk : k < n) {As : List Value} {C : String} {T : u_T} {N ci : Nat} {fs : List Value} (he : ee k (f k) (L k) (Q k) = .inr (ci, fs)) (hc : cl[ci]? = some (C, T, N)) : PreV s H C (h k) (sgP D cl tys n h ee zc za f L Q H.size (.ref (h k) :: As)) As :=
  ⟨sgP_blind, va_recv hK hP hc (q0 := k) (by rw [sgw_at hk, he]), fun U hU hW => ⟨rfl, by rw [hU], by rw [hU]; exact hP, va_K.moved hW.alike hK, hZ.go hS hU hW.alike (fun q hq => hA.sub hS.1 hq)⟩⟩
theorem sg_preS (hA : sgY A n h s.heap.size) (hK : va_K D cl tys s) (hP : va_P D cl (sgw n h ee f L Q) H) (hS : va_S A s.heap H locs) (hZ : sgZ zc za A s.heap.size s) {As : List Value} : PreS s H (sgP D cl tys n h ee zc za f L Q H.size As) As :=
  ⟨sgP_blind, fun U hU hW => ⟨rfl, by rw [hU], by rw [hU]; exact hP, va_K.moved hW.alike hK, hZ.go hS hU hW.alike (fun q hq => hA.sub hS.1 hq)⟩⟩
end SGR
/-- a method's walk, from its entry to its returns -/
theorem sg_ofWi {l : Launch} {y : MethodName} {ws ws' : List Cond} {rm : Room} {cc : ByteArray} {maxL : Nat} {D : va_G} {cl : List vw_C} {tys : List (ClassId × FieldType)} {n : Nat} {h : Nat → Nat} {ee : sg_E} {zc : List sg_S} {za : Nat → Nat} {f : sg_F} {L : sg_L} {Q : sg_Q} {sz : Nat} {av : List Value} {post : Int32 → sg_F → sg_L → sg_Q → Prop} {mc ms : Nat} (own : String) (hy : plainName y.cls = true) (hyc : y.cls = own) (hw : ws = Cond.code y cc maxL (some .int) :: ws') (hav : (lg_sl av).length ≤ maxL)
    (body : ∀ (p : Program) (e : Env) (s : State) (m : MethodId) (below : List Frame) (meth : Method) (c : Code) (Qz : State → Prop) (ls : Array Slot), p.tables.exec = Jvm.exec → c.code = cc → c.maxLocals = maxL → s.vm.findClass own = some m.cls → (∀ w ∈ ws, w.before av.toArray s = true) → va_K D cl tys s → sgZ zc za (sgA n h s.heap.size) s.heap.size s → va_P D cl (sgw n h ee f L Q) s.heap → va_S (sgA n h s.heap.size) s.heap s.heap [] → lv_has ls maxL (lv_args 0 av) →
      (∀ (pc : Nat) (H : Heap) (locs : List Loc) (ls : Array Slot) (v : Int32) (f1 : sg_F) (L1 : sg_L) (Q1 : sg_Q), decode cc pc = .ok (.ireturn, 1) → va_P D cl (sgw n h ee f1 L1 Q1) H → va_S (sgA n h s.heap.size) s.heap H locs → post v f1 L1 Q1 → W p l e rm s m av.toArray below meth c H locs mc ms Qz (F0 m pc ls [.int v])) →
      W p l e rm s m av.toArray below meth c s.heap [] 0 0 Qz (F0 m 0 ls [])) :
    Met l y ws rm (sgP D cl tys n h ee zc za f L Q sz av) (sgQi D cl n h ee sz post) mc ms (sgA n h sz) := by
  refine Met.ofW (cc := cc) (maxL := maxL) (ret := some .int) hy hw ?_
  intro p e s m args below meth c s₁ B hml hv
  obtain ⟨rfl, hsz, hP, hK, hZ⟩ := hv
  subst hsz
  rw [lg_entry_eq]
  refine body p e s m below meth c _ _ B.exec B.bytes hml (hyc ▸ findClass_of_methodNamed B.named) (atoms_spec (ws := ws) B.pre) hK hZ hP va_S.rf (lv_entry av hav) ?_
  intro pc H locs ls v f1 L1 Q1 hd hP1 hS1 hp
  exact W.iret (v := v) B.exec B.bytes B.returns (fun t ht _ => ⟨⟨v, (f1, L1, Q1), rfl, hp, by subst ht; exact hP1⟩, hS1.F ht⟩) hS1.2.2 hd B.notSynchronized
theorem sg_ofWz {l : Launch} {y : MethodName} {ws ws' : List Cond} {rm : Room} {cc : ByteArray} {maxL : Nat} {D : va_G} {cl : List vw_C} {tys : List (ClassId × FieldType)} {n : Nat} {h : Nat → Nat} {ee : sg_E} {zc : List sg_S} {za : Nat → Nat} {f : sg_F} {L : sg_L} {Q : sg_Q} {sz : Nat} {av : List Value} {post : Int32 → sg_F → sg_L → sg_Q → Prop} {mc ms : Nat} (own : String) (hy : plainName y.cls = true) (hyc : y.cls = own) (hw : ws = Cond.code y cc maxL (some .boolean) :: ws') (hav : (lg_sl av).length ≤ maxL)
    (body : ∀ (p : Program) (e : Env) (s : State) (m : MethodId) (below : List Frame) (meth : Method) (c : Code) (Qz : State → Prop) (ls : Array Slot), p.tables.exec = Jvm.exec → c.code = cc → c.maxLocals = maxL → s.vm.findClass own = some m.cls → (∀ w ∈ ws, w.before av.toArray s = true) → va_K D cl tys s → sgZ zc za (sgA n h s.heap.size) s.heap.size s → va_P D cl (sgw n h ee f L Q) s.heap → va_S (sgA n h s.heap.size) s.heap s.heap [] → lv_has ls maxL (lv_args 0 av) →
      (∀ (pc : Nat) (H : Heap) (locs : List Loc) (ls : Array Slot) (v : Int32) (f1 : sg_F) (L1 : sg_L) (Q1 : sg_Q), decode cc pc = .ok (.ireturn, 1) → narrow .boolean (.int v) = .int v → va_P D cl (sgw n h ee f1 L1 Q1) H → va_S (sgA n h s.heap.size) s.heap H locs → post v f1 L1 Q1 → W p l e rm s m av.toArray below meth c H locs mc ms Qz (F0 m pc ls [.int v])) →
      W p l e rm s m av.toArray below meth c s.heap [] 0 0 Qz (F0 m 0 ls [])) :
    Met l y ws rm (sgP D cl tys n h ee zc za f L Q sz av) (sgQi D cl n h ee sz post) mc ms (sgA n h sz) := by
  refine Met.ofW (cc := cc) (maxL := maxL) (ret := some .boolean) hy hw ?_
  intro p e s m args below meth c s₁ B hml hv
  obtain ⟨rfl, hsz, hP, hK, hZ⟩ := hv
  subst hsz
  rw [lg_entry_eq]
  refine body p e s m below meth c _ _ B.exec B.bytes hml (hyc ▸ findClass_of_methodNamed B.named) (atoms_spec (ws := ws) B.pre) hK hZ hP va_S.rf (lv_entry av hav) ?_
  intro pc H locs ls v f1 L1 Q1 hd hn hP1 hS1 hp
  exact W.zret (v := v) B.exec B.bytes B.returns hn (fun t ht _ => ⟨⟨v, (f1, L1, Q1), rfl, hp, by subst ht; exact hP1⟩, hS1.F ht⟩) hS1.2.2 hd B.notSynchronized
theorem sg_ofWl {l : Launch} {y : MethodName} {ws ws' : List Cond} {rm : Room} {cc : ByteArray} {maxL : Nat} {D : va_G} {cl : List vw_C} {tys : List (ClassId × FieldType)} {n : Nat} {h : Nat → Nat} {ee : sg_E} {zc : List sg_S} {za : Nat → Nat} {f : sg_F} {L : sg_L} {Q : sg_Q} {sz : Nat} {av : List Value} {post : Int64 → sg_F → sg_L → sg_Q → Prop} {mc ms : Nat} (own : String) (hy : plainName y.cls = true) (hyc : y.cls = own) (hw : ws = Cond.code y cc maxL (some .long) :: ws') (hav : (lg_sl av).length ≤ maxL)
    (body : ∀ (p : Program) (e : Env) (s : State) (m : MethodId) (below : List Frame) (meth : Method) (c : Code) (Qz : State → Prop) (ls : Array Slot), p.tables.exec = Jvm.exec → c.code = cc → c.maxLocals = maxL → s.vm.findClass own = some m.cls → (∀ w ∈ ws, w.before av.toArray s = true) → va_K D cl tys s → sgZ zc za (sgA n h s.heap.size) s.heap.size s → va_P D cl (sgw n h ee f L Q) s.heap → va_S (sgA n h s.heap.size) s.heap s.heap [] → lv_has ls maxL (lv_args 0 av) →
      (∀ (pc : Nat) (H : Heap) (locs : List Loc) (ls : Array Slot) (v : Int64) (f1 : sg_F) (L1 : sg_L) (Q1 : sg_Q), decode cc pc = .ok (.lreturn, 1) → va_P D cl (sgw n h ee f1 L1 Q1) H → va_S (sgA n h s.heap.size) s.heap H locs → post v f1 L1 Q1 → W p l e rm s m av.toArray below meth c H locs mc ms Qz (F0 m pc ls [.long v])) →
      W p l e rm s m av.toArray below meth c s.heap [] 0 0 Qz (F0 m 0 ls [])) :
    Met l y ws rm (sgP D cl tys n h ee zc za f L Q sz av) (sgQl D cl n h ee sz post) mc ms (sgA n h sz) := by
  refine Met.ofW (cc := cc) (maxL := maxL) (ret := some .long) hy hw ?_
  intro p e s m args below meth c s₁ B hml hv
  obtain ⟨rfl, hsz, hP, hK, hZ⟩ := hv
  subst hsz
  rw [lg_entry_eq]
  refine body p e s m below meth c _ _ B.exec B.bytes hml (hyc ▸ findClass_of_methodNamed B.named) (atoms_spec (ws := ws) B.pre) hK hZ hP va_S.rf (lv_entry av hav) ?_
  intro pc H locs ls v f1 L1 Q1 hd hP1 hS1 hp
  exact W.lret (v := v) B.exec B.bytes B.returns (fun t ht _ => ⟨⟨v, (f1, L1, Q1), rfl, hp, by subst ht; exact hP1⟩, hS1.F ht⟩) hS1.2.2 hd B.notSynchronized
theorem sg_ofWv {l : Launch} {y : MethodName} {ws ws' : List Cond} {rm : Room} {cc : ByteArray} {maxL : Nat} {D : va_G} {cl : List vw_C} {tys : List (ClassId × FieldType)} {n : Nat} {h : Nat → Nat} {ee : sg_E} {zc : List sg_S} {za : Nat → Nat} {f : sg_F} {L : sg_L} {Q : sg_Q} {sz : Nat} {av : List Value} {post : sg_F → sg_L → sg_Q → Prop} {mc ms : Nat} (own : String) (hy : plainName y.cls = true) (hyc : y.cls = own) (hw : ws = Cond.code y cc maxL none :: ws') (hav : (lg_sl av).length ≤ maxL)
    (body : ∀ (p : Program) (e : Env) (s : State) (m : MethodId) (below : List Frame) (meth : Method) (c : Code) (Qz : State → Prop) (ls : Array Slot), p.tables.exec = Jvm.exec → c.code = cc → c.maxLocals = maxL → s.vm.findClass own = some m.cls → (∀ w ∈ ws, w.before av.toArray s = true) → va_K D cl tys s → sgZ zc za (sgA n h s.heap.size) s.heap.size s → va_P D cl (sgw n h ee f L Q) s.heap → va_S (sgA n h s.heap.size) s.heap s.heap [] → lv_has ls maxL (lv_args 0 av) →
      (∀ (pc : Nat) (H : Heap) (locs : List Loc) (ls : Array Slot) (f1 : sg_F) (L1 : sg_L) (Q1 : sg_Q), decode cc pc = .ok (.return_, 1) → va_P D cl (sgw n h ee f1 L1 Q1) H → va_S (sgA n h s.heap.size) s.heap H locs → post f1 L1 Q1 → W p l e rm s m av.toArray below meth c H locs mc ms Qz (F0 m pc ls [])) →
      W p l e rm s m av.toArray below meth c s.heap [] 0 0 Qz (F0 m 0 ls [])) :
    Met l y ws rm (sgP D cl tys n h ee zc za f L Q sz av) (sgQv D cl n h ee sz post) mc ms (sgA n h sz) := by
  refine Met.ofW (cc := cc) (maxL := maxL) (ret := none) hy hw ?_
  intro p e s m args below meth c s₁ B hml hv
  obtain ⟨rfl, hsz, hP, hK, hZ⟩ := hv
  subst hsz
  rw [lg_entry_eq]
  refine body p e s m below meth c _ _ B.exec B.bytes hml (hyc ▸ findClass_of_methodNamed B.named) (atoms_spec (ws := ws) B.pre) hK hZ hP va_S.rf (lv_entry av hav) ?_
  intro pc H locs ls f1 L1 Q1 hd hP1 hS1 hp
  exact W.vret B.exec B.bytes B.returns (fun t ht _ => ⟨⟨(f1, L1, Q1), rfl, hp, by subst ht; exact hP1⟩, hS1.F ht⟩) hS1.2.2 hd B.notSynchronized
end
section
/-! bounds of ints: sgB a b x says that x lies between a and b -/
abbrev sgB (a b : Int) (x : Int32) : Prop := a ≤ x.toInt ∧ x.toInt ≤ b
theorem bn_any (x : Int32) : sgB (-2147483648) 2147483647 x := by
  have h1 := x.le_toInt
  have h2 := x.toInt_lt
  exact ⟨by omega, by omega⟩
theorem bn_w {a b c d : Int} {x : Int32} (h : sgB a b x) (k : c ≤ a ∧ b ≤ d) : sgB c d x := ⟨Int.le_trans k.1 h.1, Int.le_trans h.2 k.2⟩
theorem bn_add {a b c d l u : Int} {x y : Int32} (h : sgB a b x) (g : sgB c d y) (k : (-2147483648 ≤ a + c ∧ b + d ≤ 2147483647) ∧ l ≤ a + c ∧ b + d ≤ u) : sgB l u (x + y) ∧ (x + y).toInt = x.toInt + y.toInt := by
  have e : (x + y).toInt = x.toInt + y.toInt := by
    rw [Int32.toInt_add]
    exact Int.bmod_eq_of_le (by omega) (by omega)
  exact ⟨⟨by omega, by omega⟩, e⟩
theorem bn_sub {a b c d l u : Int} {x y : Int32} (h : sgB a b x) (g : sgB c d y) (k : (-2147483648 ≤ a - d ∧ b - c ≤ 2147483647) ∧ l ≤ a - d ∧ b - c ≤ u) : sgB l u (x - y) ∧ (x - y).toInt = x.toInt - y.toInt := by
  have e : (x - y).toInt = x.toInt - y.toInt := by
    rw [Int32.toInt_sub]
    exact Int.bmod_eq_of_le (by omega) (by omega)
  exact ⟨⟨by omega, by omega⟩, e⟩
theorem bn_neg {a b l u : Int} {x : Int32} (h : sgB a b x) (k : -2147483648 < a ∧ l ≤ -b ∧ -a ≤ u) : sgB l u (-x) ∧ (-x).toInt = -x.toInt := by
  have h2 := x.toInt_lt
  have e : (-x).toInt = -x.toInt := by
    rw [Int32.toInt_neg]
    exact Int.bmod_eq_of_le (by omega) (by omega)
  exact ⟨⟨by omega, by omega⟩, e⟩
theorem bn_mul {a b c d l u : Int} {x y : Int32} (h : sgB a b x) (g : sgB c d y) (k : (0 ≤ a ∧ 0 ≤ c) ∧ b * d ≤ 2147483647 ∧ l ≤ a * c ∧ b * d ≤ u) : sgB l u (x * y) ∧ (x * y).toInt = x.toInt * y.toInt := by
  obtain ⟨⟨k1, k2⟩, k3, k4, k5⟩ := k
  have h1 : a * c ≤ x.toInt * y.toInt := Int.mul_le_mul h.1 g.1 k2 (Int.le_trans k1 h.1)
  have h2 : x.toInt * y.toInt ≤ b * d := Int.mul_le_mul h.2 g.2 (Int.le_trans k2 g.1) (Int.le_trans (Int.le_trans k1 h.1) h.2)
  have h3 : 0 ≤ x.toInt * y.toInt := Int.mul_nonneg (Int.le_trans k1 h.1) (Int.le_trans k2 g.1)
  have e : (x * y).toInt = x.toInt * y.toInt := by
    rw [Int32.toInt_mul]
    exact Int.bmod_eq_of_le (by omega) (by omega)
  rw [sgB, e]
  exact ⟨⟨Int.le_trans k4 h1, Int.le_trans h2 k5⟩, rfl⟩
/-- the sides of a branch -/
theorem bn_lt {x y : Int32} (h : x < y) : x.toInt < y.toInt := Int32.lt_iff_toInt_lt.mp h
theorem bn_nlt {x y : Int32} (h : ¬ x < y) : y.toInt ≤ x.toInt := Int.not_lt.mp (fun z => h (Int32.lt_iff_toInt_lt.mpr z))
theorem bn_le {x y : Int32} (h : x ≤ y) : x.toInt ≤ y.toInt := Int32.le_iff_toInt_le.mp h
theorem bn_nle {x y : Int32} (h : ¬ x ≤ y) : y.toInt < x.toInt := Int.not_le.mp (fun z => h (Int32.le_iff_toInt_le.mpr z))
theorem bn_ne {x y : Int32} (h : ¬ x = y) : x.toInt ≠ y.toInt := fun z => h (Int32.toInt_inj.mp z)
/-- what a side says: x below y, of x; of y -/
theorem bs_lt1 {a b c d u : Int} {x y : Int} (h : x < y) (hx : a ≤ x ∧ x ≤ b) (hy : c ≤ y ∧ y ≤ d) (k : d ≤ u + 1) : a ≤ x ∧ x ≤ u := ⟨hx.1, by omega⟩
theorem bs_lt2 {a b c d u : Int} {x y : Int} (h : x < y) (hx : a ≤ x ∧ x ≤ b) (hy : c ≤ y ∧ y ≤ d) (k : u ≤ a + 1) : u ≤ y ∧ y ≤ d := ⟨by omega, hy.2⟩
theorem bs_le1 {a b c d : Int} {x y : Int} (h : x ≤ y) (hx : a ≤ x ∧ x ≤ b) (hy : c ≤ y ∧ y ≤ d) : a ≤ x ∧ x ≤ d := ⟨hx.1, Int.le_trans h hy.2⟩
theorem bs_le2 {a b c d : Int} {x y : Int} (h : x ≤ y) (hx : a ≤ x ∧ x ≤ b) (hy : c ≤ y ∧ y ≤ d) : a ≤ y ∧ y ≤ d := ⟨Int.le_trans hx.1 h, hy.2⟩
theorem bs_eq {a b c d l u : Int} {x y : Int32} (h : x = y) (hx : sgB a b x) (hy : sgB c d y) (k : (l ≤ a ∨ l ≤ c) ∧ (b ≤ u ∨ d ≤ u)) : sgB l u x := by
  subst h
  exact ⟨by omega, by omega⟩
theorem bs_ne1 {a b c l : Int} {x y : Int32} (h : ¬ x = y) (hx : sgB a b x) (hy : sgB c c y) (k : l ≤ a + 1 ∧ c = a) : sgB l b x := by
  have := bn_ne h
  exact ⟨by omega, hx.2⟩
theorem bs_ne2 {a b c u : Int} {x y : Int32} (h : ¬ x = y) (hx : sgB a b x) (hy : sgB c c y) (k : b ≤ u + 1 ∧ c = b) : sgB a u x := by
  have := bn_ne h
  exact ⟨hx.1, by omega⟩
/-- an index -/
theorem bn_in {a b : Int} {x : Int32} {N : Nat} (h : sgB a b x) (k : 0 ≤ a ∧ b < (N : Int)) : vp_in x N := vp_in_iff.mpr ⟨by omega, by omega⟩
theorem bn_cl {a b : Int} {x : Int32} (h : sgB a b x) (k : 0 ≤ a) : ((x.toNatClampNeg : Nat) : Int) = x.toInt := by
  show ((x.toInt.toNat : Nat) : Int) = x.toInt
  omega
theorem bn_k {a b : Int} {x : Int32} {N : Nat} (h : sgB a b x) (k : 0 ≤ a ∧ b < (N : Int)) : x.toNatClampNeg < N := by
  have := bn_cl h k.1
  omega
theorem bn_max {a b c d l u : Int} {x y : Int32} (h : sgB a b x) (g : sgB c d y) (k : (l ≤ a ∨ l ≤ c) ∧ b ≤ u ∧ d ≤ u) : sgB l u (if x < y then y else x) := by
  split
  · have := bn_lt (by assumption); exact ⟨by omega, by omega⟩
  · have := bn_nlt (by assumption); exact ⟨by omega, by omega⟩
theorem bn_min {a b c d l u : Int} {x y : Int32} (h : sgB a b x) (g : sgB c d y) (k : (l ≤ a ∧ l ≤ c) ∧ (b ≤ u ∨ d ≤ u)) : sgB l u (if x < y then x else y) := by
  split
  · have := bn_lt (by assumption); exact ⟨by omega, by omega⟩
  · have := bn_nlt (by assumption); exact ⟨by omega, by omega⟩
theorem bn_abs {a b u : Int} {x : Int32} (h : sgB a b x) (k : -2147483648 < a ∧ -a ≤ u ∧ b ≤ u) : sgB 0 u (if 0 ≤ x then x else 0 - x) := by
  have z : (0 : Int32).toInt = 0 := by decide
  split
  · have := bn_le (by assumption)
    exact ⟨by omega, by omega⟩
  · have := bn_nle (by assumption)
    have e : (0 - x).toInt = 0 - x.toInt := by
      rw [Int32.toInt_sub, z]
      exact Int.bmod_eq_of_le (by omega) (by omega)
    exact ⟨by omega, by omega⟩
theorem bn_div {a b c l u : Int} {x y : Int32} (h : sgB a b x) (g : sgB c c y) (k : (0 ≤ a ∧ 0 < c) ∧ l ≤ a / c ∧ b / c ≤ u) : sgB l u (x / y) ∧ (x / y).toInt = x.toInt / c := by
  obtain ⟨⟨k1, k2⟩, k3, k4⟩ := k
  have e0 : y.toInt = c := by omega
  have e : (x / y).toInt = x.toInt / c := by
    rw [Int32.toInt_div_of_ne_right _ _ (by intro z; rw [z] at e0; have : (-1 : Int32).toInt = -1 := by decide
                                            omega), e0]
    exact Int.tdiv_eq_ediv_of_nonneg (by omega)
  rw [sgB, e]
  exact ⟨⟨Int.le_trans k3 (Int.ediv_le_ediv k2 h.1), Int.le_trans (Int.ediv_le_ediv k2 h.2) k4⟩, rfl⟩
theorem bn_rem {a b c u : Int} {x y : Int32} (h : sgB a b x) (g : sgB c c y) (k : (0 ≤ a ∧ 0 < c) ∧ c ≤ u + 1) : sgB 0 u (x - x / y * y) ∧ (x - x / y * y).toInt = x.toInt % c := by
  obtain ⟨⟨k1, k2⟩, k3⟩ := k
  have e0 : y.toInt = c := by omega
  have ed : (x / y).toInt = x.toInt / c := (bn_div (l := a / c) (u := b / c) h g ⟨⟨k1, k2⟩, Int.le_refl _, Int.le_refl _⟩).2
  have hb := x.toInt_lt
  have h0 : 0 ≤ x.toInt := by omega
  have d0 : 0 ≤ x.toInt / c := Int.ediv_nonneg h0 (by omega)
  have d1 : x.toInt / c * c ≤ x.toInt := Int.ediv_mul_le _ (by omega)
  have d2 : 0 ≤ x.toInt / c * c := Int.mul_nonneg d0 (by omega)
  have em : (x / y * y).toInt = x.toInt / c * c := by
    rw [Int32.toInt_mul, ed, e0]
    exact Int.bmod_eq_of_le (by omega) (by omega)
  have es : (x - x / y * y).toInt = x.toInt - x.toInt / c * c := by
    rw [Int32.toInt_sub, em]
    exact Int.bmod_eq_of_le (by omega) (by omega)
  have em2 : x.toInt - x.toInt / c * c = x.toInt % c := by
    rw [Int.emod_def, Int.mul_comm]
  have r0 := Int.emod_nonneg x.toInt (by omega : c ≠ 0)
  have r1 := Int.emod_lt_of_pos x.toInt k2
  rw [sgB, es, em2]
  exact ⟨⟨r0, by omega⟩, rfl⟩
theorem bn_lcmp (x y : Int64) : sgB (-1) 1 (lg_cmp x y) := by
  unfold lg_cmp
  split
  · decide
  · split <;> decide
/-- a measure that falls -/
theorem ms_0 {a b K : Int} {x : Int} (hx : a ≤ x ∧ x ≤ b) (k : b ≤ K) (hm : K - x < ((0 : Nat) : Int)) : False := by omega
theorem ms_s {K x y : Int} {n : Nat} (hm : K - x < ((n + 1 : Nat) : Int)) (e : x + 1 ≤ y) : K - y < (n : Int) := by omega
theorem ms_1 {a b K : Int} {x : Int} (hx : a ≤ x ∧ x ≤ b) (M : Nat) (k : K - a < (M : Int)) : K - x < (M : Int) := by omega
theorem md_0 {a b K : Int} {x : Int} (hx : a ≤ x ∧ x ≤ b) (k : K ≤ a) (hm : x - K < ((0 : Nat) : Int)) : False := by omega
theorem md_s {K x y : Int} {n : Nat} (hm : x - K < ((n + 1 : Nat) : Int)) (e : y + 1 ≤ x) : y - K < (n : Int) := by omega
theorem md_1 {a b K : Int} {x : Int} (hx : a ≤ x ∧ x ≤ b) (M : Nat) (k : b - K < (M : Int)) : x - K < (M : Int) := by omega
end
