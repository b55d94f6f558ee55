section
/-! A WORLD AS FUNCTIONS: the cells of a system are numbered 0 .. n-1; cell k lies at h k and holds e k (its ints) (its longs) (its references). The words here are general; each system has its own n, h, e. -/
def sg_up {α : Type} (f : Nat → Nat → α) (k : Nat) (g : Nat → α) : Nat → Nat → α := fun i => bif Nat.beq i k then g else f i
def sgu {α : Type} (g : Nat → α) (j : Nat) (x : α) : Nat → α := fun i => bif Nat.beq i j then x else g i
theorem sg_up_s {α : Type} {f : Nat → Nat → α} {k : Nat} {g : Nat → α} : sg_up f k g k = g := by
  unfold sg_up
  rw [Nat.beq_refl]
  rfl
theorem sg_up_n {α : Type} {f : Nat → Nat → α} {k i : Nat} {g : Nat → α} (h : i ≠ k) : sg_up f k g i = f i := by
  unfold sg_up
  have : Nat.beq i k = false := by
    cases hb : Nat.beq i k
    · rfl
    · exact absurd (Nat.eq_of_beq_eq_true hb) h
  rw [this]
  rfl
theorem sgu_s {α : Type} {g : Nat → α} {j : Nat} {x : α} : sgu g j x j = x := by
  unfold sgu
  rw [Nat.beq_refl]
  rfl
theorem sgu_n {α : Type} {g : Nat → α} {j i : Nat} {x : α} (h : i ≠ j) : sgu g j x i = g i := by
  unfold sgu
  have : Nat.beq i j = false := by
    cases hb : Nat.beq i j
    · rfl
    · exact absurd (Nat.eq_of_beq_eq_true hb) h
  rw [this]
  rfl
theorem sgu_upd (g : Nat → Int32) (j : Nat) (x : Int32) : upd g j x = sgu g j x := by
  funext i
  by_cases h : i = j
  · subst h; rw [sgu_s]; exact if_pos rfl
  · rw [sgu_n h]; exact if_neg h
theorem sgu_updL (g : Nat → Int64) (j : Nat) (x : Int64) : vp_updL g j x = sgu g j x := by
  funext i
  by_cases h : i = j
  · subst h; rw [sgu_s]; exact if_pos rfl
  · rw [sgu_n h]; exact if_neg h
theorem sg_up_id {α : Type} (f : Nat → Nat → α) (k : Nat) : sg_up f k (f k) = f := by
  funext i
  by_cases h : i = k
  · subst h; exact sg_up_s
  · exact sg_up_n h
abbrev sg_F : Type := Nat → Nat → Int32
abbrev sg_L : Type := Nat → Nat → Int64
abbrev sg_Q : Type := Nat → Nat → Option Nat
abbrev sg_E : Type := Nat → (Nat → Int32) → (Nat → Int64) → (Nat → Option Nat) → va_E
def sgw (n : Nat) (h : Nat → Nat) (e : sg_E) (f : sg_F) (L : sg_L) (Q : sg_Q) : va_W := (List.range n).map (fun k => (h k, e k (f k) (L k) (Q k)))
theorem sgw_at {n : Nat} {h : Nat → Nat} {e : sg_E} {f : sg_F} {L : sg_L} {Q : sg_Q} {k : Nat} (hk : k < n) : (sgw n h e f L Q)[k]? = some (h k, e k (f k) (L k) (Q k)) := by
  unfold sgw
  rw [List.getElem?_map, List.getElem?_range hk]
  rfl
theorem sgw_len {n : Nat} {h : Nat → Nat} {e : sg_E} {f : sg_F} {L : sg_L} {Q : sg_Q} : (sgw n h e f L Q).length = n := by simp [sgw]
theorem sgw_inv {n : Nat} {h : Nat → Nat} {e : sg_E} {f : sg_F} {L : sg_L} {Q : sg_Q} {k : Nat} {q : Nat × va_E} (hq : (sgw n h e f L Q)[k]? = some q) : k < n ∧ q = (h k, e k (f k) (L k) (Q k)) := by
  have hk : k < n := by
    have := (List.getElem?_eq_some_iff.mp hq).1
    rwa [sgw_len] at this
  rw [sgw_at hk] at hq
  exact ⟨hk, (Option.some.inj hq).symm⟩
theorem sgw_set {n : Nat} {h : Nat → Nat} {e : sg_E} {f : sg_F} {L : sg_L} {Q : sg_Q} {k : Nat} (hk : k < n) (g : Nat → Int32) (l : Nat → Int64) (r : Nat → Option Nat) : (sgw n h e f L Q).set k (h k, e k g l r) = sgw n h e (sg_up f k g) (sg_up L k l) (sg_up Q k r) := by
  apply List.ext_getElem?
  intro i
  by_cases hi : i < n
  · rw [sgw_at hi]
    by_cases hik : i = k
    · subst hik
      rw [List.getElem?_set_self (by rw [sgw_len]; exact hi), sg_up_s, sg_up_s, sg_up_s]
    · rw [List.getElem?_set_ne (Ne.symm hik), sgw_at hi, sg_up_n hik, sg_up_n hik, sg_up_n hik]
  · rw [List.getElem?_eq_none (by rw [List.length_set, sgw_len]; omega), List.getElem?_eq_none (by rw [sgw_len]; omega)]
/-- the cells of a system, and those that came since -/
def sgA (n : Nat) (h : Nat → Nat) (sz : Nat) : Nat → Prop := fun q => (∃ k : Nat, k < n ∧ q = h k) ∨ sz ≤ q
theorem sgA_mono {n : Nat} {h : Nat → Nat} {a b q : Nat} (hab : a ≤ b) (hq : sgA n h b q) : sgA n h a q := by
  rcases hq with hq | hq
  · exact Or.inl hq
  · exact Or.inr (Nat.le_trans hab hq)
/-- the cells lie apart -/
def sgH (n : Nat) (h : Nat → Nat) : Prop := ∀ i j : Nat, i < n → j < n → h i = h j → i = j
/-- what a walk may write: the cells of the system, and all that came since -/
def sgY (A : Nat → Prop) (n : Nat) (h : Nat → Nat) (sz : Nat) : Prop := (∀ k : Nat, k < n → A (h k)) ∧ ∀ q : Nat, sz ≤ q → A q
theorem sgY.self {n : Nat} {h : Nat → Nat} {sz : Nat} : sgY (sgA n h sz) n h sz := ⟨fun k hk => Or.inl ⟨k, hk, rfl⟩, fun _ hq => Or.inr hq⟩
theorem sgY.sub {A : Nat → Prop} {n : Nat} {h : Nat → Nat} {a b : Nat} (hA : sgY A n h a) (hab : a ≤ b) {q : Nat} (hq : sgA n h b q) : A q := by
  rcases hq with ⟨k, hk, rfl⟩ | hq
  · exact hA.1 k hk
  · exact hA.2 q (Nat.le_trans hab hq)
theorem sgD {A : Nat → Prop} {n : Nat} {h : Nat → Nat} {e : sg_E} {f : sg_F} {L : sg_L} {Q : sg_Q} {sz : Nat} (hh : sgH n h) (hA : sgY A n h sz) : va_D A (sgw n h e f L Q) := by
  refine ⟨fun i j p q hp hq hpq => ?_, fun k q hq => ?_⟩
  · obtain ⟨hi, rfl⟩ := sgw_inv hp
    obtain ⟨hj, rfl⟩ := sgw_inv hq
    exact hh i j hi hj hpq
  · obtain ⟨hk, rfl⟩ := sgw_inv hq
    exact hA.1 k hk
/-- bounds of all ints -/
def sgI (lo hi : Nat → Nat → Int) (f : sg_F) : Prop := ∀ k j : Nat, lo k j ≤ (f k j).toInt ∧ (f k j).toInt ≤ hi k j
theorem sgI.row {lo hi : Nat → Nat → Int} {f : sg_F} (hI : sgI lo hi f) (k : Nat) {g : Nat → Int32} (hg : ∀ j : Nat, lo k j ≤ (g j).toInt ∧ (g j).toInt ≤ hi k j) : sgI lo hi (sg_up f k g) := by
  intro i j
  by_cases h : i = k
  · subst h; rw [sg_up_s]; exact hg j
  · rw [sg_up_n h]; exact hI i j
theorem sgI.put {lo hi : Nat → Nat → Int} {f : sg_F} (hI : sgI lo hi f) (k j : Nat) {x : Int32} (hx : lo k j ≤ x.toInt ∧ x.toInt ≤ hi k j) : sgI lo hi (sg_up f k (sgu (f k) j x)) := by
  refine hI.row k (fun i => ?_)
  by_cases h : i = j
  · subst h; rw [sgu_s]; exact hx
  · rw [sgu_n h]; exact hI k i
theorem sgI.cpy {lo hi : Nat → Nat → Int} {f : sg_F} (hI : sgI lo hi f) (a b : Nat) {sp dp n : Nat} (hx : ∀ j i : Nat, lo b j ≤ lo a i ∧ hi a i ≤ hi b j) : sgI lo hi (sg_up f b (va_cpy (f a) (f b) sp dp n)) := by
  refine hI.row b (fun i => ?_)
  unfold va_cpy
  split
  · exact ⟨Int.le_trans (hx i _).1 (hI a _).1, Int.le_trans (hI a _).2 (hx i _).2⟩
  · exact hI b i
/-- static arrays: a static field (class, name, descriptor) holds an array of ints that is none of the system's -/
abbrev sg_S : Type := String × String × String × Nat × (Nat → Int32)
def sgZ (zc : List sg_S) (za : Nat → Nat) (A : Nat → Prop) (sz : Nat) (U : State) : Prop := ∀ (i : Nat) (q : sg_S), zc[i]? = some q → va_Z q.1 q.2.1 q.2.2.1 (.ref (za i)) A U U.heap ∧ va_X (za i) q.2.2.2.1 q.2.2.2.2 U U.heap ∧ za i < sz ∧ ¬ A (za i)
theorem sgZ.go {zc : List sg_S} {za : Nat → Nat} {A A1 : Nat → Prop} {s U : State} {H : Heap} {locs : List Loc} (hZ : sgZ zc za A s.heap.size s) (hS : va_S A s.heap H locs) (hU : U.heap = H) (hvm : s.vm.Alike U.vm) (hAA : ∀ q, A1 q → A q) : sgZ zc za A1 H.size U := by
  intro i q hq
  obtain ⟨h1, h2, h3, h4⟩ := hZ i q hq
  refine ⟨?_, ?_, Nat.lt_of_lt_of_le h3 hS.1, fun z => h4 (hAA _ z)⟩
  · rw [hU]
    exact ((va_Z.moved hvm h1).kept (fun a g1 g2 => hS.2.1 a g1 g2)).narrow hAA
  · rw [hU]
    exact (va_X.moved hvm h2).kept (hS.2.1 _ h3 h4)
/-- a contract's start -/
def sgP (D : va_G) (cl : List vw_C) (tys : List (ClassId × FieldType)) (n : Nat) (h : Nat → Nat) (e : sg_E) (zc : List sg_S) (za : Nat → Nat) (f : sg_F) (L : sg_L) (Q : sg_Q) (sz : Nat) (av : List Value) : Array Value → State → Prop := va_Pc av (fun U => U.heap.size = sz ∧ va_P D cl (sgw n h e f L Q) U.heap ∧ va_K D cl tys U ∧ sgZ zc za (sgA n h sz) sz U)
theorem sgP_blind {D : va_G} {cl : List vw_C} {tys : List (ClassId × FieldType)} {n : Nat} {h : Nat → Nat} {e : sg_E} {zc : List sg_S} {za : Nat → Nat} {f : sg_F} {L : sg_L} {Q : sg_Q} {sz : Nat} {av : List Value} : FrameBlind (sgP D cl tys n h e zc za f L Q sz av) := by
  intro a U g mk q
  obtain ⟨q0, q1, qP, qK, qZ⟩ := q
  refine ⟨q0, q1, qP, va_K.moved (u := U) (U := U.calling g mk a) (Vm.Alike.refl U.vm) qK, fun i z hz => ?_⟩
  obtain ⟨h1, h2, h3, h4⟩ := qZ i z hz
  exact ⟨va_Z.moved (u := U) (U := U.calling g mk a) (Vm.Alike.refl U.vm) h1, va_X.moved (u := U) (U := U.calling g mk a) (Vm.Alike.refl U.vm) h2, h3, h4⟩
/-- a contract's end, by what it answers -/
abbrev sg_U : Type := sg_F × sg_L × sg_Q
def sgQi (D : va_G) (cl : List vw_C) (n : Nat) (h : Nat → Nat) (e : sg_E) (sz : Nat) (post : Int32 → sg_F → sg_L → sg_Q → Prop) : Array Value → State → Outcome → State → Prop := va_Qi (S := sg_U) (fun r u => post r u.1 u.2.1 u.2.2) (fun u t => va_P D cl (sgw n h e u.1 u.2.1 u.2.2) t.heap) (sgA n h sz)
def sgQl (D : va_G) (cl : List vw_C) (n : Nat) (h : Nat → Nat) (e : sg_E) (sz : Nat) (post : Int64 → sg_F → sg_L → sg_Q → Prop) : Array Value → State → Outcome → State → Prop := va_Ql (S := sg_U) (fun r u => post r u.1 u.2.1 u.2.2) (fun u t => va_P D cl (sgw n h e u.1 u.2.1 u.2.2) t.heap) (sgA n h sz)
def sgQv (D : va_G) (cl : List vw_C) (n : Nat) (h : Nat → Nat) (e : sg_E) (sz : Nat) (post : sg_F → sg_L → sg_Q → Prop) : Array Value → State → Outcome → State → Prop := va_Qv (S := sg_U) (fun u => post u.1 u.2.1 u.2.2) (fun u t => va_P D cl (sgw n h e u.1 u.2.1 u.2.2) t.heap) (sgA n h sz)
end
section
section SGR
variable {p : Program} {l : Launch} {e : Env} {R : Room} {s : State} {m : MethodId} {args : Array Value} {below : List Frame} {meth : Method} {c : Code} {H : Heap} {locs : List Loc} {cells slots : Nat} {Qz : State → Prop}
variable {cc : ByteArray} {pc : Nat} {ls : Array Slot} {rest : List Value} {D : va_G} {cl : List vw_C} {tys : List (ClassId × FieldType)} {n : Nat} {h : Nat → Nat} {ee : sg_E} {f : sg_F} {L : sg_L} {Q : sg_Q} {sz : Nat} {zc : List sg_S} {za : Nat → Nat} {A : Nat → Prop}
theorem sg_get (hx : p.tables.exec = Jvm.exec) (hb : c.code = cc) {own ref C : String} {T : u_T} {N ci index : Nat} {Ts : List Cond} (hts : ∀ w ∈ Ts, w.before args s = true) (hin : ∀ w ∈ u_ws C T N, w ∈ Ts) (hown : s.vm.findClass own = some m.cls) (hK : va_K D cl tys s) (hP : va_P D cl (sgw n h ee f L Q) H) (k : Nat) (hk : k < n) {fs : List Value} (he : ee k (f k) (L k) (Q k) = .inr (ci, fs)) (hc : cl[ci]? = some (C, T, N)) (j : Nat) (hj : j < N) (hlink : (Cond.fieldLink own index ref (T j).2.1 (T j).2.2.1).before args s = true) (hsame : ∀ x, s.fieldFound? (T j).1 (T j).2.1 (T j).2.2.1 = some x → s.fieldFound? ref (T j).2.1 (T j).2.2.1 = some x) {v : Value} (hv : fs[j]? = some v) (hdg : decode cc pc = .ok (.getfield index, 3))
    (kk : W p l e R s m args below meth c H locs cells slots Qz (F0 m (pc + 3) ls (v :: rest))) : W p l e R s m args below meth c H locs cells slots Qz (F0 m pc ls (.ref (h k) :: rest)) :=
  va_get hx hb hts hin hown hK hP k (by rw [sgw_at hk, he]) hc j hj hlink hsame hv hdg kk
theorem sg_put (hx : p.tables.exec = Jvm.exec) (hb : c.code = cc) {own ref C : String} {T : u_T} {N ci index : Nat} {Ts : List Cond} (hts : ∀ w ∈ Ts, w.before args s = true) (hin : ∀ w ∈ u_ws C T N, w ∈ Ts) (ty0 : Nat → FieldType) (hty : ∀ k, k < N → parseFieldDescriptor (T k).2.2.1 = some (ty0 k)) (hnm : ∀ a, a < N → ∀ b, b < N → a ≠ b → (T a).2.1 ≠ (T b).2.1) (hown : s.vm.findClass own = some m.cls) (hh : sgH n h) (hA : sgY A n h s.heap.size) (hK : va_K D cl tys s) (hP : va_P D cl (sgw n h ee f L Q) H) (hS : va_S A s.heap H locs) (k : Nat) (hk : k < n) {fs : List Value} (he : ee k (f k) (L k) (Q k) = .inr (ci, fs)) (hc : cl[ci]? = some (C, T, N)) (j : Nat) (hj : j < N) (hlink : (Cond.fieldLink own index ref (T j).2.1 (T j).2.2.1).before args s = true) (hsame : ∀ x, s.fieldFound? (T j).1 (T j).2.1 (T j).2.2.1 = some x → s.fieldFound? ref (T j).2.1 (T j).2.2.1 = some x) (hfin : (T j).2.2.2 = false) {ty : FieldType} {x : Int32} (he2 : ee k (sgu (f k) j x) (L k) (Q k) = .inr (ci, fs.set j (.int x))) (hd : parseFieldDescriptor (T j).2.2.1 = some ty) (hn : narrow ty (.int x) = .int x) (hfit : fits ty (.int x) = true) (hl : j < fs.length)
    (hdg : decode cc pc = .ok (.putfield index, 3)) (kk : ∀ (f1 : sg_F) (H1 : Heap) (locs1 : List Loc), f1 = sg_up f k (sgu (f k) j x) → va_P D cl (sgw n h ee f1 L Q) H1 → va_S A s.heap H1 locs1 → W p l e R s m args below meth c H1 locs1 cells slots Qz (F0 m (pc + 3) ls rest)) : W p l e R s m args below meth c H locs cells slots Qz (F0 m pc ls (.int x :: .ref (h k) :: rest)) :=
  va_put hx hb hts hin ty0 hty hnm hown hK hP (sgD hh hA) hS k (by rw [sgw_at hk, he]) hc j hj hlink hsame hfin hd hn hfit hl hdg (fun H1 locs1 hP1 _ hS1 => kk _ H1 locs1 rfl (by
    rw [← he2, sgw_set hk, sg_up_id, sg_up_id] at hP1
    exact hP1) hS1)
/-- a field that holds a reference is set: what the cell holds is said by he2 -/
theorem sg_putq (hx : p.tables.exec = Jvm.exec) (hb : c.code = cc) {own ref C : String} {T : u_T} {N ci index : Nat} {Ts : List Cond} (hts : ∀ w ∈ Ts, w.before args s = true) (hin : ∀ w ∈ u_ws C T N, w ∈ Ts) (ty0 : Nat → FieldType) (hty : ∀ k, k < N → parseFieldDescriptor (T k).2.2.1 = some (ty0 k)) (hnm : ∀ a, a < N → ∀ b, b < N → a ≠ b → (T a).2.1 ≠ (T b).2.1) (hown : s.vm.findClass own = some m.cls) (hh : sgH n h) (hA : sgY A n h s.heap.size) (hK : va_K D cl tys s) (hP : va_P D cl (sgw n h ee f L Q) H) (hS : va_S A s.heap H locs) (k : Nat) (hk : k < n) {fs : List Value} (he : ee k (f k) (L k) (Q k) = .inr (ci, fs)) (hc : cl[ci]? = some (C, T, N)) (j : Nat) (hj : j < N) (hlink : (Cond.fieldLink own index ref (T j).2.1 (T j).2.2.1).before args s = true) (hsame : ∀ x, s.fieldFound? (T j).1 (T j).2.1 (T j).2.2.1 = some x → s.fieldFound? ref (T j).2.1 (T j).2.2.1 = some x) (hfin : (T j).2.2.2 = false) {ty : FieldType} {q : Nat} {r1 : Nat → Option Nat} (he2 : ee k (f k) (L k) r1 = .inr (ci, fs.set j (.ref q))) (hd : parseFieldDescriptor (T j).2.2.1 = some ty) (hn : narrow ty (.ref q) = .ref q) (hfit : fits ty (.ref q) = true) (hl : j < fs.length)
    (hdg : decode cc pc = .ok (.putfield index, 3)) (kk : ∀ (Q1 : sg_Q) (H1 : Heap) (locs1 : List Loc), Q1 = sg_up Q k r1 → va_P D cl (sgw n h ee f L Q1) H1 → va_S A s.heap H1 locs1 → W p l e R s m args below meth c H1 locs1 cells slots Qz (F0 m (pc + 3) ls rest)) : W p l e R s m args below meth c H locs cells slots Qz (F0 m pc ls (.ref q :: .ref (h k) :: rest)) :=
  va_put hx hb hts hin ty0 hty hnm hown hK hP (sgD hh hA) hS k (by rw [sgw_at hk, he]) hc j hj hlink hsame hfin hd hn hfit hl hdg (fun H1 locs1 hP1 _ hS1 => kk _ H1 locs1 rfl (by
    rw [← he2, sgw_set hk, sg_up_id, sg_up_id] at hP1
    exact hP1) hS1)
theorem sg_iald (hx : p.tables.exec = Jvm.exec) (hb : c.code = cc) (hK : va_K D cl tys s) (hP : va_P D cl (sgw n h ee f L Q) H) (k : Nat) (hk : k < n) (t0 : Nat) {cA : ClassId} {N : Nat} {g : Nat → Int32} (he : ee k (f k) (L k) (Q k) = .inl (cA, N, .inl g)) (ht : tys[t0]? = some (cA, .int)) {i : Int32} (hin : vp_in i N) (hdg : decode cc pc = .ok (.iaload, 1))
    (kk : W p l e R s m args below meth c H locs cells slots Qz (F0 m (pc + 1) ls (.int (g i.toNatClampNeg) :: rest))) : W p l e R s m args below meth c H locs cells slots Qz (F0 m pc ls (.int i :: .ref (h k) :: rest)) :=
  va_iald hx hb hK hP k t0 (by rw [sgw_at hk, he]) ht hin hdg kk
theorem sg_zald (hx : p.tables.exec = Jvm.exec) (hb : c.code = cc) (hK : va_K D cl tys s) (hP : va_P D cl (sgw n h ee f L Q) H) (k : Nat) (hk : k < n) (t0 : Nat) {cA : ClassId} {N : Nat} {g : Nat → Int32} (he : ee k (f k) (L k) (Q k) = .inl (cA, N, .inl g)) (ht : tys[t0]? = some (cA, .boolean)) {i : Int32} (hin : vp_in i N) (hdg : decode cc pc = .ok (.baload, 1))
    (kk : W p l e R s m args below meth c H locs cells slots Qz (F0 m (pc + 1) ls (.int (g i.toNatClampNeg) :: rest))) : W p l e R s m args below meth c H locs cells slots Qz (F0 m pc ls (.int i :: .ref (h k) :: rest)) :=
  va_zald hx hb hK hP k t0 (by rw [sgw_at hk, he]) ht hin hdg kk
theorem sg_lald (hx : p.tables.exec = Jvm.exec) (hb : c.code = cc) (hK : va_K D cl tys s) (hP : va_P D cl (sgw n h ee f L Q) H) (k : Nat) (hk : k < n) (t0 : Nat) {cA : ClassId} {N : Nat} {g : Nat → Int64} (he : ee k (f k) (L k) (Q k) = .inl (cA, N, .inr (.inl g))) (ht : tys[t0]? = some (cA, .long)) {i : Int32} (hin : vp_in i N) (hdg : decode cc pc = .ok (.laload, 1))
    (kk : W p l e R s m args below meth c H locs cells slots Qz (F0 m (pc + 1) ls (.long (g i.toNatClampNeg) :: rest))) : W p l e R s m args below meth c H locs cells slots Qz (F0 m pc ls (.int i :: .ref (h k) :: rest)) :=
  va_lald hx hb hK hP k t0 (by rw [sgw_at hk, he]) ht hin hdg kk
theorem sg_aald (hx : p.tables.exec = Jvm.exec) (hb : c.code = cc) (hK : va_K D cl tys s) (hP : va_P D cl (sgw n h ee f L Q) H) (k : Nat) (hk : k < n) (t0 : Nat) {cA : ClassId} {C : String} {N : Nat} {g : Nat → Option Nat} (he : ee k (f k) (L k) (Q k) = .inl (cA, N, .inr (.inr (.inr (.inr g))))) (ht : tys[t0]? = some (cA, .object C)) {i : Int32} (hin : vp_in i N) {a : Nat} (ha : g i.toNatClampNeg = some a) (hdg : decode cc pc = .ok (.aaload, 1))
    (kk : W p l e R s m args below meth c H locs cells slots Qz (F0 m (pc + 1) ls (.ref a :: rest))) : W p l e R s m args below meth c H locs cells slots Qz (F0 m pc ls (.int i :: .ref (h k) :: rest)) :=
  va_aldq hx hb hK hP k t0 (by rw [sgw_at hk, he]) ht hin hdg (by rw [ha]; exact kk)
theorem sg_iast (hx : p.tables.exec = Jvm.exec) (hb : c.code = cc) (hh : sgH n h) (hA : sgY A n h s.heap.size) (hK : va_K D cl tys s) (hP : va_P D cl (sgw n h ee f L Q) H) (hS : va_S A s.heap H locs) (k : Nat) (hk : k < n) (t0 : Nat) {cA : ClassId} {N : Nat} (he : ∀ g : Nat → Int32, ee k g (L k) (Q k) = .inl (cA, N, .inl g)) (ht : tys[t0]? = some (cA, .int)) {i : Int32} {x : Int32} (hin : vp_in i N) (hdg : decode cc pc = .ok (.iastore, 1))
    (kk : ∀ (f1 : sg_F) (H1 : Heap) (locs1 : List Loc), f1 = sg_up f k (sgu (f k) i.toNatClampNeg x) → va_P D cl (sgw n h ee f1 L Q) H1 → va_S A s.heap H1 locs1 → W p l e R s m args below meth c H1 locs1 cells slots Qz (F0 m (pc + 1) ls rest)) : W p l e R s m args below meth c H locs cells slots Qz (F0 m pc ls (.int x :: .int i :: .ref (h k) :: rest)) :=
  va_iast hx hb hK hP (sgD hh hA) hS k t0 (by rw [sgw_at hk, he]) ht hin hdg (fun H1 locs1 hP1 _ hS1 => kk _ H1 locs1 rfl (by
    rw [sgu_upd, ← he (sgu (f k) i.toNatClampNeg x), sgw_set hk, sg_up_id, sg_up_id] at hP1
    exact hP1) hS1)
theorem sg_zast (hx : p.tables.exec = Jvm.exec) (hb : c.code = cc) (hh : sgH n h) (hA : sgY A n h s.heap.size) (hK : va_K D cl tys s) (hP : va_P D cl (sgw n h ee f L Q) H) (hS : va_S A s.heap H locs) (k : Nat) (hk : k < n) (t0 : Nat) {cA : ClassId} {N : Nat} (he : ∀ g : Nat → Int32, ee k g (L k) (Q k) = .inl (cA, N, .inl g)) (ht : tys[t0]? = some (cA, .boolean)) {i : Int32} {x : Int32} (hin : vp_in i N) (hx1 : vp_nar .boolean x = x) (hdg : decode cc pc = .ok (.bastore, 1))
    (kk : ∀ (f1 : sg_F) (H1 : Heap) (locs1 : List Loc), f1 = sg_up f k (sgu (f k) i.toNatClampNeg x) → va_P D cl (sgw n h ee f1 L Q) H1 → va_S A s.heap H1 locs1 → W p l e R s m args below meth c H1 locs1 cells slots Qz (F0 m (pc + 1) ls rest)) : W p l e R s m args below meth c H locs cells slots Qz (F0 m pc ls (.int x :: .int i :: .ref (h k) :: rest)) :=
  va_zast hx hb hK hP (sgD hh hA) hS k t0 (by rw [sgw_at hk, he]) ht hin hdg (fun H1 locs1 hP1 _ hS1 => kk _ H1 locs1 rfl (by
    rw [hx1, sgu_upd, ← he (sgu (f k) i.toNatClampNeg x), sgw_set hk, sg_up_id, sg_up_id] at hP1
    exact hP1) hS1)
theorem sg_last (hx : p.tables.exec = Jvm.exec) (hb : c.code = cc) (hh : sgH n h) (hA : sgY A n h s.heap.size) (hK : va_K D cl tys s) (hP : va_P D cl (sgw n h ee f L Q) H) (hS : va_S A s.heap H locs) (k : Nat) (hk : k < n) (t0 : Nat) {cA : ClassId} {N : Nat} (he : ∀ g : Nat → Int64, ee k (f k) g (Q k) = .inl (cA, N, .inr (.inl g))) (ht : tys[t0]? = some (cA, .long)) {i : Int32} {x : Int64} (hin : vp_in i N) (hdg : decode cc pc = .ok (.lastore, 1))
    (kk : ∀ (L1 : sg_L) (H1 : Heap) (locs1 : List Loc), L1 = sg_up L k (sgu (L k) i.toNatClampNeg x) → va_P D cl (sgw n h ee f L1 Q) H1 → va_S A s.heap H1 locs1 → W p l e R s m args below meth c H1 locs1 cells slots Qz (F0 m (pc + 1) ls rest)) : W p l e R s m args below meth c H locs cells slots Qz (F0 m pc ls (.long x :: .int i :: .ref (h k) :: rest)) :=
  va_last hx hb hK hP (sgD hh hA) hS k t0 (by rw [sgw_at hk, he]) ht hin hdg (fun H1 locs1 hP1 _ hS1 => kk _ H1 locs1 rfl (by
    rw [sgu_updL, ← he (sgu (L k) i.toNatClampNeg x), sgw_set hk, sg_up_id, sg_up_id] at hP1
    exact hP1) hS1)
theorem sg_alen (hx : p.tables.exec = Jvm.exec) (hb : c.code = cc) (hK : va_K D cl tys s) (hP : va_P D cl (sgw n h ee f L Q) H) (k : Nat) (hk : k < n) (t0 : Nat) {cA : ClassId} {y : vp_A} (he : ee k (f k) (L k) (Q k) = .inl (cA, y)) {ty : FieldType} (ht : tys[t0]? = some (cA, ty)) {v : Int32} (hv : Int32.ofNat y.1 = v) (hdg : decode cc pc = .ok (.arraylength, 1))
    (kk : W p l e R s m args below meth c H locs cells slots Qz (F0 m (pc + 1) ls (.int v :: rest))) : W p l e R s m args below meth c H locs cells slots Qz (F0 m pc ls (.ref (h k) :: rest)) :=
  va_alen hx hb hK hP k t0 (by rw [sgw_at hk, he]) ht hv hdg kk
/-- a static array -/
theorem sg_gets (hx : p.tables.exec = Jvm.exec) (hb : c.code = cc) (hZ : sgZ zc za A s.heap.size s) (i : Nat) {C nm d own ref : String} {N index : Nat} {g : Nat → Int32} (hz : zc[i]? = some (C, nm, d, N, g)) (hS : va_S A s.heap H locs) (hown : s.vm.findClass own = some m.cls) (hlink : (Cond.fieldLink own index ref nm d).before args s = true) (hsame : ∀ x, s.fieldFound? C nm d = some x → s.fieldFound? ref nm d = some x) (hdg : decode cc pc = .ok (.getstatic index, 3))
    (kk : W p l e R s m args below meth c H locs cells slots Qz (F0 m (pc + 3) ls (.ref (za i) :: rest))) : W p l e R s m args below meth c H locs cells slots Qz (F0 m pc ls rest) :=
  va_gets hx hb (hZ i _ hz).1 hS hown hlink hsame hdg kk
theorem sg_sald (hx : p.tables.exec = Jvm.exec) (hb : c.code = cc) (hZ : sgZ zc za A s.heap.size s) (i : Nat) {C nm d : String} {N : Nat} {g : Nat → Int32} (hz : zc[i]? = some (C, nm, d, N, g)) (hS : va_S A s.heap H locs) {y : Int32} (hin : vp_in y N) (hdg : decode cc pc = .ok (.iaload, 1))
    (kk : W p l e R s m args below meth c H locs cells slots Qz (F0 m (pc + 1) ls (.int (g y.toNatClampNeg) :: rest))) : W p l e R s m args below meth c H locs cells slots Qz (F0 m pc ls (.int y :: .ref (za i) :: rest)) :=
  va_sld hx hb (hZ i _ hz).2.1 (hZ i _ hz).2.2.1 (hZ i _ hz).2.2.2 hS hin hdg kk
theorem sg_slen (hx : p.tables.exec = Jvm.exec) (hb : c.code = cc) (hZ : sgZ zc za A s.heap.size s) (i : Nat) {C nm d : String} {N : Nat} {g : Nat → Int32} (hz : zc[i]? = some (C, nm, d, N, g)) (hS : va_S A s.heap H locs) {v : Int32} (hv : Int32.ofNat N = v) (hdg : decode cc pc = .ok (.arraylength, 1))
    (kk : W p l e R s m args below meth c H locs cells slots Qz (F0 m (pc + 1) ls (.int v :: rest))) : W p l e R s m args below meth c H locs cells slots Qz (F0 m pc ls (.ref (za i) :: rest)) :=
  va_slen hx hb (hZ i _ hz).2.1 (hZ i _ hz).2.2.1 (hZ i _ hz).2.2.2 hS hdg (by rw [hv]; exact kk)
/-- calls: the whole world goes in, the whole world comes back -/
theorem sg_calli {st0 : List Value} {a : Array Value} {mc ms : Nat} {post : Int32 → sg_F → sg_L → sg_Q → Prop} (hr : va_Run p l e R s m args below meth c H locs cells slots mc ms (F0 m pc ls st0) rest (sgQi D cl n h ee H.size post a) (sgA n h H.size)) (hA : sgY A n h s.heap.size) (hS : va_S A s.heap H locs)
    (kk : ∀ (r : Int32) (f1 : sg_F) (L1 : sg_L) (Q1 : sg_Q) (H1 : Heap) (locs1 : List Loc), post r f1 L1 Q1 → va_P D cl (sgw n h ee f1 L1 Q1) H1 → va_S A s.heap H1 locs1 → W p l e R s m args below meth c H1 locs1 (cells + mc) (slots + ms) Qz (F0 m (pc + 3) ls (.int r :: rest))) : W p l e R s m args below meth c H locs cells slots Qz (F0 m pc ls st0) :=
  va_calli hr hS (fun q _ hq => hA.sub hS.1 hq) (fun q hq => hA.sub hS.1 hq) (fun r u t H1 locs1 ht _ hw hB _ _ hS1 => kk r u.1 u.2.1 u.2.2 H1 locs1 hw (by rw [← ht]; exact hB) hS1)
theorem sg_calll {st0 : List Value} {a : Array Value} {mc ms : Nat} {post : Int64 → sg_F → sg_L → sg_Q → Prop} (hr : va_Run p l e R s m args below meth c H locs cells slots mc ms (F0 m pc ls st0) rest (sgQl D cl n h ee H.size post a) (sgA n h H.size)) (hA : sgY A n h s.heap.size) (hS : va_S A s.heap H locs)
    (kk : ∀ (r : Int64) (f1 : sg_F) (L1 : sg_L) (Q1 : sg_Q) (H1 : Heap) (locs1 : List Loc), post r f1 L1 Q1 → va_P D cl (sgw n h ee f1 L1 Q1) H1 → va_S A s.heap H1 locs1 → W p l e R s m args below meth c H1 locs1 (cells + mc) (slots + ms) Qz (F0 m (pc + 3) ls (.long r :: rest))) : W p l e R s m args below meth c H locs cells slots Qz (F0 m pc ls st0) :=
  va_calll hr hS (fun q _ hq => hA.sub hS.1 hq) (fun q hq => hA.sub hS.1 hq) (fun r u t H1 locs1 ht _ hw hB _ _ hS1 => kk r u.1 u.2.1 u.2.2 H1 locs1 hw (by rw [← ht]; exact hB) hS1)
theorem sg_callv {st0 : List Value} {a : Array Value} {mc ms : Nat} {post : sg_F → sg_L → sg_Q → Prop} (hr : va_Run p l e R s m args below meth c H locs cells slots mc ms (F0 m pc ls st0) rest (sgQv D cl n h ee H.size post a) (sgA n h H.size)) (hA : sgY A n h s.heap.size) (hS : va_S A s.heap H locs)
    (kk : ∀ (f1 : sg_F) (L1 : sg_L) (Q1 : sg_Q) (H1 : Heap) (locs1 : List Loc), post f1 L1 Q1 → va_P D cl (sgw n h ee f1 L1 Q1) H1 → va_S A s.heap H1 locs1 → W p l e R s m args below meth c H1 locs1 (cells + mc) (slots + ms) Qz (F0 m (pc + 3) ls rest)) : W p l e R s m args below meth c H locs cells slots Qz (F0 m pc ls st0) :=
  va_callv hr hS (fun q _ hq => hA.sub hS.1 hq) (fun q hq => hA.sub hS.1 hq) (fun u t H1 locs1 ht _ hw hB _ _ hS1 => kk u.1 u.2.1 u.2.2 H1 locs1 hw (by rw [← ht]; exact hB) hS1)
/-- what a call finds: the receiver is cell k -/
theorem sg_preV (hA : sgY A n h s.heap.size) (hK : va_K D cl tys s) (hP : va_P D cl (sgw n h ee f L Q) H) (hS : va_S A s.heap H locs) (hZ : sgZ zc za A s.heap.size s) (k : Nat) (hk : k < n) {As : List Value} {C : String} {T : u_T} {N ci : Nat} {fs : List Value} (he : ee k (f k) (L k) (Q k) = .inr (ci, fs)) (hc : cl[ci]? = some (C, T, N)) : PreV s H C (h k) (sgP D cl tys n h ee zc za f L Q H.size (.ref (h k) :: As)) As :=
  ⟨sgP_blind, va_recv hK hP hc (q0 := k) (by rw [sgw_at hk, he]), fun U hU hW => ⟨rfl, by rw [hU], by rw [hU]; exact hP, va_K.moved hW.alike hK, hZ.go hS hU hW.alike (fun q hq => hA.sub hS.1 hq)⟩⟩
theorem sg_preS (hA : sgY A n h s.heap.size) (hK : va_K D cl tys s) (hP : va_P D cl (sgw n h ee f L Q) H) (hS : va_S A s.heap H locs) (hZ : sgZ zc za A s.heap.size s) {As : List Value} : PreS s H (sgP D cl tys n h ee zc za f L Q H.size As) As :=
  ⟨sgP_blind, fun U hU hW => ⟨rfl, by rw [hU], by rw [hU]; exact hP, va_K.moved hW.alike hK, hZ.go hS hU hW.alike (fun q hq => hA.sub hS.1 hq)⟩⟩
end SGR
/-- a method's walk, from its entry to its returns -/
theorem sg_ofWi {l : Launch} {y : MethodName} {ws ws' : List Cond} {rm : Room} {cc : ByteArray} {maxL : Nat} {D : va_G} {cl : List vw_C} {tys : List (ClassId × FieldType)} {n : Nat} {h : Nat → Nat} {ee : sg_E} {zc : List sg_S} {za : Nat → Nat} {f : sg_F} {L : sg_L} {Q : sg_Q} {sz : Nat} {av : List Value} {post : Int32 → sg_F → sg_L → sg_Q → Prop} {mc ms : Nat} (own : String) (hy : plainName y.cls = true) (hyc : y.cls = own) (hw : ws = Cond.code y cc maxL (some .int) :: ws') (hav : (lg_sl av).length ≤ maxL)
    (body : ∀ (p : Program) (e : Env) (s : State) (m : MethodId) (below : List Frame) (meth : Method) (c : Code) (Qz : State → Prop) (ls : Array Slot), p.tables.exec = Jvm.exec → c.code = cc → c.maxLocals = maxL → s.vm.findClass own = some m.cls → (∀ w ∈ ws, w.before av.toArray s = true) → va_K D cl tys s → sgZ zc za (sgA n h s.heap.size) s.heap.size s → va_P D cl (sgw n h ee f L Q) s.heap → va_S (sgA n h s.heap.size) s.heap s.heap [] → lv_has ls maxL (lv_args 0 av) →
      (∀ (pc : Nat) (H : Heap) (locs : List Loc) (ls : Array Slot) (v : Int32) (f1 : sg_F) (L1 : sg_L) (Q1 : sg_Q), decode cc pc = .ok (.ireturn, 1) → va_P D cl (sgw n h ee f1 L1 Q1) H → va_S (sgA n h s.heap.size) s.heap H locs → post v f1 L1 Q1 → W p l e rm s m av.toArray below meth c H locs mc ms Qz (F0 m pc ls [.int v])) →
      W p l e rm s m av.toArray below meth c s.heap [] 0 0 Qz (F0 m 0 ls [])) :
    Met l y ws rm (sgP D cl tys n h ee zc za f L Q sz av) (sgQi D cl n h ee sz post) mc ms (sgA n h sz) := by
  refine Met.ofW (cc := cc) (maxL := maxL) (ret := some .int) hy hw ?_
  intro p e s m args below meth c s₁ B hml hv
  obtain ⟨rfl, hsz, hP, hK, hZ⟩ := hv
  subst hsz
  rw [lg_entry_eq]
  refine body p e s m below meth c _ _ B.exec B.bytes hml (hyc ▸ findClass_of_methodNamed B.named) (atoms_spec (ws := ws) B.pre) hK hZ hP va_S.rf (lv_entry av hav) ?_
  intro pc H locs ls v f1 L1 Q1 hd hP1 hS1 hp
  exact W.iret (v := v) B.exec B.bytes B.returns (fun t ht _ => ⟨⟨v, (f1, L1, Q1), rfl, hp, by subst ht; exact hP1⟩, hS1.F ht⟩) hS1.2.2 hd B.notSynchronized
theorem sg_ofWz {l : Launch} {y : MethodName} {ws ws' : List Cond} {rm : Room} {cc : ByteArray} {maxL : Nat} {D : va_G} {cl : List vw_C} {tys : List (ClassId × FieldType)} {n : Nat} {h : Nat → Nat} {ee : sg_E} {zc : List sg_S} {za : Nat → Nat} {f : sg_F} {L : sg_L} {Q : sg_Q} {sz : Nat} {av : List Value} {post : Int32 → sg_F → sg_L → sg_Q → Prop} {mc ms : Nat} (own : String) (hy : plainName y.cls = true) (hyc : y.cls = own) (hw : ws = Cond.code y cc maxL (some .boolean) :: ws') (hav : (lg_sl av).length ≤ maxL)
    (body : ∀ (p : Program) (e : Env) (s : State) (m : MethodId) (below : List Frame) (meth : Method) (c : Code) (Qz : State → Prop) (ls : Array Slot), p.tables.exec = Jvm.exec → c.code = cc → c.maxLocals = maxL → s.vm.findClass own = some m.cls → (∀ w ∈ ws, w.before av.toArray s = true) → va_K D cl tys s → sgZ zc za (sgA n h s.heap.size) s.heap.size s → va_P D cl (sgw n h ee f L Q) s.heap → va_S (sgA n h s.heap.size) s.heap s.heap [] → lv_has ls maxL (lv_args 0 av) →
      (∀ (pc : Nat) (H : Heap) (locs : List Loc) (ls : Array Slot) (v : Int32) (f1 : sg_F) (L1 : sg_L) (Q1 : sg_Q), decode cc pc = .ok (.ireturn, 1) → narrow .boolean (.int v) = .int v → va_P D cl (sgw n h ee f1 L1 Q1) H → va_S (sgA n h s.heap.size) s.heap H locs → post v f1 L1 Q1 → W p l e rm s m av.toArray below meth c H locs mc ms Qz (F0 m pc ls [.int v])) →
      W p l e rm s m av.toArray below meth c s.heap [] 0 0 Qz (F0 m 0 ls [])) :
    Met l y ws rm (sgP D cl tys n h ee zc za f L Q sz av) (sgQi D cl n h ee sz post) mc ms (sgA n h sz) := by
  refine Met.ofW (cc := cc) (maxL := maxL) (ret := some .boolean) hy hw ?_
  intro p e s m args below meth c s₁ B hml hv
  obtain ⟨rfl, hsz, hP, hK, hZ⟩ := hv
  subst hsz
  rw [lg_entry_eq]
  refine body p e s m below meth c _ _ B.exec B.bytes hml (hyc ▸ findClass_of_methodNamed B.named) (atoms_spec (ws := ws) B.pre) hK hZ hP va_S.rf (lv_entry av hav) ?_
  intro pc H locs ls v f1 L1 Q1 hd hn hP1 hS1 hp
  exact W.zret (v := v) B.exec B.bytes B.returns hn (fun t ht _ => ⟨⟨v, (f1, L1, Q1), rfl, hp, by subst ht; exact hP1⟩, hS1.F ht⟩) hS1.2.2 hd B.notSynchronized
theorem sg_ofWl {l : Launch} {y : MethodName} {ws ws' : List Cond} {rm : Room} {cc : ByteArray} {maxL : Nat} {D : va_G} {cl : List vw_C} {tys : List (ClassId × FieldType)} {n : Nat} {h : Nat → Nat} {ee : sg_E} {zc : List sg_S} {za : Nat → Nat} {f : sg_F} {L : sg_L} {Q : sg_Q} {sz : Nat} {av : List Value} {post : Int64 → sg_F → sg_L → sg_Q → Prop} {mc ms : Nat} (own : String) (hy : plainName y.cls = true) (hyc : y.cls = own) (hw : ws = Cond.code y cc maxL (some .long) :: ws') (hav : (lg_sl av).length ≤ maxL)
    (body : ∀ (p : Program) (e : Env) (s : State) (m : MethodId) (below : List Frame) (meth : Method) (c : Code) (Qz : State → Prop) (ls : Array Slot), p.tables.exec = Jvm.exec → c.code = cc → c.maxLocals = maxL → s.vm.findClass own = some m.cls → (∀ w ∈ ws, w.before av.toArray s = true) → va_K D cl tys s → sgZ zc za (sgA n h s.heap.size) s.heap.size s → va_P D cl (sgw n h ee f L Q) s.heap → va_S (sgA n h s.heap.size) s.heap s.heap [] → lv_has ls maxL (lv_args 0 av) →
      (∀ (pc : Nat) (H : Heap) (locs : List Loc) (ls : Array Slot) (v : Int64) (f1 : sg_F) (L1 : sg_L) (Q1 : sg_Q), decode cc pc = .ok (.lreturn, 1) → va_P D cl (sgw n h ee f1 L1 Q1) H → va_S (sgA n h s.heap.size) s.heap H locs → post v f1 L1 Q1 → W p l e rm s m av.toArray below meth c H locs mc ms Qz (F0 m pc ls [.long v])) →
      W p l e rm s m av.toArray below meth c s.heap [] 0 0 Qz (F0 m 0 ls [])) :
    Met l y ws rm (sgP D cl tys n h ee zc za f L Q sz av) (sgQl D cl n h ee sz post) mc ms (sgA n h sz) := by
  refine Met.ofW (cc := cc) (maxL := maxL) (ret := some .long) hy hw ?_
  intro p e s m args below meth c s₁ B hml hv
  obtain ⟨rfl, hsz, hP, hK, hZ⟩ := hv
  subst hsz
  rw [lg_entry_eq]
  refine body p e s m below meth c _ _ B.exec B.bytes hml (hyc ▸ findClass_of_methodNamed B.named) (atoms_spec (ws := ws) B.pre) hK hZ hP va_S.rf (lv_entry av hav) ?_
  intro pc H locs ls v f1 L1 Q1 hd hP1 hS1 hp
  exact W.lret (v := v) B.exec B.bytes B.returns (fun t ht _ => ⟨⟨v, (f1, L1, Q1), rfl, hp, by subst ht; exact hP1⟩, hS1.F ht⟩) hS1.2.2 hd B.notSynchronized
theorem sg_ofWv {l : Launch} {y : MethodName} {ws ws' : List Cond} {rm : Room} {cc : ByteArray} {maxL : Nat} {D : va_G} {cl : List vw_C} {tys : List (ClassId × FieldType)} {n : Nat} {h : Nat → Nat} {ee : sg_E} {zc : List sg_S} {za : Nat → Nat} {f : sg_F} {L : sg_L} {Q : sg_Q} {sz : Nat} {av : List Value} {post : sg_F → sg_L → sg_Q → Prop} {mc ms : Nat} (own : String) (hy : plainName y.cls = true) (hyc : y.cls = own) (hw : ws = Cond.code y cc maxL none :: ws') (hav : (lg_sl av).length ≤ maxL)
    (body : ∀ (p : Program) (e : Env) (s : State) (m : MethodId) (below : List Frame) (meth : Method) (c : Code) (Qz : State → Prop) (ls : Array Slot), p.tables.exec = Jvm.exec → c.code = cc → c.maxLocals = maxL → s.vm.findClass own = some m.cls → (∀ w ∈ ws, w.before av.toArray s = true) → va_K D cl tys s → sgZ zc za (sgA n h s.heap.size) s.heap.size s → va_P D cl (sgw n h ee f L Q) s.heap → va_S (sgA n h s.heap.size) s.heap s.heap [] → lv_has ls maxL (lv_args 0 av) →
      (∀ (pc : Nat) (H : Heap) (locs : List Loc) (ls : Array Slot) (f1 : sg_F) (L1 : sg_L) (Q1 : sg_Q), decode cc pc = .ok (.return_, 1) → va_P D cl (sgw n h ee f1 L1 Q1) H → va_S (sgA n h s.heap.size) s.heap H locs → post f1 L1 Q1 → W p l e rm s m av.toArray below meth c H locs mc ms Qz (F0 m pc ls [])) →
      W p l e rm s m av.toArray below meth c s.heap [] 0 0 Qz (F0 m 0 ls [])) :
    Met l y ws rm (sgP D cl tys n h ee zc za f L Q sz av) (sgQv D cl n h ee sz post) mc ms (sgA n h sz) := by
  refine Met.ofW (cc := cc) (maxL := maxL) (ret := none) hy hw ?_
  intro p e s m args below meth c s₁ B hml hv
  obtain ⟨rfl, hsz, hP, hK, hZ⟩ := hv
  subst hsz
  rw [lg_entry_eq]
  refine body p e s m below meth c _ _ B.exec B.bytes hml (hyc ▸ findClass_of_methodNamed B.named) (atoms_spec (ws := ws) B.pre) hK hZ hP va_S.rf (lv_entry av hav) ?_
  intro pc H locs ls f1 L1 Q1 hd hP1 hS1 hp
  exact W.vret B.exec B.bytes B.returns (fun t ht _ => ⟨⟨(f1, L1, Q1), rfl, hp, by subst ht; exact hP1⟩, hS1.F ht⟩) hS1.2.2 hd B.notSynchronized
end
section
/-! bounds of ints: sgB a b x says that x lies between a and b -/
abbrev sgB (a b : Int) (x : Int32) : Prop := a ≤ x.toInt ∧ x.toInt ≤ b
theorem bn_any (x : Int32) : sgB (-2147483648) 2147483647 x := by
  have h1 := x.le_toInt
  have h2 := x.toInt_lt
  exact ⟨by omega, by omega⟩
theorem bn_w {a b c d : Int} {x : Int32} (h : sgB a b x) (k : c ≤ a ∧ b ≤ d) : sgB c d x := ⟨Int.le_trans k.1 h.1, Int.le_trans h.2 k.2⟩
theorem bn_add {a b c d l u : Int} {x y : Int32} (h : sgB a b x) (g : sgB c d y) (k : (-2147483648 ≤ a + c ∧ b + d ≤ 2147483647) ∧ l ≤ a + c ∧ b + d ≤ u) : sgB l u (x + y) ∧ (x + y).toInt = x.toInt + y.toInt := by
  have e : (x + y).toInt = x.toInt + y.toInt := by
    rw [Int32.toInt_add]
    exact Int.bmod_eq_of_le (by omega) (by omega)
  exact ⟨⟨by omega, by omega⟩, e⟩
theorem bn_sub {a b c d l u : Int} {x y : Int32} (h : sgB a b x) (g : sgB c d y) (k : (-2147483648 ≤ a - d ∧ b - c ≤ 2147483647) ∧ l ≤ a - d ∧ b - c ≤ u) : sgB l u (x - y) ∧ (x - y).toInt = x.toInt - y.toInt := by
  have e : (x - y).toInt = x.toInt - y.toInt := by
    rw [Int32.toInt_sub]
    exact Int.bmod_eq_of_le (by omega) (by omega)
  exact ⟨⟨by omega, by omega⟩, e⟩
theorem bn_neg {a b l u : Int} {x : Int32} (h : sgB a b x) (k : -2147483648 < a ∧ l ≤ -b ∧ -a ≤ u) : sgB l u (-x) ∧ (-x).toInt = -x.toInt := by
  have h2 := x.toInt_lt
  have e : (-x).toInt = -x.toInt := by
    rw [Int32.toInt_neg]
    exact Int.bmod_eq_of_le (by omega) (by omega)
  exact ⟨⟨by omega, by omega⟩, e⟩
theorem bn_mul {a b c d l u : Int} {x y : Int32} (h : sgB a b x) (g : sgB c d y) (k : (0 ≤ a ∧ 0 ≤ c) ∧ b * d ≤ 2147483647 ∧ l ≤ a * c ∧ b * d ≤ u) : sgB l u (x * y) ∧ (x * y).toInt = x.toInt * y.toInt := by
  obtain ⟨⟨k1, k2⟩, k3, k4, k5⟩ := k
  have h1 : a * c ≤ x.toInt * y.toInt := Int.mul_le_mul h.1 g.1 k2 (Int.le_trans k1 h.1)
  have h2 : x.toInt * y.toInt ≤ b * d := Int.mul_le_mul h.2 g.2 (Int.le_trans k2 g.1) (Int.le_trans (Int.le_trans k1 h.1) h.2)
  have h3 : 0 ≤ x.toInt * y.toInt := Int.mul_nonneg (Int.le_trans k1 h.1) (Int.le_trans k2 g.1)
  have e : (x * y).toInt = x.toInt * y.toInt := by
    rw [Int32.toInt_mul]
    exact Int.bmod_eq_of_le (by omega) (by omega)
  rw [sgB, e]
  exact ⟨⟨Int.le_trans k4 h1, Int.le_trans h2 k5⟩, rfl⟩
/-- the sides of a branch -/
theorem bn_lt {x y : Int32} (h : x < y) : x.toInt < y.toInt := Int32.lt_iff_toInt_lt.mp h
theorem bn_nlt {x y : Int32} (h : ¬ x < y) : y.toInt ≤ x.toInt := Int.not_lt.mp (fun z => h (Int32.lt_iff_toInt_lt.mpr z))
theorem bn_le {x y : Int32} (h : x ≤ y) : x.toInt ≤ y.toInt := Int32.le_iff_toInt_le.mp h
theorem bn_nle {x y : Int32} (h : ¬ x ≤ y) : y.toInt < x.toInt := Int.not_le.mp (fun z => h (Int32.le_iff_toInt_le.mpr z))
theorem bn_ne {x y : Int32} (h : ¬ x = y) : x.toInt ≠ y.toInt := fun z => h (Int32.toInt_inj.mp z)
/-- what a side says: x below y, of x; of y -/
theorem bs_lt1 {a b c d u : Int} {x y : Int} (h : x < y) (hx : a ≤ x ∧ x ≤ b) (hy : c ≤ y ∧ y ≤ d) (k : d ≤ u + 1) : a ≤ x ∧ x ≤ u := ⟨hx.1, by omega⟩
theorem bs_lt2 {a b c d u : Int} {x y : Int} (h : x < y) (hx : a ≤ x ∧ x ≤ b) (hy : c ≤ y ∧ y ≤ d) (k : u ≤ a + 1) : u ≤ y ∧ y ≤ d := ⟨by omega, hy.2⟩
theorem bs_le1 {a b c d : Int} {x y : Int} (h : x ≤ y) (hx : a ≤ x ∧ x ≤ b) (hy : c ≤ y ∧ y ≤ d) : a ≤ x ∧ x ≤ d := ⟨hx.1, Int.le_trans h hy.2⟩
theorem bs_le2 {a b c d : Int} {x y : Int} (h : x ≤ y) (hx : a ≤ x ∧ x ≤ b) (hy : c ≤ y ∧ y ≤ d) : a ≤ y ∧ y ≤ d := ⟨Int.le_trans hx.1 h, hy.2⟩
theorem bs_eq {a b c d l u : Int} {x y : Int32} (h : x = y) (hx : sgB a b x) (hy : sgB c d y) (k : (l ≤ a ∨ l ≤ c) ∧ (b ≤ u ∨ d ≤ u)) : sgB l u x := by
  subst h
  exact ⟨by omega, by omega⟩
theorem bs_ne1 {a b c l : Int} {x y : Int32} (h : ¬ x = y) (hx : sgB a b x) (hy : sgB c c y) (k : l ≤ a + 1 ∧ c = a) : sgB l b x := by
  have := bn_ne h
  exact ⟨by omega, hx.2⟩
theorem bs_ne2 {a b c u : Int} {x y : Int32} (h : ¬ x = y) (hx : sgB a b x) (hy : sgB c c y) (k : b ≤ u + 1 ∧ c = b) : sgB a u x := by
  have := bn_ne h
  exact ⟨hx.1, by omega⟩
/-- an index -/
theorem bn_in {a b : Int} {x : Int32} {N : Nat} (h : sgB a b x) (k : 0 ≤ a ∧ b < (N : Int)) : vp_in x N := vp_in_iff.mpr ⟨by omega, by omega⟩
theorem bn_cl {a b : Int} {x : Int32} (h : sgB a b x) (k : 0 ≤ a) : ((x.toNatClampNeg : Nat) : Int) = x.toInt := by
  show ((x.toInt.toNat : Nat) : Int) = x.toInt
  omega
theorem bn_k {a b : Int} {x : Int32} {N : Nat} (h : sgB a b x) (k : 0 ≤ a ∧ b < (N : Int)) : x.toNatClampNeg < N := by
  have := bn_cl h k.1
  omega
theorem bn_max {a b c d l u : Int} {x y : Int32} (h : sgB a b x) (g : sgB c d y) (k : (l ≤ a ∨ l ≤ c) ∧ b ≤ u ∧ d ≤ u) : sgB l u (if x < y then y else x) := by
  split
  · have := bn_lt (by assumption); exact ⟨by omega, by omega⟩
  · have := bn_nlt (by assumption); exact ⟨by omega, by omega⟩
theorem bn_min {a b c d l u : Int} {x y : Int32} (h : sgB a b x) (g : sgB c d y) (k : (l ≤ a ∧ l ≤ c) ∧ (b ≤ u ∨ d ≤ u)) : sgB l u (if x < y then x else y) := by
  split
  · have := bn_lt (by assumption); exact ⟨by omega, by omega⟩
  · have := bn_nlt (by assumption); exact ⟨by omega, by omega⟩
theorem bn_abs {a b u : Int} {x : Int32} (h : sgB a b x) (k : -2147483648 < a ∧ -a ≤ u ∧ b ≤ u) : sgB 0 u (if 0 ≤ x then x else 0 - x) := by
  have z : (0 : Int32).toInt = 0 := by decide
  split
  · have := bn_le (by assumption)
    exact ⟨by omega, by omega⟩
  · have := bn_nle (by assumption)
    have e : (0 - x).toInt = 0 - x.toInt := by
      rw [Int32.toInt_sub, z]
      exact Int.bmod_eq_of_le (by omega) (by omega)
    exact ⟨by omega, by omega⟩
theorem bn_div {a b c l u : Int} {x y : Int32} (h : sgB a b x) (g : sgB c c y) (k : (0 ≤ a ∧ 0 < c) ∧ l ≤ a / c ∧ b / c ≤ u) : sgB l u (x / y) ∧ (x / y).toInt = x.toInt / c := by
  obtain ⟨⟨k1, k2⟩, k3, k4⟩ := k
  have e0 : y.toInt = c := by omega
  have e : (x / y).toInt = x.toInt / c := by
    rw [Int32.toInt_div_of_ne_right _ _ (by intro z; rw [z] at e0; have : (-1 : Int32).toInt = -1 := by decide
                                            omega), e0]
    exact Int.tdiv_eq_ediv_of_nonneg (by omega)
  rw [sgB, e]
  exact ⟨⟨Int.le_trans k3 (Int.ediv_le_ediv k2 h.1), Int.le_trans (Int.ediv_le_ediv k2 h.2) k4⟩, rfl⟩
theorem bn_rem {a b c u : Int} {x y : Int32} (h : sgB a b x) (g : sgB c c y) (k : (0 ≤ a ∧ 0 < c) ∧ c ≤ u + 1) : sgB 0 u (x - x / y * y) ∧ (x - x / y * y).toInt = x.toInt % c := by
  obtain ⟨⟨k1, k2⟩, k3⟩ := k
  have e0 : y.toInt = c := by omega
  have ed : (x / y).toInt = x.toInt / c := (bn_div (l := a / c) (u := b / c) h g ⟨⟨k1, k2⟩, Int.le_refl _, Int.le_refl _⟩).2
  have hb := x.toInt_lt
  have h0 : 0 ≤ x.toInt := by omega
  have d0 : 0 ≤ x.toInt / c := Int.ediv_nonneg h0 (by omega)
  have d1 : x.toInt / c * c ≤ x.toInt := Int.ediv_mul_le _ (by omega)
  have d2 : 0 ≤ x.toInt / c * c := Int.mul_nonneg d0 (by omega)
  have em : (x / y * y).toInt = x.toInt / c * c := by
    rw [Int32.toInt_mul, ed, e0]
    exact Int.bmod_eq_of_le (by omega) (by omega)
  have es : (x - x / y * y).toInt = x.toInt - x.toInt / c * c := by
    rw [Int32.toInt_sub, em]
    exact Int.bmod_eq_of_le (by omega) (by omega)
  have em2 : x.toInt - x.toInt / c * c = x.toInt % c := by
    rw [Int.emod_def, Int.mul_comm]
  have r0 := Int.emod_nonneg x.toInt (by omega : c ≠ 0)
  have r1 := Int.emod_lt_of_pos x.toInt k2
  rw [sgB, es, em2]
  exact ⟨⟨r0, by omega⟩, rfl⟩
theorem bn_lcmp (x y : Int64) : sgB (-1) 1 (lg_cmp x y) := by
  unfold lg_cmp
  split
  · decide
  · split <;> decide
/-- a measure that falls -/
theorem ms_0 {a b K : Int} {x : Int} (hx : a ≤ x ∧ x ≤ b) (k : b ≤ K) (hm : K - x < ((0 : Nat) : Int)) : False := by omega
theorem ms_s {K x y : Int} {n : Nat} (hm : K - x < ((n + 1 : Nat) : Int)) (e : x + 1 ≤ y) : K - y < (n : Int) := by omega
theorem ms_1 {a b K : Int} {x : Int} (hx : a ≤ x ∧ x ≤ b) (M : Nat) (k : K - a < (M : Int)) : K - x < (M : Int) := by omega
theorem md_0 {a b K : Int} {x : Int} (hx : a ≤ x ∧ x ≤ b) (k : K ≤ a) (hm : x - K < ((0 : Nat) : Int)) : False := by omega
theorem md_s {K x y : Int} {n : Nat} (hm : x - K < ((n + 1 : Nat) : Int)) (e : y + 1 ≤ x) : y - K < (n : Int) := by omega
theorem md_1 {a b K : Int} {x : Int} (hx : a ≤ x ∧ x ≤ b) (M : Nat) (k : b - K < (M : Int)) : x - K < (M : Int) := by omega
/-! the same without bounds, for a context that says enough -/
theorem bn_addI {x y : Int32} (h1 : -2147483648 ≤ x.toInt + y.toInt) (h2 : x.toInt + y.toInt ≤ 2147483647) : (x + y).toInt = x.toInt + y.toInt := by
  rw [Int32.toInt_add]
  exact Int.bmod_eq_of_le (by omega) (by omega)
theorem bn_subI {x y : Int32} (h1 : -2147483648 ≤ x.toInt - y.toInt) (h2 : x.toInt - y.toInt ≤ 2147483647) : (x - y).toInt = x.toInt - y.toInt := by
  rw [Int32.toInt_sub]
  exact Int.bmod_eq_of_le (by omega) (by omega)
theorem bn_negI {x : Int32} (h : -2147483648 < x.toInt) : (-x).toInt = -x.toInt := by
  have h2 := x.toInt_lt
  rw [Int32.toInt_neg]
  exact Int.bmod_eq_of_le (by omega) (by omega)
theorem bn_addc (x y : Int32) {n : Int} (e : y.toInt = n) (h1 : -2147483648 ≤ x.toInt + n) (h2 : x.toInt + n ≤ 2147483647) : (x + y).toInt = x.toInt + n := by
  rw [← e]
  exact bn_addI (by omega) (by omega)
theorem bn_mulI {x y : Int32} {n : Int} (e : y.toInt = n) (h1 : -2147483648 ≤ x.toInt * n) (h2 : x.toInt * n ≤ 2147483647) : (x * y).toInt = x.toInt * n := by
  rw [Int32.toInt_mul, e]
  exact Int.bmod_eq_of_le (by omega) (by omega)
theorem bn_mulJ {x y : Int32} {n : Int} (e : x.toInt = n) (h1 : -2147483648 ≤ n * y.toInt) (h2 : n * y.toInt ≤ 2147483647) : (x * y).toInt = n * y.toInt := by
  rw [Int32.toInt_mul, e]
  exact Int.bmod_eq_of_le (by omega) (by omega)
theorem bn_divI {x y : Int32} {n : Int} (h : 0 ≤ x.toInt) (e : y.toInt = n) (k : 0 < n) : (x / y).toInt = x.toInt / n :=
  (bn_div (a := 0) (b := 2147483647) (l := 0 / n) (u := 2147483647 / n) ⟨h, (bn_any x).2⟩ ⟨by omega, by omega⟩ ⟨⟨by decide, k⟩, Int.le_refl _, Int.le_refl _⟩).2
theorem bn_remI {x y : Int32} {n : Int} (h : 0 ≤ x.toInt) (e : y.toInt = n) (k : 0 < n) : (x - x / y * y).toInt = x.toInt % n :=
  (bn_rem (a := 0) (b := 2147483647) (u := n) ⟨h, (bn_any x).2⟩ ⟨by omega, by omega⟩ ⟨⟨by decide, k⟩, by omega⟩).2
theorem bn_kI {x : Int32} {N : Nat} (h1 : 0 ≤ x.toInt) (h2 : x.toInt < (N : Int)) : x.toNatClampNeg < N := by
  show x.toInt.toNat < N
  omega
theorem bn_maxI (x y : Int32) : (x.toInt < y.toInt ∧ (if x < y then y else x).toInt = y.toInt) ∨ (y.toInt ≤ x.toInt ∧ (if x < y then y else x).toInt = x.toInt) := by
  by_cases h : x < y
  · rw [if_pos h]; exact Or.inl ⟨bn_lt h, rfl⟩
  · rw [if_neg h]; exact Or.inr ⟨bn_nlt h, rfl⟩
theorem bn_minI (x y : Int32) : (x.toInt < y.toInt ∧ (if x < y then x else y).toInt = x.toInt) ∨ (y.toInt ≤ x.toInt ∧ (if x < y then x else y).toInt = y.toInt) := by
  by_cases h : x < y
  · rw [if_pos h]; exact Or.inl ⟨bn_lt h, rfl⟩
  · rw [if_neg h]; exact Or.inr ⟨bn_nlt h, rfl⟩
theorem bn_absI {x : Int32} (h : -2147483648 < x.toInt) : (0 ≤ x.toInt ∧ (if (0 : Int32) ≤ x then x else 0 - x).toInt = x.toInt) ∨ (x.toInt < 0 ∧ (if (0 : Int32) ≤ x then x else 0 - x).toInt = -x.toInt) := by
  have z : (0 : Int32).toInt = 0 := by decide
  have h2 := x.toInt_lt
  by_cases g : (0 : Int32) ≤ x
  · rw [if_pos g]
    have := bn_le g
    exact Or.inl ⟨by omega, rfl⟩
  · rw [if_neg g]
    have := bn_nle g
    refine Or.inr ⟨by omega, ?_⟩
    rw [bn_subI (by omega) (by omega), z]
    omega
theorem bn_lcmpI (x y : Int64) : ((lg_cmp x y).toInt = -1 ∧ x.toInt < y.toInt) ∨ ((lg_cmp x y).toInt = 0 ∧ x.toInt = y.toInt) ∨ ((lg_cmp x y).toInt = 1 ∧ y.toInt < x.toInt) := by
  unfold lg_cmp
  by_cases h1 : y < x
  · rw [if_pos h1]
    exact Or.inr (Or.inr ⟨by decide, Int64.lt_iff_toInt_lt.mp h1⟩)
  · rw [if_neg h1]
    by_cases h2 : x = y
    · subst h2
      exact Or.inr (Or.inl ⟨by simp, rfl⟩)
    · have h3 : ¬ y.toInt < x.toInt := fun z => h1 (Int64.lt_iff_toInt_lt.mpr z)
      have h4 : x.toInt ≠ y.toInt := fun z => h2 (Int64.toInt_inj.mp z)
      refine Or.inl ⟨?_, by omega⟩
      first | (rw [if_neg h2]; decide) | (rw [if_pos (Int64.lt_iff_toInt_lt.mpr (by omega))]; decide) | (simp [h2])
end
section
/-! names of the class's methods that are walked, out of the printed names -/
theorem goodIn_r {big : List Cond} (ws : List Cond) (ps : List Nat) (hp : ws = ps.filterMap (fun i => big[i]?)) (h : ws.all goodWord = true) : GoodIn big ws := by
  intro w hw
  have h1 := List.all_eq_true.mp h w hw
  rw [hp] at hw
  obtain ⟨i, -, hi⟩ := List.mem_filterMap.mp hw
  have hm : w ∈ big := by first | exact List.mem_of_getElem? hi | exact List.getElem?_mem hi
  exact ⟨hm, good_of_word h1⟩
theorem goodIn_app {big a b : List Cond} (ha : GoodIn big a) (hb : GoodIn big b) : GoodIn big (a ++ b) := fun w h => (List.mem_append.mp h).elim (ha w) (hb w)
def RX0 : String := "SetAgain$Chair"
def TX0 : u_T := fun k => match k with
  | 0 => ("SetAgain$Chair", "told", "[I", true)
  | 1 => ("SetAgain$Chair", "stands", "[I", true)
  | 2 => ("SetAgain$Chair", "law", "LSetAgain$Law;", true)
  | 3 => ("SetAgain$Chair", "sitters", "I", false)
  | _ => ("SetAgain$Chair", "lost", "[I", true)
abbrev wsX00 : List Cond := u_ws RX0 TX0 5
abbrev cX0_has : ByteArray := prog_2_method_2_code
def yX0_has : MethodName := ⟨RX0, "has", "(I)Z"⟩
abbrev cX0_numberOf : ByteArray := prog_2_method_6_code
def yX0_numberOf : MethodName := ⟨RX0, "numberOf", "(II)I"⟩
abbrev cX0_lossAt : ByteArray := prog_2_method_11_code
def yX0_lossAt : MethodName := ⟨RX0, "lossAt", "(III)I"⟩
def RX1 : String := "SetAgain$Changes"
def TX1 : u_T := fun k => match k with
  | 0 => ("SetAgain$Changes", "places", "[I", true)
  | 1 => ("SetAgain$Changes", "before", "[I", true)
  | 2 => ("SetAgain$Changes", "after", "[I", true)
  | 3 => ("SetAgain$Changes", "done", "I", false)
  | _ => ("SetAgain$Changes", "kept", "I", false)
def RX2 : String := "SetAgain$Deed"
def TX2 : u_T := fun k => match k with
  | 0 => ("SetAgain$Deed", "chair", "LSetAgain$Chair;", true)
  | 1 => ("SetAgain$Deed", "habits", "LSetAgain$Habits;", true)
  | 2 => ("SetAgain$Deed", "told", "[I", true)
  | 3 => ("SetAgain$Deed", "keptTold", "[I", true)
  | 4 => ("SetAgain$Deed", "keptStands", "[I", true)
  | _ => ("SetAgain$Deed", "kept", "Z", false)
def RX3 : String := "SetAgain$Desks"
def TX3 : u_T := fun k => match k with
  | 0 => ("SetAgain$Desks", "kinds", "[I", true)
  | 1 => ("SetAgain$Desks", "trace", "[I", true)
  | 2 => ("SetAgain$Desks", "kept", "I", false)
  | 3 => ("SetAgain$Desks", "ran", "I", false)
  | 4 => ("SetAgain$Desks", "kind", "I", false)
  | _ => ("SetAgain$Desks", "number", "I", false)
def RX4 : String := "SetAgain$Habits"
def TX4 : u_T := fun k => match k with
  | 0 => ("SetAgain$Habits", "chair", "LSetAgain$Chair;", true)
  | 1 => ("SetAgain$Habits", "week", "LSetAgain$Week;", true)
  | 2 => ("SetAgain$Habits", "stand", "[I", true)
  | 3 => ("SetAgain$Habits", "turns", "[I", true)
  | 4 => ("SetAgain$Habits", "spared", "[I", true)
  | 5 => ("SetAgain$Habits", "losses", "I", false)
  | 6 => ("SetAgain$Habits", "costs", "I", false)
  | 7 => ("SetAgain$Habits", "tried", "I", false)
  | 8 => ("SetAgain$Habits", "triedNear", "I", false)
  | 9 => ("SetAgain$Habits", "leaver", "I", false)
  | _ => ("SetAgain$Habits", "left", "I", false)
def RX5 : String := "SetAgain$Law"
def TX5 : u_T := fun k => match k with
  | 0 => ("SetAgain$Law", "tape", "[I", true)
  | 1 => ("SetAgain$Law", "length", "I", false)
  | 2 => ("SetAgain$Law", "holds", "Z", false)
  | 3 => ("SetAgain$Law", "draft", "[I", true)
  | 4 => ("SetAgain$Law", "code", "[I", true)
  | 5 => ("SetAgain$Law", "stack", "[I", true)
  | 6 => ("SetAgain$Law", "at", "I", false)
  | 7 => ("SetAgain$Law", "fault", "I", false)
  | 8 => ("SetAgain$Law", "drafted", "I", false)
  | _ => ("SetAgain$Law", "coded", "I", false)
abbrev wsX50 : List Cond := u_ws RX5 TX5 10
abbrev cX5_valueOf : ByteArray := prog_7_method_19_code
def yX5_valueOf : MethodName := ⟨RX5, "valueOf", "(IIII)I"⟩
abbrev cX5_operands : ByteArray := prog_7_method_20_code
def yX5_operands : MethodName := ⟨RX5, "operands", "(I)I"⟩
abbrev cX5_named : ByteArray := prog_7_method_21_code
def yX5_named : MethodName := ⟨RX5, "named", "(IIIII)I"⟩
abbrev cX5_worked : ByteArray := prog_7_method_22_code
def yX5_worked : MethodName := ⟨RX5, "worked", "(III)I"⟩
def RX6 : String := "SetAgain$Seen"
def TX6 : u_T := fun k => match k with
  | 0 => ("SetAgain$Seen", "chair", "LSetAgain$Chair;", true)
  | 1 => ("SetAgain$Seen", "row", "LSetAgain$Shelf;", false)
  | _ => ("SetAgain$Seen", "part", "I", false)
def RX7 : String := "SetAgain$Shelf"
def TX7 : u_T := fun k => match k with
  | 0 => ("SetAgain$Shelf", "elements", "[J", true)
  | 1 => ("SetAgain$Shelf", "sort", "I", false)
  | 2 => ("SetAgain$Shelf", "length", "I", false)
  | _ => ("SetAgain$Shelf", "desk", "I", false)
abbrev wsX70 : List Cond := u_ws RX7 TX7 4
def RX8 : String := "SetAgain$Still"
def TX8 : u_T := fun k => match k with
  | 0 => ("SetAgain$Still", "chair", "LSetAgain$Chair;", true)
  | 1 => ("SetAgain$Still", "week", "LSetAgain$Week;", true)
  | 2 => ("SetAgain$Still", "weight", "[I", true)
  | 3 => ("SetAgain$Still", "wanted", "[Z", true)
  | 4 => ("SetAgain$Still", "ones", "[I", true)
  | 5 => ("SetAgain$Still", "sums", "[I", true)
  | 6 => ("SetAgain$Still", "leasts", "[I", true)
  | 7 => ("SetAgain$Still", "group", "[I", true)
  | 8 => ("SetAgain$Still", "bestGroup", "[I", true)
  | 9 => ("SetAgain$Still", "sitting", "I", false)
  | 10 => ("SetAgain$Still", "free", "I", false)
  | 11 => ("SetAgain$Still", "least", "I", false)
  | _ => ("SetAgain$Still", "found", "Z", false)
abbrev wsX80 : List Cond := u_ws RX8 TX8 13
abbrev cX8_allLosses : ByteArray := prog_10_method_2_code
def yX8_allLosses : MethodName := ⟨RX8, "allLosses", "(II)I"⟩
def RX9 : String := "SetAgain$Turning"
def TX9 : u_T := fun k => match k with
  | 0 => ("SetAgain$Turning", "chair", "LSetAgain$Chair;", true)
  | 1 => ("SetAgain$Turning", "week", "LSetAgain$Week;", true)
  | _ => ("SetAgain$Turning", "ahead", "[I", true)
def RX10 : String := "SetAgain$Week"
def TX10 : u_T := fun k => match k with
  | 0 => ("SetAgain$Week", "sitters", "[I", true)
  | 1 => ("SetAgain$Week", "times", "[I", true)
  | 2 => ("SetAgain$Week", "length", "I", false)
  | _ => ("SetAgain$Week", "sat", "I", false)
abbrev wsX100 : List Cond := u_ws RX10 TX10 4
abbrev cX10_reads : ByteArray := prog_12_method_2_code
def yX10_reads : MethodName := ⟨RX10, "reads", "(LSetAgain$Shelf;I)V"⟩
def RX11 : String := "SetAgain"
def TX11 : u_T := fun k => match k with
  | 0 => ("SetAgain", "chair", "LSetAgain$Chair;", true)
  | 1 => ("SetAgain", "week", "LSetAgain$Week;", true)
  | 2 => ("SetAgain", "habits", "LSetAgain$Habits;", true)
  | 3 => ("SetAgain", "still", "LSetAgain$Still;", true)
  | 4 => ("SetAgain", "turning", "LSetAgain$Turning;", true)
  | 5 => ("SetAgain", "seen", "LSetAgain$Seen;", true)
  | 6 => ("SetAgain", "deed", "LSetAgain$Deed;", true)
  | 7 => ("SetAgain", "changes", "LSetAgain$Changes;", true)
  | 8 => ("SetAgain", "desks", "LSetAgain$Desks;", true)
  | _ => ("SetAgain", "shelves", "[LSetAgain$Shelf;", true)
abbrev wsX110 : List Cond := u_ws RX11 TX11 10
abbrev cX11_never : ByteArray := prog_1_method_9_code
def yX11_never : MethodName := ⟨RX11, "never", "(III)I"⟩
abbrev cX11_isPart : ByteArray := prog_1_method_42_code
def yX11_isPart : MethodName := ⟨RX11, "isPart", "(I)Z"⟩
abbrev cX11_isSetting : ByteArray := prog_1_method_43_code
def yX11_isSetting : MethodName := ⟨RX11, "isSetting", "(I)Z"⟩
abbrev cX11_isShelf : ByteArray := prog_1_method_44_code
def yX11_isShelf : MethodName := ⟨RX11, "isShelf", "(I)Z"⟩
abbrev cX11_isKind : ByteArray := prog_1_method_45_code
def yX11_isKind : MethodName := ⟨RX11, "isKind", "(I)Z"⟩
abbrev cX11_refusalOf : ByteArray := prog_1_method_47_code
def yX11_refusalOf : MethodName := ⟨RX11, "refusalOf", "(I)I"⟩
abbrev cX11_readWeek : ByteArray := prog_1_method_48_code
def yX11_readWeek : MethodName := ⟨RX11, "readWeek", "(I)I"⟩
def RX12 : String := "SetAgainModel"
def TX12 : u_T := fun k => match k with
  | 0 => ("SetAgainModel", "may", "[I", true)
  | 1 => ("SetAgainModel", "changeAt", "[I", true)
  | 2 => ("SetAgainModel", "changeWas", "[I", true)
  | 3 => ("SetAgainModel", "changeIs", "[I", true)
  | 4 => ("SetAgainModel", "keptMany", "I", false)
  | 5 => ("SetAgainModel", "done", "I", false)
  | 6 => ("SetAgainModel", "sitters", "I", false)
  | 7 => ("SetAgainModel", "stands", "[I", true)
  | 8 => ("SetAgainModel", "tape", "[I", true)
  | 9 => ("SetAgainModel", "tapeMany", "I", false)
  | 10 => ("SetAgainModel", "text", "[I", true)
  | 11 => ("SetAgainModel", "textMany", "I", false)
  | 12 => ("SetAgainModel", "base", "I", false)
  | 13 => ("SetAgainModel", "at", "I", false)
  | 14 => ("SetAgainModel", "ends", "I", false)
  | 15 => ("SetAgainModel", "fault", "I", false)
  | 16 => ("SetAgainModel", "opened", "I", false)
  | 17 => ("SetAgainModel", "names", "[I", true)
  | 18 => ("SetAgainModel", "lossIn", "[I", true)
  | 19 => ("SetAgainModel", "leastFrom", "[I", true)
  | 20 => ("SetAgainModel", "nearOf", "I", false)
  | 21 => ("SetAgainModel", "nearIs", "I", false)
  | 22 => ("SetAgainModel", "memorySet", "I", false)
  | 23 => ("SetAgainModel", "isMarked", "Z", false)
  | 24 => ("SetAgainModel", "wilfulOf", "I", false)
  | 25 => ("SetAgainModel", "wilfulTo", "I", false)
  | 26 => ("SetAgainModel", "isIll", "[Z", true)
  | 27 => ("SetAgainModel", "stand1", "[I", true)
  | 28 => ("SetAgainModel", "standBehind", "[I", true)
  | 29 => ("SetAgainModel", "turnsAll", "I", false)
  | 30 => ("SetAgainModel", "lossesAll", "I", false)
  | 31 => ("SetAgainModel", "turnCosts", "I", false)
  | 32 => ("SetAgainModel", "lossAt", "[I", true)
  | 33 => ("SetAgainModel", "chairOf", "[I", true)
  | 34 => ("SetAgainModel", "bestChair", "[I", true)
  | 35 => ("SetAgainModel", "leastChairs", "I", false)
  | 36 => ("SetAgainModel", "canStand", "[Z", true)
  | 37 => ("SetAgainModel", "canGoOn", "[Z", true)
  | 38 => ("SetAgainModel", "ledShifts", "I", false)
  | 39 => ("SetAgainModel", "ledTurns", "I", false)
  | 40 => ("SetAgainModel", "ledLosses", "I", false)
  | 41 => ("SetAgainModel", "ledDearest", "I", false)
  | 42 => ("SetAgainModel", "ledWho", "I", false)
  | 43 => ("SetAgainModel", "isKept", "Z", false)
  | 44 => ("SetAgainModel", "image", "[I", true)
  | 45 => ("SetAgainModel", "bodies", "I", false)
  | 46 => ("SetAgainModel", "bodyKind", "[I", true)
  | 47 => ("SetAgainModel", "trace", "[I", true)
  | 48 => ("SetAgainModel", "ran", "I", false)
  | 49 => ("SetAgainModel", "ownKind", "I", false)
  | 50 => ("SetAgainModel", "ownNumber", "I", false)
  | 51 => ("SetAgainModel", "shelf", "[I", true)
  | 52 => ("SetAgainModel", "many", "[I", true)
  | 53 => ("SetAgainModel", "items", "[J", true)
  | _ => ("SetAgainModel", "carried", "[J", true)
def wsX0_has : List Cond := .code yX0_has cX0_has 2 (some .boolean) :: ([.fieldLink RX0 28 "SetAgain$Chair" "sitters" "I"] ++ wsX00)
def wsX11_isSetting : List Cond := .code yX11_isSetting cX11_isSetting 1 (some .boolean) :: ([])
def wsX11_isShelf : List Cond := .code yX11_isShelf cX11_isShelf 1 (some .boolean) :: ([])
def wsX11_isPart : List Cond := .code yX11_isPart cX11_isPart 1 (some .boolean) :: ([])
def wsX11_refusalOf : List Cond := .code yX11_refusalOf cX11_refusalOf 2 (some .int) :: ([.fieldLink RX11 80 "SetAgain" "shelves" "[LSetAgain$Shelf;", .fieldLink RX11 100 "SetAgain$Shelf" "sort" "I"] ++ wsX110 ++ wsX70)
def wsX11_readWeek_r1 : List Cond := [Cond.fieldLink RX11 19 "SetAgain" "week" "LSetAgain$Week;", Cond.fieldLink RX11 80 "SetAgain" "shelves" "[LSetAgain$Shelf;", Cond.fieldLink RX11 12 "SetAgain" "chair" "LSetAgain$Chair;", Cond.fieldLink RX11 310 "SetAgain$Chair" "sitters" "I", Cond.methodLink RX11 209 yX11_refusalOf, Cond.instanceMethod yX11_refusalOf, Cond.selects RX11 yX11_refusalOf yX11_refusalOf, Cond.initialized RX11, Cond.code yX11_refusalOf cX11_refusalOf 2 (some .int), Cond.fieldLink RX11 100 "SetAgain$Shelf" "sort" "I", Cond.methodLink RX11 320 yX10_reads, Cond.instanceMethod yX10_reads, Cond.selects RX10 yX10_reads yX10_reads, Cond.initialized RX10, Cond.code yX10_reads cX10_reads 5 none, Cond.fieldLink RX10 18 "SetAgain$Shelf" "length" "I", Cond.methodLink RX10 24 Lib.Math.min.name, Cond.static Lib.Math.min.name, Cond.initialized "java/lang/Math", Cond.code Lib.Math.min.name Lib.Math.min.code 2 (some .int), Cond.fieldLink RX10 30 "SetAgain$Week" "length" "I", Cond.fieldLink RX10 31 "SetAgain$Week" "sat" "I", Cond.fieldLink RX10 15 "SetAgain$Week" "times" "[I", Cond.fieldLink RX10 34 "SetAgain$Shelf" "elements" "[J"]
def wsX11_readWeek_r2 : List Cond := [Cond.fieldLink RX10 9 "SetAgain$Week" "sitters" "[I"]
def wsX11_readWeek : List Cond := .code yX11_readWeek cX11_readWeek 3 (some .int) :: ((wsX11_readWeek_r1 ++ wsX11_readWeek_r2) ++ wsX110 ++ wsX00 ++ wsX70 ++ wsX100)
def wsX11_never_r1 : List Cond := [Cond.fieldLink RX11 35 "SetAgain" "still" "LSetAgain$Still;", Cond.methodLink RX11 97 yX11_isShelf, Cond.static yX11_isShelf, Cond.initialized RX11, Cond.code yX11_isShelf cX11_isShelf 1 (some .boolean), Cond.methodLink RX11 123 yX11_isPart, Cond.static yX11_isPart, Cond.code yX11_isPart cX11_isPart 1 (some .boolean), Cond.methodLink RX11 85 yX11_isSetting, Cond.static yX11_isSetting, Cond.code yX11_isSetting cX11_isSetting 1 (some .boolean), Cond.methodLink RX11 153 yX11_readWeek, Cond.instanceMethod yX11_readWeek, Cond.selects RX11 yX11_readWeek yX11_readWeek, Cond.code yX11_readWeek cX11_readWeek 3 (some .int), Cond.fieldLink RX11 19 "SetAgain" "week" "LSetAgain$Week;", Cond.fieldLink RX11 80 "SetAgain" "shelves" "[LSetAgain$Shelf;", Cond.fieldLink RX11 12 "SetAgain" "chair" "LSetAgain$Chair;", Cond.fieldLink RX11 310 "SetAgain$Chair" "sitters" "I", Cond.methodLink RX11 209 yX11_refusalOf, Cond.instanceMethod yX11_refusalOf, Cond.selects RX11 yX11_refusalOf yX11_refusalOf, Cond.code yX11_refusalOf cX11_refusalOf 2 (some .int), Cond.fieldLink RX11 100 "SetAgain$Shelf" "sort" "I"]
def wsX11_never_r2 : List Cond := [Cond.methodLink RX11 320 yX10_reads, Cond.instanceMethod yX10_reads, Cond.selects RX10 yX10_reads yX10_reads, Cond.initialized RX10, Cond.code yX10_reads cX10_reads 5 none, Cond.fieldLink RX10 18 "SetAgain$Shelf" "length" "I", Cond.methodLink RX10 24 Lib.Math.min.name, Cond.static Lib.Math.min.name, Cond.initialized "java/lang/Math", Cond.code Lib.Math.min.name Lib.Math.min.code 2 (some .int), Cond.fieldLink RX10 30 "SetAgain$Week" "length" "I", Cond.fieldLink RX10 31 "SetAgain$Week" "sat" "I", Cond.fieldLink RX10 15 "SetAgain$Week" "times" "[I", Cond.fieldLink RX10 34 "SetAgain$Shelf" "elements" "[J", Cond.fieldLink RX10 9 "SetAgain$Week" "sitters" "[I", Cond.methodLink RX11 156 yX8_allLosses, Cond.instanceMethod yX8_allLosses, Cond.selects RX8 yX8_allLosses yX8_allLosses, Cond.initialized RX8, Cond.code yX8_allLosses cX8_allLosses 5 (some .int), Cond.fieldLink RX8 38 "SetAgain$Still" "week" "LSetAgain$Week;", Cond.fieldLink RX8 42 "SetAgain$Week" "times" "[I", Cond.fieldLink RX8 34 "SetAgain$Still" "chair" "LSetAgain$Chair;", Cond.methodLink RX8 47 yX0_lossAt]
def wsX11_never_r3 : List Cond := [Cond.instanceMethod yX0_lossAt, Cond.selects RX0 yX0_lossAt yX0_lossAt, Cond.initialized RX0, Cond.code yX0_lossAt cX0_lossAt 9 (some .int), Cond.fieldLink RX0 25 "SetAgain$Chair" "lost" "[I", Cond.fieldLink RX0 21 "SetAgain$Chair" "law" "LSetAgain$Law;", Cond.fieldLink RX0 49 "SetAgain$Law" "holds" "Z", Cond.methodLink RX0 45 Lib.Math.abs.name, Cond.static Lib.Math.abs.name, Cond.code Lib.Math.abs.name Lib.Math.abs.code 1 (some .int), Cond.methodLink RX0 57 Lib.Math.min.name, Cond.methodLink RX0 36 Lib.Math.max.name, Cond.static Lib.Math.max.name, Cond.code Lib.Math.max.name Lib.Math.max.code 2 (some .int), Cond.methodLink RX0 42 yX0_numberOf, Cond.instanceMethod yX0_numberOf, Cond.selects RX0 yX0_numberOf yX0_numberOf, Cond.code yX0_numberOf cX0_numberOf 3 (some .int), Cond.fieldLink RX0 11 "SetAgain$Chair" "told" "[I", Cond.methodLink RX0 53 yX5_valueOf, Cond.instanceMethod yX5_valueOf, Cond.selects RX5 yX5_valueOf yX5_valueOf, Cond.initialized RX5, Cond.code yX5_valueOf cX5_valueOf 10 (some .int)]
def wsX11_never_r4 : List Cond := [Cond.fieldLink RX5 46 "SetAgain$Law" "coded" "I", Cond.fieldLink RX5 18 "SetAgain$Law" "code" "[I", Cond.fieldLink RX5 21 "SetAgain$Law" "stack" "[I", Cond.methodLink RX5 99 yX5_operands, Cond.static yX5_operands, Cond.code yX5_operands cX5_operands 1 (some .int), Cond.methodLink RX5 103 yX5_named, Cond.static yX5_named, Cond.code yX5_named cX5_named 5 (some .int), Cond.methodLink RX5 111 Lib.Math.abs.name, Cond.methodLink RX5 107 yX5_worked, Cond.static yX5_worked, Cond.code yX5_worked cX5_worked 3 (some .int)]
def wsX11_never : List Cond := .code yX11_never cX11_never 5 (some .int) :: ((wsX11_never_r1 ++ (wsX11_never_r2 ++ (wsX11_never_r3 ++ wsX11_never_r4))) ++ wsX110 ++ wsX00 ++ wsX70 ++ wsX100 ++ wsX80 ++ wsX50)
def wsX11_isKind : List Cond := .code yX11_isKind cX11_isKind 1 (some .boolean) :: ([])
theorem dX0_has_0 : decode cX0_has 0 = .ok (.iload_n 1, 1) := by decide +kernel
theorem dX0_has_1 : decode cX0_has 1 = .ok (.ifCond .lt 15, 3) := by decide +kernel
theorem dX0_has_4 : decode cX0_has 4 = .ok (.iload_n 1, 1) := by decide +kernel
theorem dX0_has_5 : decode cX0_has 5 = .ok (.aload_n 0, 1) := by decide +kernel
theorem dX0_has_6 : decode cX0_has 6 = .ok (.getfield 28, 3) := by decide +kernel
theorem dX0_has_9 : decode cX0_has 9 = .ok (.if_icmp .ge 7, 3) := by decide +kernel
theorem dX0_has_16 : decode cX0_has 16 = .ok (.iconst 0, 1) := by decide +kernel
theorem dX0_has_17 : decode cX0_has 17 = .ok (.ireturn, 1) := by decide +kernel
set_option maxRecDepth 20000 in
theorem ggX11_never_X11_isShelf : GoodIn wsX11_never wsX11_isShelf := goodIn_r _ [5] (by decide +kernel) (by decide +kernel)
set_option maxRecDepth 20000 in
theorem gX11_never_X11_isShelf : GoodIn wsX11_never (va_wsS RX11 97 yX11_isShelf wsX11_isShelf) := goodIn_app (goodIn_of _ (by decide +kernel)) ggX11_never_X11_isShelf
set_option maxRecDepth 20000 in
theorem ggX11_never_X11_isPart : GoodIn wsX11_never wsX11_isPart := goodIn_r _ [8] (by decide +kernel) (by decide +kernel)
set_option maxRecDepth 20000 in
theorem gX11_never_X11_isPart : GoodIn wsX11_never (va_wsS RX11 123 yX11_isPart wsX11_isPart) := goodIn_app (goodIn_of _ (by decide +kernel)) ggX11_never_X11_isPart
set_option maxRecDepth 20000 in
theorem ggX11_never_X11_isSetting : GoodIn wsX11_never wsX11_isSetting := goodIn_r _ [11] (by decide +kernel) (by decide +kernel)
set_option maxRecDepth 20000 in
theorem gX11_never_X11_isSetting : GoodIn wsX11_never (va_wsS RX11 85 yX11_isSetting wsX11_isSetting) := goodIn_app (goodIn_of _ (by decide +kernel)) ggX11_never_X11_isSetting
set_option maxRecDepth 20000 in
theorem ggX11_never_X11_readWeek : GoodIn wsX11_never wsX11_readWeek := goodIn_r _ [15, 16, 17, 18, 19, 20, 21, 22, 4, 23, 24, 25, 26, 27, 28, 29, 30, 31, 32, 33, 34, 35, 36, 37, 38, 39, 86, 87, 88, 89, 90, 91, 92, 93, 94, 95, 96, 97, 98, 99, 100, 101, 102, 103, 104, 105, 106, 107, 108] (by decide +kernel) (by decide +kernel)
set_option maxRecDepth 20000 in
theorem gX11_never_X11_readWeek : GoodIn wsX11_never (wsV RX11 153 RX11 yX11_readWeek wsX11_readWeek) := goodIn_app (goodIn_of _ (by decide +kernel)) ggX11_never_X11_readWeek
theorem dX11_never_0 : decode cX11_never 0 = .ok (.iload_n 1, 1) := by decide +kernel
theorem dX11_never_1 : decode cX11_never 1 = .ok (.invokestatic 97, 3) := by decide +kernel
theorem dX11_never_4 : decode cX11_never 4 = .ok (.ifCond .eq 17, 3) := by decide +kernel
theorem dX11_never_7 : decode cX11_never 7 = .ok (.iload_n 2, 1) := by decide +kernel
theorem dX11_never_8 : decode cX11_never 8 = .ok (.invokestatic 123, 3) := by decide +kernel
theorem dX11_never_11 : decode cX11_never 11 = .ok (.ifCond .eq 10, 3) := by decide +kernel
theorem dX11_never_14 : decode cX11_never 14 = .ok (.iload_n 3, 1) := by decide +kernel
theorem dX11_never_15 : decode cX11_never 15 = .ok (.invokestatic 85, 3) := by decide +kernel
theorem dX11_never_18 : decode cX11_never 18 = .ok (.ifCond .ne 5, 3) := by decide +kernel
theorem dX11_never_21 : decode cX11_never 21 = .ok (.iconst (-1), 1) := by decide +kernel
theorem dX11_never_22 : decode cX11_never 22 = .ok (.ireturn, 1) := by decide +kernel
theorem dX11_never_23 : decode cX11_never 23 = .ok (.aload_n 0, 1) := by decide +kernel
theorem dX11_never_24 : decode cX11_never 24 = .ok (.iload_n 1, 1) := by decide +kernel
theorem dX11_never_25 : decode cX11_never 25 = .ok (.invokevirtual 153, 3) := by decide +kernel
theorem dX11_never_28 : decode cX11_never 28 = .ok (.istore 4, 2) := by decide +kernel
theorem dX11_never_30 : decode cX11_never 30 = .ok (.iload 4, 2) := by decide +kernel
theorem dX11_never_32 : decode cX11_never 32 = .ok (.ifCond .eq 8, 3) := by decide +kernel
theorem dX11_never_35 : decode cX11_never 35 = .ok (.iload 4, 2) := by decide +kernel
theorem dX11_never_37 : decode cX11_never 37 = .ok (.goto 12, 3) := by decide +kernel
theorem dX11_never_49 : decode cX11_never 49 = .ok (.ireturn, 1) := by decide +kernel
theorem dX11_isPart_0 : decode cX11_isPart 0 = .ok (.iload_n 0, 1) := by decide +kernel
theorem dX11_isPart_1 : decode cX11_isPart 1 = .ok (.ifCond .lt 12, 3) := by decide +kernel
theorem dX11_isPart_4 : decode cX11_isPart 4 = .ok (.iload_n 0, 1) := by decide +kernel
theorem dX11_isPart_5 : decode cX11_isPart 5 = .ok (.iconst 3, 1) := by decide +kernel
theorem dX11_isPart_6 : decode cX11_isPart 6 = .ok (.if_icmp .ge 7, 3) := by decide +kernel
theorem dX11_isPart_9 : decode cX11_isPart 9 = .ok (.iconst 1, 1) := by decide +kernel
theorem dX11_isPart_10 : decode cX11_isPart 10 = .ok (.goto 4, 3) := by decide +kernel
theorem dX11_isPart_13 : decode cX11_isPart 13 = .ok (.iconst 0, 1) := by decide +kernel
theorem dX11_isPart_14 : decode cX11_isPart 14 = .ok (.ireturn, 1) := by decide +kernel
theorem dX11_isSetting_0 : decode cX11_isSetting 0 = .ok (.iload_n 0, 1) := by decide +kernel
theorem dX11_isSetting_1 : decode cX11_isSetting 1 = .ok (.ifCond .lt 13, 3) := by decide +kernel
theorem dX11_isSetting_4 : decode cX11_isSetting 4 = .ok (.iload_n 0, 1) := by decide +kernel
theorem dX11_isSetting_5 : decode cX11_isSetting 5 = .ok (.bipush 60, 2) := by decide +kernel
theorem dX11_isSetting_7 : decode cX11_isSetting 7 = .ok (.if_icmp .gt 7, 3) := by decide +kernel
theorem dX11_isSetting_10 : decode cX11_isSetting 10 = .ok (.iconst 1, 1) := by decide +kernel
theorem dX11_isSetting_11 : decode cX11_isSetting 11 = .ok (.goto 4, 3) := by decide +kernel
theorem dX11_isSetting_14 : decode cX11_isSetting 14 = .ok (.iconst 0, 1) := by decide +kernel
theorem dX11_isSetting_15 : decode cX11_isSetting 15 = .ok (.ireturn, 1) := by decide +kernel
theorem dX11_isShelf_0 : decode cX11_isShelf 0 = .ok (.iload_n 0, 1) := by decide +kernel
theorem dX11_isShelf_1 : decode cX11_isShelf 1 = .ok (.ifCond .lt 13, 3) := by decide +kernel
theorem dX11_isShelf_4 : decode cX11_isShelf 4 = .ok (.iload_n 0, 1) := by decide +kernel
theorem dX11_isShelf_5 : decode cX11_isShelf 5 = .ok (.bipush 6, 2) := by decide +kernel
theorem dX11_isShelf_7 : decode cX11_isShelf 7 = .ok (.if_icmp .ge 7, 3) := by decide +kernel
theorem dX11_isShelf_10 : decode cX11_isShelf 10 = .ok (.iconst 1, 1) := by decide +kernel
theorem dX11_isShelf_11 : decode cX11_isShelf 11 = .ok (.goto 4, 3) := by decide +kernel
theorem dX11_isShelf_14 : decode cX11_isShelf 14 = .ok (.iconst 0, 1) := by decide +kernel
theorem dX11_isShelf_15 : decode cX11_isShelf 15 = .ok (.ireturn, 1) := by decide +kernel
theorem dX11_isKind_0 : decode cX11_isKind 0 = .ok (.iload_n 0, 1) := by decide +kernel
theorem dX11_isKind_1 : decode cX11_isKind 1 = .ok (.ifCond .lt 13, 3) := by decide +kernel
theorem dX11_isKind_4 : decode cX11_isKind 4 = .ok (.iload_n 0, 1) := by decide +kernel
theorem dX11_isKind_5 : decode cX11_isKind 5 = .ok (.bipush 8, 2) := by decide +kernel
theorem dX11_isKind_7 : decode cX11_isKind 7 = .ok (.if_icmp .ge 7, 3) := by decide +kernel
theorem dX11_isKind_10 : decode cX11_isKind 10 = .ok (.iconst 1, 1) := by decide +kernel
theorem dX11_isKind_11 : decode cX11_isKind 11 = .ok (.goto 4, 3) := by decide +kernel
theorem dX11_isKind_14 : decode cX11_isKind 14 = .ok (.iconst 0, 1) := by decide +kernel
theorem dX11_isKind_15 : decode cX11_isKind 15 = .ok (.ireturn, 1) := by decide +kernel
theorem dX11_refusalOf_0 : decode cX11_refusalOf 0 = .ok (.aload_n 0, 1) := by decide +kernel
theorem dX11_refusalOf_1 : decode cX11_refusalOf 1 = .ok (.getfield 80, 3) := by decide +kernel
theorem dX11_refusalOf_4 : decode cX11_refusalOf 4 = .ok (.iload_n 1, 1) := by decide +kernel
theorem dX11_refusalOf_5 : decode cX11_refusalOf 5 = .ok (.aaload, 1) := by decide +kernel
theorem dX11_refusalOf_6 : decode cX11_refusalOf 6 = .ok (.getfield 100, 3) := by decide +kernel
theorem dX11_refusalOf_9 : decode cX11_refusalOf 9 = .ok (.iconst (-1), 1) := by decide +kernel
theorem dX11_refusalOf_10 : decode cX11_refusalOf 10 = .ok (.if_icmp .ne 6, 3) := by decide +kernel
theorem dX11_refusalOf_13 : decode cX11_refusalOf 13 = .ok (.bipush (-11), 2) := by decide +kernel
theorem dX11_refusalOf_15 : decode cX11_refusalOf 15 = .ok (.ireturn, 1) := by decide +kernel
set_option maxRecDepth 20000 in
theorem ggX11_readWeek_X11_refusalOf : GoodIn wsX11_readWeek wsX11_refusalOf := goodIn_r _ [9, 2, 10, 26, 27, 28, 29, 30, 31, 32, 33, 34, 35, 41, 42, 43, 44] (by decide +kernel) (by decide +kernel)
set_option maxRecDepth 20000 in
theorem gX11_readWeek_X11_refusalOf : GoodIn wsX11_readWeek (wsV RX11 209 RX11 yX11_refusalOf wsX11_refusalOf) := goodIn_app (goodIn_of _ (by decide +kernel)) ggX11_readWeek_X11_refusalOf
theorem dX11_readWeek_0 : decode cX11_readWeek 0 = .ok (.aload_n 0, 1) := by decide +kernel
theorem dX11_readWeek_1 : decode cX11_readWeek 1 = .ok (.iload_n 1, 1) := by decide +kernel
theorem dX11_readWeek_2 : decode cX11_readWeek 2 = .ok (.invokevirtual 209, 3) := by decide +kernel
theorem dX11_readWeek_5 : decode cX11_readWeek 5 = .ok (.istore_n 2, 1) := by decide +kernel
theorem dX11_readWeek_6 : decode cX11_readWeek 6 = .ok (.iload_n 2, 1) := by decide +kernel
theorem dX11_readWeek_7 : decode cX11_readWeek 7 = .ok (.ifCond .ne 23, 3) := by decide +kernel
theorem dX11_readWeek_30 : decode cX11_readWeek 30 = .ok (.iload_n 2, 1) := by decide +kernel
theorem dX11_readWeek_31 : decode cX11_readWeek 31 = .ok (.ireturn, 1) := by decide +kernel
abbrev vwCl : List vw_C := [(RX0, TX0, 5), (RX1, TX1, 5), (RX2, TX2, 6), (RX3, TX3, 6), (RX4, TX4, 11), (RX5, TX5, 10), (RX6, TX6, 3), (RX7, TX7, 4), (RX8, TX8, 13), (RX9, TX9, 3), (RX10, TX10, 4), (RX11, TX11, 10), (RX12, TX12, 55)]
end
section
/-! the two systems: what each cell is, and what it holds in a fresh object. Laid by a program (wip/tool) -/
abbrev tyX (ca : Nat → ClassId) : List (ClassId × FieldType) := [(ca 0, .int), (ca 1, .long), (ca 2, .boolean), (ca 3, .object "SetAgain$Shelf")]
def eX (ca : Nat → ClassId) (h : Nat → Nat) : sg_E := fun k g l r => match k with
  | 0 => .inr (11, [.ref (h 1), .ref (h 10), .ref (h 13), .ref (h 17), .ref (h 25), .ref (h 27), .ref (h 28), .ref (h 32), .ref (h 36), .ref (h 39)])
  | 1 => .inr (0, [.ref (h 2), .ref (h 3), .ref (h 4), .int (g 3), .ref (h 9)])
  | 2 => .inl (ca 0, 71, .inl g)
  | 3 => .inl (ca 0, 3, .inl g)
  | 4 => .inr (5, [.ref (h 5), .int (g 1), .int (g 2), .ref (h 6), .ref (h 7), .ref (h 8), .int (g 6), .int (g 7), .int (g 8), .int (g 9)])
  | 5 => .inl (ca 0, 120, .inl g)
  | 6 => .inl (ca 0, 121, .inl g)
  | 7 => .inl (ca 0, 121, .inl g)
  | 8 => .inl (ca 0, 122, .inl g)
  | 9 => .inl (ca 0, 1464, .inl g)
  | 10 => .inr (10, [.ref (h 11), .ref (h 12), .int (g 2), .int (g 3)])
  | 11 => .inl (ca 0, 21, .inl g)
  | 12 => .inl (ca 0, 8, .inl g)
  | 13 => .inr (4, [.ref (h 1), .ref (h 10), .ref (h 14), .ref (h 15), .ref (h 16), .int (g 5), .int (g 6), .int (g 7), .int (g 8), .int (g 9), .int (g 10)])
  | 14 => .inl (ca 0, 3, .inl g)
  | 15 => .inl (ca 0, 3, .inl g)
  | 16 => .inl (ca 0, 8, .inl g)
  | 17 => .inr (8, [.ref (h 1), .ref (h 10), .ref (h 18), .ref (h 19), .ref (h 20), .ref (h 21), .ref (h 22), .ref (h 23), .ref (h 24), .int (g 9), .int (g 10), .int (g 11), .int (g 12)])
  | 18 => .inl (ca 0, 61, .inl g)
  | 19 => .inl (ca 2, 61, .inl g)
  | 20 => .inl (ca 0, 8, .inl g)
  | 21 => .inl (ca 0, 256, .inl g)
  | 22 => .inl (ca 0, 256, .inl g)
  | 23 => .inl (ca 0, 3, .inl g)
  | 24 => .inl (ca 0, 3, .inl g)
  | 25 => .inr (9, [.ref (h 1), .ref (h 10), .ref (h 26)])
  | 26 => .inl (ca 0, 1342, .inl g)
  | 27 => .inr (6, [.ref (h 1), va_rf (r 1), .int (g 2)])
  | 28 => .inr (2, [.ref (h 1), .ref (h 13), .ref (h 29), .ref (h 30), .ref (h 31), .int (g 5)])
  | 29 => .inl (ca 0, 5, .inl g)
  | 30 => .inl (ca 0, 5, .inl g)
  | 31 => .inl (ca 0, 3, .inl g)
  | 32 => .inr (1, [.ref (h 33), .ref (h 34), .ref (h 35), .int (g 3), .int (g 4)])
  | 33 => .inl (ca 0, 40, .inl g)
  | 34 => .inl (ca 0, 40, .inl g)
  | 35 => .inl (ca 0, 40, .inl g)
  | 36 => .inr (3, [.ref (h 37), .ref (h 38), .int (g 2), .int (g 3), .int (g 4), .int (g 5)])
  | 37 => .inl (ca 0, 50, .inl g)
  | 38 => .inl (ca 0, 24, .inl g)
  | 39 => .inl (ca 3, 6, .inr (.inr (.inr (.inr (fun i => if i < 6 then some (h (40 + 2 * i)) else none)))))
  | 40 => .inr (7, [.ref (h 41), .int (g 1), .int (g 2), .int (g 3)])
  | 41 => .inl (ca 1, 60, .inr (.inl l))
  | 42 => .inr (7, [.ref (h 43), .int (g 1), .int (g 2), .int (g 3)])
  | 43 => .inl (ca 1, 60, .inr (.inl l))
  | 44 => .inr (7, [.ref (h 45), .int (g 1), .int (g 2), .int (g 3)])
  | 45 => .inl (ca 1, 60, .inr (.inl l))
  | 46 => .inr (7, [.ref (h 47), .int (g 1), .int (g 2), .int (g 3)])
  | 47 => .inl (ca 1, 60, .inr (.inl l))
  | 48 => .inr (7, [.ref (h 49), .int (g 1), .int (g 2), .int (g 3)])
  | 49 => .inl (ca 1, 60, .inr (.inl l))
  | 50 => .inr (7, [.ref (h 51), .int (g 1), .int (g 2), .int (g 3)])
  | 51 => .inl (ca 1, 60, .inr (.inl l))
  | _ => .inr (0, [])
def eM (ca : Nat → ClassId) (h : Nat → Nat) : sg_E := fun k g l r => match k with
  | 0 => .inr (12, [.ref (h 1), .ref (h 2), .ref (h 3), .ref (h 4), .int (g 4), .int (g 5), .int (g 6), .ref (h 5), .ref (h 6), .int (g 9), .ref (h 7), .int (g 11), .int (g 12), .int (g 13), .int (g 14), .int (g 15), .int (g 16), .ref (h 8), .ref (h 9), .ref (h 10), .int (g 20), .int (g 21), .int (g 22), .int (g 23), .int (g 24), .int (g 25), .ref (h 11), .ref (h 12), .ref (h 13), .int (g 29), .int (g 30), .int (g 31), .ref (h 14), .ref (h 15), .ref (h 16), .int (g 35), .ref (h 17), .ref (h 18), .int (g 38), .int (g 39), .int (g 40), .int (g 41), .int (g 42), .int (g 43), .ref (h 19), .int (g 45), .ref (h 20), .ref (h 21), .int (g 48), .int (g 49), .int (g 50), .ref (h 22), .ref (h 23), .ref (h 24), .ref (h 25)])
  | 1 => .inl (ca 0, 71, .inl g)
  | 2 => .inl (ca 0, 40, .inl g)
  | 3 => .inl (ca 0, 40, .inl g)
  | 4 => .inl (ca 0, 40, .inl g)
  | 5 => .inl (ca 0, 3, .inl g)
  | 6 => .inl (ca 0, 120, .inl g)
  | 7 => .inl (ca 0, 120, .inl g)
  | 8 => .inl (ca 0, 6, .inl g)
  | 9 => .inl (ca 0, 1281, .inl g)
  | 10 => .inl (ca 0, 1342, .inl g)
  | 11 => .inl (ca 2, 21, .inl g)
  | 12 => .inl (ca 0, 3, .inl g)
  | 13 => .inl (ca 0, 66, .inl g)
  | 14 => .inl (ca 0, 488, .inl g)
  | 15 => .inl (ca 0, 8, .inl g)
  | 16 => .inl (ca 0, 8, .inl g)
  | 17 => .inl (ca 2, 793, .inl g)
  | 18 => .inl (ca 2, 793, .inl g)
  | 19 => .inl (ca 0, 8, .inl g)
  | 20 => .inl (ca 0, 50, .inl g)
  | 21 => .inl (ca 0, 24, .inl g)
  | 22 => .inl (ca 0, 6, .inl g)
  | 23 => .inl (ca 0, 6, .inl g)
  | 24 => .inl (ca 1, 360, .inr (.inl l))
  | 25 => .inl (ca 1, 60, .inr (.inl l))
  | _ => .inr (0, [])
/-- the same while it is made: references are in the row of references -/
def eXc (ca : Nat → ClassId) : sg_E := fun k g l r => match k with
  | 0 => .inr (11, [va_rf (r 0), va_rf (r 1), va_rf (r 2), va_rf (r 3), va_rf (r 4), va_rf (r 5), va_rf (r 6), va_rf (r 7), va_rf (r 8), va_rf (r 9)])
  | 1 => .inr (0, [va_rf (r 0), va_rf (r 1), va_rf (r 2), .int (g 3), va_rf (r 4)])
  | 2 => .inl (ca 0, 71, .inl g)
  | 3 => .inl (ca 0, 3, .inl g)
  | 4 => .inr (5, [va_rf (r 0), .int (g 1), .int (g 2), va_rf (r 3), va_rf (r 4), va_rf (r 5), .int (g 6), .int (g 7), .int (g 8), .int (g 9)])
  | 5 => .inl (ca 0, 120, .inl g)
  | 6 => .inl (ca 0, 121, .inl g)
  | 7 => .inl (ca 0, 121, .inl g)
  | 8 => .inl (ca 0, 122, .inl g)
  | 9 => .inl (ca 0, 1464, .inl g)
  | 10 => .inr (10, [va_rf (r 0), va_rf (r 1), .int (g 2), .int (g 3)])
  | 11 => .inl (ca 0, 21, .inl g)
  | 12 => .inl (ca 0, 8, .inl g)
  | 13 => .inr (4, [va_rf (r 0), va_rf (r 1), va_rf (r 2), va_rf (r 3), va_rf (r 4), .int (g 5), .int (g 6), .int (g 7), .int (g 8), .int (g 9), .int (g 10)])
  | 14 => .inl (ca 0, 3, .inl g)
  | 15 => .inl (ca 0, 3, .inl g)
  | 16 => .inl (ca 0, 8, .inl g)
  | 17 => .inr (8, [va_rf (r 0), va_rf (r 1), va_rf (r 2), va_rf (r 3), va_rf (r 4), va_rf (r 5), va_rf (r 6), va_rf (r 7), va_rf (r 8), .int (g 9), .int (g 10), .int (g 11), .int (g 12)])
  | 18 => .inl (ca 0, 61, .inl g)
  | 19 => .inl (ca 2, 61, .inl g)
  | 20 => .inl (ca 0, 8, .inl g)
  | 21 => .inl (ca 0, 256, .inl g)
  | 22 => .inl (ca 0, 256, .inl g)
  | 23 => .inl (ca 0, 3, .inl g)
  | 24 => .inl (ca 0, 3, .inl g)
  | 25 => .inr (9, [va_rf (r 0), va_rf (r 1), va_rf (r 2)])
  | 26 => .inl (ca 0, 1342, .inl g)
  | 27 => .inr (6, [va_rf (r 0), va_rf (r 1), .int (g 2)])
  | 28 => .inr (2, [va_rf (r 0), va_rf (r 1), va_rf (r 2), va_rf (r 3), va_rf (r 4), .int (g 5)])
  | 29 => .inl (ca 0, 5, .inl g)
  | 30 => .inl (ca 0, 5, .inl g)
  | 31 => .inl (ca 0, 3, .inl g)
  | 32 => .inr (1, [va_rf (r 0), va_rf (r 1), va_rf (r 2), .int (g 3), .int (g 4)])
  | 33 => .inl (ca 0, 40, .inl g)
  | 34 => .inl (ca 0, 40, .inl g)
  | 35 => .inl (ca 0, 40, .inl g)
  | 36 => .inr (3, [va_rf (r 0), va_rf (r 1), .int (g 2), .int (g 3), .int (g 4), .int (g 5)])
  | 37 => .inl (ca 0, 50, .inl g)
  | 38 => .inl (ca 0, 24, .inl g)
  | 39 => .inl (ca 3, 6, .inr (.inr (.inr (.inr r))))
  | 40 => .inr (7, [va_rf (r 0), .int (g 1), .int (g 2), .int (g 3)])
  | 41 => .inl (ca 1, 60, .inr (.inl l))
  | 42 => .inr (7, [va_rf (r 0), .int (g 1), .int (g 2), .int (g 3)])
  | 43 => .inl (ca 1, 60, .inr (.inl l))
  | 44 => .inr (7, [va_rf (r 0), .int (g 1), .int (g 2), .int (g 3)])
  | 45 => .inl (ca 1, 60, .inr (.inl l))
  | 46 => .inr (7, [va_rf (r 0), .int (g 1), .int (g 2), .int (g 3)])
  | 47 => .inl (ca 1, 60, .inr (.inl l))
  | 48 => .inr (7, [va_rf (r 0), .int (g 1), .int (g 2), .int (g 3)])
  | 49 => .inl (ca 1, 60, .inr (.inl l))
  | 50 => .inr (7, [va_rf (r 0), .int (g 1), .int (g 2), .int (g 3)])
  | 51 => .inl (ca 1, 60, .inr (.inl l))
  | _ => .inr (0, [])
/-- the same while it is made: references are in the row of references -/
def eMc (ca : Nat → ClassId) : sg_E := fun k g l r => match k with
  | 0 => .inr (12, [va_rf (r 0), va_rf (r 1), va_rf (r 2), va_rf (r 3), .int (g 4), .int (g 5), .int (g 6), va_rf (r 7), va_rf (r 8), .int (g 9), va_rf (r 10), .int (g 11), .int (g 12), .int (g 13), .int (g 14), .int (g 15), .int (g 16), va_rf (r 17), va_rf (r 18), va_rf (r 19), .int (g 20), .int (g 21), .int (g 22), .int (g 23), .int (g 24), .int (g 25), va_rf (r 26), va_rf (r 27), va_rf (r 28), .int (g 29), .int (g 30), .int (g 31), va_rf (r 32), va_rf (r 33), va_rf (r 34), .int (g 35), va_rf (r 36), va_rf (r 37), .int (g 38), .int (g 39), .int (g 40), .int (g 41), .int (g 42), .int (g 43), va_rf (r 44), .int (g 45), va_rf (r 46), va_rf (r 47), .int (g 48), .int (g 49), .int (g 50), va_rf (r 51), va_rf (r 52), va_rf (r 53), va_rf (r 54)])
  | 1 => .inl (ca 0, 71, .inl g)
  | 2 => .inl (ca 0, 40, .inl g)
  | 3 => .inl (ca 0, 40, .inl g)
  | 4 => .inl (ca 0, 40, .inl g)
  | 5 => .inl (ca 0, 3, .inl g)
  | 6 => .inl (ca 0, 120, .inl g)
  | 7 => .inl (ca 0, 120, .inl g)
  | 8 => .inl (ca 0, 6, .inl g)
  | 9 => .inl (ca 0, 1281, .inl g)
  | 10 => .inl (ca 0, 1342, .inl g)
  | 11 => .inl (ca 2, 21, .inl g)
  | 12 => .inl (ca 0, 3, .inl g)
  | 13 => .inl (ca 0, 66, .inl g)
  | 14 => .inl (ca 0, 488, .inl g)
  | 15 => .inl (ca 0, 8, .inl g)
  | 16 => .inl (ca 0, 8, .inl g)
  | 17 => .inl (ca 2, 793, .inl g)
  | 18 => .inl (ca 2, 793, .inl g)
  | 19 => .inl (ca 0, 8, .inl g)
  | 20 => .inl (ca 0, 50, .inl g)
  | 21 => .inl (ca 0, 24, .inl g)
  | 22 => .inl (ca 0, 6, .inl g)
  | 23 => .inl (ca 0, 6, .inl g)
  | 24 => .inl (ca 1, 360, .inr (.inl l))
  | 25 => .inl (ca 1, 60, .inr (.inl l))
  | _ => .inr (0, [])
theorem eX_sh (ca : Nat → ClassId) (h : Nat → Nat) {t : Nat} (ht : t < 6) (g : Nat → Int32) (l : Nat → Int64) (r : Nat → Option Nat) : eX ca h (40 + 2 * t) g l r = .inr (7, [.ref (h (41 + 2 * t)), .int (g 1), .int (g 2), .int (g 3)]) := by
  rcases (show t = 0 ∨ t = 1 ∨ t = 2 ∨ t = 3 ∨ t = 4 ∨ t = 5 by omega) with rfl | rfl | rfl | rfl | rfl | rfl <;> rfl
theorem eX_el (ca : Nat → ClassId) (h : Nat → Nat) {t : Nat} (ht : t < 6) (g : Nat → Int32) (l : Nat → Int64) (r : Nat → Option Nat) : eX ca h (41 + 2 * t) g l r = .inl (ca 1, 60, .inr (.inl l)) := by
  rcases (show t = 0 ∨ t = 1 ∨ t = 2 ∨ t = 3 ∨ t = 4 ∨ t = 5 by omega) with rfl | rfl | rfl | rfl | rfl | rfl <;> rfl
def zLEAST : Nat → Int32 := fun j => match j with
  | 0 => 0
  | 1 => 0
  | 2 => 0
  | 3 => 0
  | 4 => 0
  | 5 => 1
  | 6 => 0
  | 7 => 0
  | 8 => 0
  | 9 => 0
  | 10 => 0
  | _ => 0
def zMOST : Nat → Int32 := fun j => match j with
  | 0 => 60
  | 1 => 60
  | 2 => 60
  | 3 => 9
  | 4 => 9
  | 5 => 12
  | 6 => 60
  | 7 => 12
  | 8 => 3
  | 9 => 9
  | 10 => 99
  | _ => 0
def zABOVE : Nat → Int32 := fun j => match j with
  | 0 => -1
  | 1 => 0
  | 2 => 0
  | 3 => 2
  | 4 => 1
  | 5 => 3
  | 6 => 0
  | 7 => 4
  | _ => 0
def zOWN : Nat → Int32 := fun j => match j with
  | 0 => 1
  | 1 => 10
  | 2 => 11
  | 3 => 2
  | 4 => 20
  | 5 => 0
  | 6 => 0
  | 7 => 0
  | 8 => 0
  | 9 => 30
  | 10 => 0
  | 11 => 0
  | 12 => 0
  | 13 => 41
  | 14 => 40
  | 15 => 0
  | 16 => 0
  | 17 => 0
  | 18 => 50
  | 19 => 0
  | 20 => 0
  | 21 => 0
  | 22 => 0
  | 23 => 60
  | 24 => 70
  | 25 => 0
  | 26 => 0
  | 27 => 0
  | 28 => 0
  | 29 => 80
  | 30 => 0
  | 31 => 81
  | _ => 0
def zcX : List sg_S := [("SetAgain", "LEAST", "[I", 11, zLEAST), ("SetAgain", "MOST", "[I", 11, zMOST), ("SetAgain$Desks", "ABOVE", "[I", 8, zABOVE), ("SetAgain$Desks", "OWN", "[I", 32, zOWN)]
def zcM : List sg_S := []
def f0X : sg_F := fun k => match k with
  | 2 => (sgu (sgu (sgu (sgu (fun _ => 0) 67 1) 68 1) 69 1) 70 3)
  | 3 => (sgu (sgu (sgu (fun _ => 0) 0 30) 1 30) 2 30)
  | 13 => (sgu (sgu (fun _ => 0) 7 (-1)) 9 (-1))
  | 29 => (sgu (fun _ => 0) 4 (-2))
  | 40 => (sgu (fun _ => 0) 1 (-1))
  | 42 => (sgu (fun _ => 0) 1 (-1))
  | 44 => (sgu (fun _ => 0) 1 (-1))
  | 46 => (sgu (fun _ => 0) 1 (-1))
  | 48 => (sgu (fun _ => 0) 1 (-1))
  | 50 => (sgu (fun _ => 0) 1 (-1))
  | _ => (fun _ => 0)
def f0M : sg_F := fun k => match k with
  | 0 => (sgu (sgu (sgu (sgu (fun _ => 0) 11 (-1)) 42 (-2)) 20 (-1)) 24 (-1))
  | 1 => (sgu (sgu (sgu (sgu (fun _ => 0) 67 1) 68 1) 69 1) 70 3)
  | 5 => (sgu (sgu (sgu (fun _ => 0) 0 30) 1 30) 2 30)
  | 22 => (sgu (sgu (sgu (sgu (sgu (sgu (fun _ => 0) 0 (-1)) 1 (-1)) 2 (-1)) 3 (-1)) 4 (-1)) 5 (-1))
  | _ => (fun _ => 0)
def L0 : sg_L := fun _ _ => 0
def Q0 : sg_Q := fun _ _ => none
theorem f0X_sh {t : Nat} (ht : t < 6) : f0X (40 + 2 * t) = sgu (fun _ => 0) 1 (-1) := by
  rcases (show t = 0 ∨ t = 1 ∨ t = 2 ∨ t = 3 ∨ t = 4 ∨ t = 5 by omega) with rfl | rfl | rfl | rfl | rfl | rfl <;> rfl
end
section
/-! the class, on a fresh object. Laid by a program (wip/tool) -/
set_option maxHeartbeats 4000000 in
set_option maxRecDepth 100000 in
theorem cf_X11_isPart (l : Launch) (D : va_G) (ca : Nat → ClassId) (za h : Nat → Nat) (hh : sgH 52 h) (f : sg_F) (L : sg_L) (Q : sg_Q) (x0 : Int32) (sz : Nat) : Met l yX11_isPart wsX11_isPart { frames := 0, cells := 0, slots := 0, locals := 0 } (sgP D vwCl (tyX ca) 52 h (eX ca h) zcX za f L Q sz [.int x0]) (sgQi D vwCl 52 h (eX ca h) sz (fun r f1 L1 Q1 => (f1 = f ∧ L1 = L ∧ Q1 = Q) ∧ ((r = 1 ∧ (0 ≤ x0.toInt ∧ x0.toInt ≤ 2)) ∨ (r = 0 ∧ (¬ (0 ≤ x0.toInt ∧ x0.toInt ≤ 2)))))) 0 0 (sgA 52 h sz) := by
  refine sg_ofWz (cc := cX11_isPart) (maxL := 1) RX11 (by decide) rfl rfl (Nat.le_of_ble_eq_true rfl) ?_
  intro p e s m below meth c Qz ls hx hb hml hown hts hK hZ hP hS hl hret
  have hA := sgY.self (n := 52) (h := h) (sz := s.heap.size)
  have hl : lv_has ls 1 [(0, .int x0)] := hl
  obtain ⟨H, hH⟩ : ∃ z : Heap, z = s.heap := ⟨_, rfl⟩
  obtain ⟨locs, hlo⟩ : ∃ z : List Loc, z = [] := ⟨_, rfl⟩
  have hP : va_P D vwCl (sgw 52 h (eX ca h) f L Q) H := by rw [hH]; exact hP
  have hS : va_S (sgA 52 h s.heap.size) s.heap H locs := by rw [hH, hlo]; exact hS
  suffices hgo : W p l e ({ frames := 0, cells := 0, slots := 0, locals := 0 }) s m ([.int x0] : List Value).toArray below meth c H locs 0 0 Qz (F0 m 0 ls []) by rw [hH, hlo] at hgo; exact hgo
  refine lv_iload_n hx hb dX11_isPart_0 rfl (lv_at hl 0 rfl) ?_
  refine lv_if_lt (tgt := 13) hx hb dX11_isPart_1 (by decide) (fun c => ?_) (fun c => ?_)
  · skip
    have c_1 : x0.toInt < 0 := (by have z := bn_lt c; have k1 : (0 : Int32).toInt = 0 := (by decide); omega)
    refine lv_iconst (v := 0) hx hb dX11_isPart_13 (by decide) ?_
    exact hret _ _ _ _ (0) f L Q dX11_isPart_14 (by decide) hP hS ⟨⟨rfl, rfl, rfl⟩, Or.inr (⟨rfl, by omega⟩)⟩
  · skip
    have c_2 : 0 ≤ x0.toInt := (by have z := bn_nlt c; have k1 : (0 : Int32).toInt = 0 := (by decide); omega)
    refine lv_iload_n hx hb dX11_isPart_4 rfl (lv_at hl 0 rfl) ?_
    refine lv_iconst (v := 3) hx hb dX11_isPart_5 (by decide) ?_
    refine lv_icmp_ge (tgt := 13) hx hb dX11_isPart_6 (by decide) (fun c => ?_) (fun c => ?_)
    · skip
      have c_3 : 3 ≤ x0.toInt := (by have z := bn_le c; have k1 : (3 : Int32).toInt = 3 := (by decide); omega)
      refine lv_iconst (v := 0) hx hb dX11_isPart_13 (by decide) ?_
      exact hret _ _ _ _ (0) f L Q dX11_isPart_14 (by decide) hP hS ⟨⟨rfl, rfl, rfl⟩, Or.inr (⟨rfl, by omega⟩)⟩
    · skip
      have c_4 : x0.toInt < 3 := (by have z := bn_nle c; have k1 : (3 : Int32).toInt = 3 := (by decide); omega)
      refine lv_iconst (v := 1) hx hb dX11_isPart_9 (by decide) ?_
      refine lv_goto (tgt := 14) hx hb dX11_isPart_10 (by decide) ?_
      exact hret _ _ _ _ (1) f L Q dX11_isPart_14 (by decide) hP hS ⟨⟨rfl, rfl, rfl⟩, Or.inl ⟨rfl, by omega⟩⟩

set_option maxHeartbeats 4000000 in
set_option maxRecDepth 100000 in
theorem cf_X11_isSetting (l : Launch) (D : va_G) (ca : Nat → ClassId) (za h : Nat → Nat) (hh : sgH 52 h) (f : sg_F) (L : sg_L) (Q : sg_Q) (x0 : Int32) (sz : Nat) : Met l yX11_isSetting wsX11_isSetting { frames := 0, cells := 0, slots := 0, locals := 0 } (sgP D vwCl (tyX ca) 52 h (eX ca h) zcX za f L Q sz [.int x0]) (sgQi D vwCl 52 h (eX ca h) sz (fun r f1 L1 Q1 => (f1 = f ∧ L1 = L ∧ Q1 = Q) ∧ ((r = 1 ∧ (0 ≤ x0.toInt ∧ x0.toInt ≤ 60)) ∨ (r = 0 ∧ (¬ (0 ≤ x0.toInt ∧ x0.toInt ≤ 60)))))) 0 0 (sgA 52 h sz) := by
  refine sg_ofWz (cc := cX11_isSetting) (maxL := 1) RX11 (by decide) rfl rfl (Nat.le_of_ble_eq_true rfl) ?_
  intro p e s m below meth c Qz ls hx hb hml hown hts hK hZ hP hS hl hret
  have hA := sgY.self (n := 52) (h := h) (sz := s.heap.size)
  have hl : lv_has ls 1 [(0, .int x0)] := hl
  obtain ⟨H, hH⟩ : ∃ z : Heap, z = s.heap := ⟨_, rfl⟩
  obtain ⟨locs, hlo⟩ : ∃ z : List Loc, z = [] := ⟨_, rfl⟩
  have hP : va_P D vwCl (sgw 52 h (eX ca h) f L Q) H := by rw [hH]; exact hP
  have hS : va_S (sgA 52 h s.heap.size) s.heap H locs := by rw [hH, hlo]; exact hS
  suffices hgo : W p l e ({ frames := 0, cells := 0, slots := 0, locals := 0 }) s m ([.int x0] : List Value).toArray below meth c H locs 0 0 Qz (F0 m 0 ls []) by rw [hH, hlo] at hgo; exact hgo
  refine lv_iload_n hx hb dX11_isSetting_0 rfl (lv_at hl 0 rfl) ?_
  refine lv_if_lt (tgt := 14) hx hb dX11_isSetting_1 (by decide) (fun c => ?_) (fun c => ?_)
  · skip
    have c_1 : x0.toInt < 0 := (by have z := bn_lt c; have k1 : (0 : Int32).toInt = 0 := (by decide); omega)
    refine lv_iconst (v := 0) hx hb dX11_isSetting_14 (by decide) ?_
    exact hret _ _ _ _ (0) f L Q dX11_isSetting_15 (by decide) hP hS ⟨⟨rfl, rfl, rfl⟩, Or.inr (⟨rfl, by omega⟩)⟩
  · skip
    have c_2 : 0 ≤ x0.toInt := (by have z := bn_nlt c; have k1 : (0 : Int32).toInt = 0 := (by decide); omega)
    refine lv_iload_n hx hb dX11_isSetting_4 rfl (lv_at hl 0 rfl) ?_
    refine lv_bipush (v := 60) hx hb dX11_isSetting_5 (by decide) ?_
    refine lv_icmp_gt (tgt := 14) hx hb dX11_isSetting_7 (by decide) (fun c => ?_) (fun c => ?_)
    · skip
      have c_3 : 60 < x0.toInt := (by have z := bn_lt c; have k1 : (60 : Int32).toInt = 60 := (by decide); omega)
      refine lv_iconst (v := 0) hx hb dX11_isSetting_14 (by decide) ?_
      exact hret _ _ _ _ (0) f L Q dX11_isSetting_15 (by decide) hP hS ⟨⟨rfl, rfl, rfl⟩, Or.inr (⟨rfl, by omega⟩)⟩
    · skip
      have c_4 : x0.toInt ≤ 60 := (by have z := bn_nlt c; have k1 : (60 : Int32).toInt = 60 := (by decide); omega)
      refine lv_iconst (v := 1) hx hb dX11_isSetting_10 (by decide) ?_
      refine lv_goto (tgt := 15) hx hb dX11_isSetting_11 (by decide) ?_
      exact hret _ _ _ _ (1) f L Q dX11_isSetting_15 (by decide) hP hS ⟨⟨rfl, rfl, rfl⟩, Or.inl ⟨rfl, by omega⟩⟩

set_option maxHeartbeats 4000000 in
set_option maxRecDepth 100000 in
theorem cf_X11_isShelf (l : Launch) (D : va_G) (ca : Nat → ClassId) (za h : Nat → Nat) (hh : sgH 52 h) (f : sg_F) (L : sg_L) (Q : sg_Q) (x0 : Int32) (sz : Nat) : Met l yX11_isShelf wsX11_isShelf { frames := 0, cells := 0, slots := 0, locals := 0 } (sgP D vwCl (tyX ca) 52 h (eX ca h) zcX za f L Q sz [.int x0]) (sgQi D vwCl 52 h (eX ca h) sz (fun r f1 L1 Q1 => (f1 = f ∧ L1 = L ∧ Q1 = Q) ∧ ((r = 1 ∧ (0 ≤ x0.toInt ∧ x0.toInt ≤ 5)) ∨ (r = 0 ∧ (¬ (0 ≤ x0.toInt ∧ x0.toInt ≤ 5)))))) 0 0 (sgA 52 h sz) := by
  refine sg_ofWz (cc := cX11_isShelf) (maxL := 1) RX11 (by decide) rfl rfl (Nat.le_of_ble_eq_true rfl) ?_
  intro p e s m below meth c Qz ls hx hb hml hown hts hK hZ hP hS hl hret
  have hA := sgY.self (n := 52) (h := h) (sz := s.heap.size)
  have hl : lv_has ls 1 [(0, .int x0)] := hl
  obtain ⟨H, hH⟩ : ∃ z : Heap, z = s.heap := ⟨_, rfl⟩
  obtain ⟨locs, hlo⟩ : ∃ z : List Loc, z = [] := ⟨_, rfl⟩
  have hP : va_P D vwCl (sgw 52 h (eX ca h) f L Q) H := by rw [hH]; exact hP
  have hS : va_S (sgA 52 h s.heap.size) s.heap H locs := by rw [hH, hlo]; exact hS
  suffices hgo : W p l e ({ frames := 0, cells := 0, slots := 0, locals := 0 }) s m ([.int x0] : List Value).toArray below meth c H locs 0 0 Qz (F0 m 0 ls []) by rw [hH, hlo] at hgo; exact hgo
  refine lv_iload_n hx hb dX11_isShelf_0 rfl (lv_at hl 0 rfl) ?_
  refine lv_if_lt (tgt := 14) hx hb dX11_isShelf_1 (by decide) (fun c => ?_) (fun c => ?_)
  · skip
    have c_1 : x0.toInt < 0 := (by have z := bn_lt c; have k1 : (0 : Int32).toInt = 0 := (by decide); omega)
    refine lv_iconst (v := 0) hx hb dX11_isShelf_14 (by decide) ?_
    exact hret _ _ _ _ (0) f L Q dX11_isShelf_15 (by decide) hP hS ⟨⟨rfl, rfl, rfl⟩, Or.inr (⟨rfl, by omega⟩)⟩
  · skip
    have c_2 : 0 ≤ x0.toInt := (by have z := bn_nlt c; have k1 : (0 : Int32).toInt = 0 := (by decide); omega)
    refine lv_iload_n hx hb dX11_isShelf_4 rfl (lv_at hl 0 rfl) ?_
    refine lv_bipush (v := 6) hx hb dX11_isShelf_5 (by decide) ?_
    refine lv_icmp_ge (tgt := 14) hx hb dX11_isShelf_7 (by decide) (fun c => ?_) (fun c => ?_)
    · skip
      have c_3 : 6 ≤ x0.toInt := (by have z := bn_le c; have k1 : (6 : Int32).toInt = 6 := (by decide); omega)
      refine lv_iconst (v := 0) hx hb dX11_isShelf_14 (by decide) ?_
      exact hret _ _ _ _ (0) f L Q dX11_isShelf_15 (by decide) hP hS ⟨⟨rfl, rfl, rfl⟩, Or.inr (⟨rfl, by omega⟩)⟩
    · skip
      have c_4 : x0.toInt < 6 := (by have z := bn_nle c; have k1 : (6 : Int32).toInt = 6 := (by decide); omega)
      refine lv_iconst (v := 1) hx hb dX11_isShelf_10 (by decide) ?_
      refine lv_goto (tgt := 15) hx hb dX11_isShelf_11 (by decide) ?_
      exact hret _ _ _ _ (1) f L Q dX11_isShelf_15 (by decide) hP hS ⟨⟨rfl, rfl, rfl⟩, Or.inl ⟨rfl, by omega⟩⟩

set_option maxHeartbeats 4000000 in
set_option maxRecDepth 100000 in
theorem cf_X11_isKind (l : Launch) (D : va_G) (ca : Nat → ClassId) (za h : Nat → Nat) (hh : sgH 52 h) (f : sg_F) (L : sg_L) (Q : sg_Q) (x0 : Int32) (sz : Nat) : Met l yX11_isKind wsX11_isKind { frames := 0, cells := 0, slots := 0, locals := 0 } (sgP D vwCl (tyX ca) 52 h (eX ca h) zcX za f L Q sz [.int x0]) (sgQi D vwCl 52 h (eX ca h) sz (fun r f1 L1 Q1 => (f1 = f ∧ L1 = L ∧ Q1 = Q) ∧ ((r = 1 ∧ (0 ≤ x0.toInt ∧ x0.toInt ≤ 7)) ∨ (r = 0 ∧ (¬ (0 ≤ x0.toInt ∧ x0.toInt ≤ 7)))))) 0 0 (sgA 52 h sz) := by
  refine sg_ofWz (cc := cX11_isKind) (maxL := 1) RX11 (by decide) rfl rfl (Nat.le_of_ble_eq_true rfl) ?_
  intro p e s m below meth c Qz ls hx hb hml hown hts hK hZ hP hS hl hret
  have hA := sgY.self (n := 52) (h := h) (sz := s.heap.size)
  have hl : lv_has ls 1 [(0, .int x0)] := hl
  obtain ⟨H, hH⟩ : ∃ z : Heap, z = s.heap := ⟨_, rfl⟩
  obtain ⟨locs, hlo⟩ : ∃ z : List Loc, z = [] := ⟨_, rfl⟩
  have hP : va_P D vwCl (sgw 52 h (eX ca h) f L Q) H := by rw [hH]; exact hP
  have hS : va_S (sgA 52 h s.heap.size) s.heap H locs := by rw [hH, hlo]; exact hS
  suffices hgo : W p l e ({ frames := 0, cells := 0, slots := 0, locals := 0 }) s m ([.int x0] : List Value).toArray below meth c H locs 0 0 Qz (F0 m 0 ls []) by rw [hH, hlo] at hgo; exact hgo
  refine lv_iload_n hx hb dX11_isKind_0 rfl (lv_at hl 0 rfl) ?_
  refine lv_if_lt (tgt := 14) hx hb dX11_isKind_1 (by decide) (fun c => ?_) (fun c => ?_)
  · skip
    have c_1 : x0.toInt < 0 := (by have z := bn_lt c; have k1 : (0 : Int32).toInt = 0 := (by decide); omega)
    refine lv_iconst (v := 0) hx hb dX11_isKind_14 (by decide) ?_
    exact hret _ _ _ _ (0) f L Q dX11_isKind_15 (by decide) hP hS ⟨⟨rfl, rfl, rfl⟩, Or.inr (⟨rfl, by omega⟩)⟩
  · skip
    have c_2 : 0 ≤ x0.toInt := (by have z := bn_nlt c; have k1 : (0 : Int32).toInt = 0 := (by decide); omega)
    refine lv_iload_n hx hb dX11_isKind_4 rfl (lv_at hl 0 rfl) ?_
    refine lv_bipush (v := 8) hx hb dX11_isKind_5 (by decide) ?_
    refine lv_icmp_ge (tgt := 14) hx hb dX11_isKind_7 (by decide) (fun c => ?_) (fun c => ?_)
    · skip
      have c_3 : 8 ≤ x0.toInt := (by have z := bn_le c; have k1 : (8 : Int32).toInt = 8 := (by decide); omega)
      refine lv_iconst (v := 0) hx hb dX11_isKind_14 (by decide) ?_
      exact hret _ _ _ _ (0) f L Q dX11_isKind_15 (by decide) hP hS ⟨⟨rfl, rfl, rfl⟩, Or.inr (⟨rfl, by omega⟩)⟩
    · skip
      have c_4 : x0.toInt < 8 := (by have z := bn_nle c; have k1 : (8 : Int32).toInt = 8 := (by decide); omega)
      refine lv_iconst (v := 1) hx hb dX11_isKind_10 (by decide) ?_
      refine lv_goto (tgt := 15) hx hb dX11_isKind_11 (by decide) ?_
      exact hret _ _ _ _ (1) f L Q dX11_isKind_15 (by decide) hP hS ⟨⟨rfl, rfl, rfl⟩, Or.inl ⟨rfl, by omega⟩⟩

set_option maxHeartbeats 4000000 in
set_option maxRecDepth 100000 in
theorem cf_X0_has (l : Launch) (D : va_G) (ca : Nat → ClassId) (za h : Nat → Nat) (hh : sgH 52 h) (f : sg_F) (L : sg_L) (Q : sg_Q) (x0 : Int32) (hs : f 1 3 = 0) (sz : Nat) : Met l yX0_has wsX0_has { frames := 0, cells := 0, slots := 0, locals := 0 } (sgP D vwCl (tyX ca) 52 h (eX ca h) zcX za f L Q sz [.ref (h 1), .int x0]) (sgQi D vwCl 52 h (eX ca h) sz (fun r f1 L1 Q1 => (f1 = f ∧ L1 = L ∧ Q1 = Q) ∧ ((r = 0 ∧ (True))))) 0 0 (sgA 52 h sz) := by
  refine sg_ofWz (cc := cX0_has) (maxL := 2) RX0 (by decide) rfl rfl (Nat.le_of_ble_eq_true rfl) ?_
  intro p e s m below meth c Qz ls hx hb hml hown hts hK hZ hP hS hl hret
  have hA := sgY.self (n := 52) (h := h) (sz := s.heap.size)
  have hl : lv_has ls 2 [(0, .ref (h 1)), (1, .int x0)] := hl
  obtain ⟨H, hH⟩ : ∃ z : Heap, z = s.heap := ⟨_, rfl⟩
  obtain ⟨locs, hlo⟩ : ∃ z : List Loc, z = [] := ⟨_, rfl⟩
  have hP : va_P D vwCl (sgw 52 h (eX ca h) f L Q) H := by rw [hH]; exact hP
  have hS : va_S (sgA 52 h s.heap.size) s.heap H locs := by rw [hH, hlo]; exact hS
  suffices hgo : W p l e ({ frames := 0, cells := 0, slots := 0, locals := 0 }) s m ([.ref (h 1), .int x0] : List Value).toArray below meth c H locs 0 0 Qz (F0 m 0 ls []) by rw [hH, hlo] at hgo; exact hgo
  refine lv_iload_n hx hb dX0_has_0 rfl (lv_at hl 1 rfl) ?_
  refine lv_if_lt (tgt := 16) hx hb dX0_has_1 (by decide) (fun c => ?_) (fun c => ?_)
  · skip
    have c_1 : x0.toInt < 0 := (by have z := bn_lt c; have k1 : (0 : Int32).toInt = 0 := (by decide); omega)
    refine lv_iconst (v := 0) hx hb dX0_has_16 (by decide) ?_
    exact hret _ _ _ _ (0) f L Q dX0_has_17 (by decide) hP hS ⟨⟨rfl, rfl, rfl⟩, ⟨rfl, trivial⟩⟩
  · skip
    have c_2 : 0 ≤ x0.toInt := (by have z := bn_nlt c; have k1 : (0 : Int32).toInt = 0 := (by decide); omega)
    refine lv_iload_n hx hb dX0_has_4 rfl (lv_at hl 1 rfl) ?_
    refine lv_aload_n hx hb dX0_has_5 rfl (lv_at hl 0 rfl) ?_
    refine sg_get (ci := 0) (v := .int 0) (C := RX0) (T := TX0) (N := 5) hx hb hts (by decide +kernel) hown hK hP 1 (by decide) rfl rfl 3 (by decide) (hts (.fieldLink RX0 28 "SetAgain$Chair" "sitters" "I") (by decide +kernel)) (fun _ h9 => h9) (congrArg (fun z => some (Value.int z)) (show f 1 3 = 0 from hs)) dX0_has_6 ?_
    refine lv_icmp_ge (tgt := 16) hx hb dX0_has_9 (by decide) (fun c => ?_) (fun c => ?_)
    · skip
      have c_3 : 0 ≤ x0.toInt := (by have z := bn_le c; have k1 : (0 : Int32).toInt = 0 := (by decide); omega)
      refine lv_iconst (v := 0) hx hb dX0_has_16 (by decide) ?_
      exact hret _ _ _ _ (0) f L Q dX0_has_17 (by decide) hP hS ⟨⟨rfl, rfl, rfl⟩, ⟨rfl, trivial⟩⟩
    · skip
      exfalso; have c_4 : x0.toInt < 0 := (by have z := bn_nle c; have k1 : (0 : Int32).toInt = 0 := (by decide); omega); omega

set_option maxHeartbeats 4000000 in
set_option maxRecDepth 100000 in
theorem cf_X11_refusalOf (l : Launch) (D : va_G) (ca : Nat → ClassId) (za h : Nat → Nat) (hh : sgH 52 h) (x0 : Int32) (b0 : 0 ≤ x0.toInt ∧ x0.toInt ≤ 5) (sz : Nat) : Met l yX11_refusalOf wsX11_refusalOf { frames := 0, cells := 0, slots := 0, locals := 0 } (sgP D vwCl (tyX ca) 52 h (eX ca h) zcX za f0X L0 Q0 sz [.ref (h 0), .int x0]) (sgQi D vwCl 52 h (eX ca h) sz (fun r f1 L1 Q1 => (f1 = f0X ∧ L1 = L0 ∧ Q1 = Q0) ∧ ((r = (-11) ∧ (True))))) 0 0 (sgA 52 h sz) := by
  refine sg_ofWi (cc := cX11_refusalOf) (maxL := 2) RX11 (by decide) rfl rfl (Nat.le_of_ble_eq_true rfl) ?_
  intro p e s m below meth c Qz ls hx hb hml hown hts hK hZ hP hS hl hret
  have hA := sgY.self (n := 52) (h := h) (sz := s.heap.size)
  have hl : lv_has ls 2 [(0, .ref (h 0)), (1, .int x0)] := hl
  obtain ⟨H, hH⟩ : ∃ z : Heap, z = s.heap := ⟨_, rfl⟩
  obtain ⟨locs, hlo⟩ : ∃ z : List Loc, z = [] := ⟨_, rfl⟩
  have hP : va_P D vwCl (sgw 52 h (eX ca h) f0X L0 Q0) H := by rw [hH]; exact hP
  have hS : va_S (sgA 52 h s.heap.size) s.heap H locs := by rw [hH, hlo]; exact hS
  suffices hgo : W p l e ({ frames := 0, cells := 0, slots := 0, locals := 0 }) s m ([.ref (h 0), .int x0] : List Value).toArray below meth c H locs 0 0 Qz (F0 m 0 ls []) by rw [hH, hlo] at hgo; exact hgo
  refine lv_aload_n hx hb dX11_refusalOf_0 rfl (lv_at hl 0 rfl) ?_
  refine sg_get (ci := 11) (v := .ref (h 39)) (C := RX11) (T := TX11) (N := 10) hx hb hts (by decide +kernel) hown hK hP 0 (by decide) rfl rfl 9 (by decide) (hts (.fieldLink RX11 80 "SetAgain" "shelves" "[LSetAgain$Shelf;") (by decide +kernel)) (fun _ h9 => h9) rfl dX11_refusalOf_1 ?_
  refine lv_iload_n hx hb dX11_refusalOf_4 rfl (lv_at hl 1 rfl) ?_
  obtain ⟨t_1, et_1⟩ : ∃ z : Nat, z = x0.toNatClampNeg := ⟨_, rfl⟩
  have ht_t_1 : t_1 < 6 := by rw [et_1]; exact bn_kI (by omega) (by omega)
  refine sg_aald hx hb hK hP 39 (by decide) 3 rfl rfl (i := x0) (a := (h (40 + 2 * t_1))) (vp_in_iff.mpr ⟨by omega, by omega⟩) (show (if x0.toNatClampNeg < 6 then some (h (40 + 2 * x0.toNatClampNeg)) else none) = some (h (40 + 2 * t_1)) from by rw [← et_1, if_pos ht_t_1]) dX11_refusalOf_5 ?_
  refine sg_get (ci := 7) (v := .int (-1)) (C := RX7) (T := TX7) (N := 4) hx hb hts (by decide +kernel) hown hK hP (40 + 2 * t_1) (by have := ht_t_1; omega) (eX_sh ca h ht_t_1 _ _ _) rfl 1 (by decide) (hts (.fieldLink RX11 100 "SetAgain$Shelf" "sort" "I") (by decide +kernel)) (fun _ h9 => h9) (congrArg (fun z => some (Value.int z)) (show f0X (40 + 2 * t_1) 1 = (-1) from (by rw [f0X_sh ht_t_1]; rfl))) dX11_refusalOf_6 ?_
  refine lv_iconst (v := (-1)) hx hb dX11_refusalOf_9 (by decide) ?_
  refine lv_icmp_ne (tgt := 16) hx hb dX11_refusalOf_10 (by decide) (fun c => absurd c (by decide)) (fun c => ?_)
  refine lv_bipush (v := (-11)) hx hb dX11_refusalOf_13 (by decide) ?_
  exact hret _ _ _ _ (-11) f0X L0 Q0 dX11_refusalOf_15 hP hS ⟨⟨rfl, rfl, rfl⟩, ⟨rfl, trivial⟩⟩

set_option maxHeartbeats 4000000 in
set_option maxRecDepth 100000 in
theorem cf_X11_readWeek (l : Launch) (D : va_G) (ca : Nat → ClassId) (za h : Nat → Nat) (hh : sgH 52 h) (x0 : Int32) (b0 : 0 ≤ x0.toInt ∧ x0.toInt ≤ 5) (sz : Nat) : Met l yX11_readWeek wsX11_readWeek { frames := 1, cells := 0, slots := 0, locals := 21 } (sgP D vwCl (tyX ca) 52 h (eX ca h) zcX za f0X L0 Q0 sz [.ref (h 0), .int x0]) (sgQi D vwCl 52 h (eX ca h) sz (fun r f1 L1 Q1 => (f1 = f0X ∧ L1 = L0 ∧ Q1 = Q0) ∧ ((r = (-11) ∧ (True))))) 0 0 (sgA 52 h sz) := by
  refine sg_ofWi (cc := cX11_readWeek) (maxL := 3) RX11 (by decide) rfl rfl (Nat.le_of_ble_eq_true rfl) ?_
  intro p e s m below meth c Qz ls hx hb hml hown hts hK hZ hP hS hl hret
  have hA := sgY.self (n := 52) (h := h) (sz := s.heap.size)
  have hl : lv_has ls 3 [(0, .ref (h 0)), (1, .int x0)] := hl
  obtain ⟨H, hH⟩ : ∃ z : Heap, z = s.heap := ⟨_, rfl⟩
  obtain ⟨locs, hlo⟩ : ∃ z : List Loc, z = [] := ⟨_, rfl⟩
  have hP : va_P D vwCl (sgw 52 h (eX ca h) f0X L0 Q0) H := by rw [hH]; exact hP
  have hS : va_S (sgA 52 h s.heap.size) s.heap H locs := by rw [hH, hlo]; exact hS
  suffices hgo : W p l e ({ frames := 1, cells := 0, slots := 0, locals := 21 }) s m ([.ref (h 0), .int x0] : List Value).toArray below meth c H locs 0 0 Qz (F0 m 0 ls []) by rw [hH, hlo] at hgo; exact hgo
  refine lv_aload_n hx hb dX11_readWeek_0 rfl (lv_at hl 0 rfl) ?_
  refine lv_iload_n hx hb dX11_readWeek_1 rfl (lv_at hl 1 rfl) ?_
  refine sg_calli (va_runV (As := [.int x0]) (rest := []) ⟨hx, hb, hml, hown, hts⟩ (cf_X11_refusalOf l D ca za h hh x0 (by omega) H.size) (cwV 1 hts gX11_readWeek_X11_refusalOf rfl rfl rfl (by decide +kernel) ⟨Nat.le_of_ble_eq_true rfl, Nat.le_of_ble_eq_true rfl⟩) (sg_preV (ci := 11) (C := RX11) (T := TX11) (N := 10) hA hK hP hS hZ 0 (by decide) rfl rfl) rfl rfl hl.1 rfl (lv_room (Nat.le_of_ble_eq_true rfl)) dX11_readWeek_2 ⟨Nat.le_refl _, Nat.le_refl _⟩) hA hS (fun r_4 f_1 L_2 Q_3 H locs hq hP hS => ?_)
  obtain ⟨⟨rfl, rfl, rfl⟩, hq⟩ := hq
  obtain ⟨rfl, hq⟩ := hq
  have q_5 := hq
  refine lv_istore_n (lv' := [(2, .int (-11)), (0, .ref (h 0)), (1, .int x0)]) hx hb dX11_readWeek_5 rfl hl (by decide) rfl (fun ls hl => ?_)
  refine lv_iload_n hx hb dX11_readWeek_6 rfl (lv_at hl 0 rfl) ?_
  refine lv_if_ne (tgt := 30) hx hb dX11_readWeek_7 (by decide) (fun c => ?_) (fun c => absurd c (by decide))
  refine lv_iload_n hx hb dX11_readWeek_30 rfl (lv_at hl 0 rfl) ?_
  exact hret _ _ _ _ (-11) f0X L0 Q0 dX11_readWeek_31 hP hS ⟨⟨rfl, rfl, rfl⟩, ⟨rfl, trivial⟩⟩

set_option maxHeartbeats 4000000 in
set_option maxRecDepth 100000 in
theorem cf_X11_never (l : Launch) (D : va_G) (ca : Nat → ClassId) (za h : Nat → Nat) (hh : sgH 52 h) (x0 : Int32) (x1 : Int32) (x2 : Int32) (sz : Nat) : Met l yX11_never wsX11_never { frames := 2, cells := 0, slots := 0, locals := 43 } (sgP D vwCl (tyX ca) 52 h (eX ca h) zcX za f0X L0 Q0 sz [.ref (h 0), .int x0, .int x1, .int x2]) (sgQi D vwCl 52 h (eX ca h) sz (fun r f1 L1 Q1 => True ∧ ((r = (-11) ∧ ((0 ≤ x0.toInt ∧ x0.toInt ≤ 5) ∧ (0 ≤ x1.toInt ∧ x1.toInt ≤ 2) ∧ (0 ≤ x2.toInt ∧ x2.toInt ≤ 60))) ∨ (r = (-1) ∧ (¬ ((0 ≤ x0.toInt ∧ x0.toInt ≤ 5) ∧ (0 ≤ x1.toInt ∧ x1.toInt ≤ 2) ∧ (0 ≤ x2.toInt ∧ x2.toInt ≤ 60))))))) 0 0 (sgA 52 h sz) := by
  refine sg_ofWi (cc := cX11_never) (maxL := 5) RX11 (by decide) rfl rfl (Nat.le_of_ble_eq_true rfl) ?_
  intro p e s m below meth c Qz ls hx hb hml hown hts hK hZ hP hS hl hret
  have hA := sgY.self (n := 52) (h := h) (sz := s.heap.size)
  have hl : lv_has ls 5 [(0, .ref (h 0)), (1, .int x0), (2, .int x1), (3, .int x2)] := hl
  obtain ⟨H, hH⟩ : ∃ z : Heap, z = s.heap := ⟨_, rfl⟩
  obtain ⟨locs, hlo⟩ : ∃ z : List Loc, z = [] := ⟨_, rfl⟩
  have hP : va_P D vwCl (sgw 52 h (eX ca h) f0X L0 Q0) H := by rw [hH]; exact hP
  have hS : va_S (sgA 52 h s.heap.size) s.heap H locs := by rw [hH, hlo]; exact hS
  suffices hgo : W p l e ({ frames := 2, cells := 0, slots := 0, locals := 43 }) s m ([.ref (h 0), .int x0, .int x1, .int x2] : List Value).toArray below meth c H locs 0 0 Qz (F0 m 0 ls []) by rw [hH, hlo] at hgo; exact hgo
  refine lv_iload_n hx hb dX11_never_0 rfl (lv_at hl 1 rfl) ?_
  refine sg_calli (va_runS (As := [.int x0]) (rest := []) ⟨hx, hb, hml, hown, hts⟩ (cf_X11_isShelf l D ca za h hh f0X L0 Q0 x0 H.size) (va_cwS 1 hts gX11_never_X11_isShelf rfl rfl rfl (by decide +kernel) ⟨Nat.le_of_ble_eq_true rfl, Nat.le_of_ble_eq_true rfl⟩) (sg_preS hA hK hP hS hZ) rfl rfl hl.1 rfl (lv_room (Nat.le_of_ble_eq_true rfl)) dX11_never_1 ⟨Nat.le_refl _, Nat.le_refl _⟩) hA hS (fun r_4 f_1 L_2 Q_3 H locs hq hP hS => ?_)
  obtain ⟨⟨rfl, rfl, rfl⟩, hq⟩ := hq
  rcases hq with ⟨rfl, hq⟩ | ⟨rfl, hq⟩
  · skip
    have q_5 := hq
    refine lv_if_eq (tgt := 21) hx hb dX11_never_4 (by decide) (fun c => absurd c (by decide)) (fun c => ?_)
    refine lv_iload_n hx hb dX11_never_7 rfl (lv_at hl 2 rfl) ?_
    refine sg_calli (va_runS (As := [.int x1]) (rest := []) ⟨hx, hb, hml, hown, hts⟩ (cf_X11_isPart l D ca za h hh f0X L0 Q0 x1 H.size) (va_cwS 1 hts gX11_never_X11_isPart rfl rfl rfl (by decide +kernel) ⟨Nat.le_of_ble_eq_true rfl, Nat.le_of_ble_eq_true rfl⟩) (sg_preS hA hK hP hS hZ) rfl rfl hl.1 rfl (lv_room (Nat.le_of_ble_eq_true rfl)) dX11_never_8 ⟨Nat.le_refl _, Nat.le_refl _⟩) hA hS (fun r_9 f_6 L_7 Q_8 H locs hq hP hS => ?_)
    obtain ⟨⟨rfl, rfl, rfl⟩, hq⟩ := hq
    rcases hq with ⟨rfl, hq⟩ | ⟨rfl, hq⟩
    · skip
      have q_10 := hq
      refine lv_if_eq (tgt := 21) hx hb dX11_never_11 (by decide) (fun c => absurd c (by decide)) (fun c => ?_)
      refine lv_iload_n hx hb dX11_never_14 rfl (lv_at hl 3 rfl) ?_
      refine sg_calli (va_runS (As := [.int x2]) (rest := []) ⟨hx, hb, hml, hown, hts⟩ (cf_X11_isSetting l D ca za h hh f0X L0 Q0 x2 H.size) (va_cwS 1 hts gX11_never_X11_isSetting rfl rfl rfl (by decide +kernel) ⟨Nat.le_of_ble_eq_true rfl, Nat.le_of_ble_eq_true rfl⟩) (sg_preS hA hK hP hS hZ) rfl rfl hl.1 rfl (lv_room (Nat.le_of_ble_eq_true rfl)) dX11_never_15 ⟨Nat.le_refl _, Nat.le_refl _⟩) hA hS (fun r_14 f_11 L_12 Q_13 H locs hq hP hS => ?_)
      obtain ⟨⟨rfl, rfl, rfl⟩, hq⟩ := hq
      rcases hq with ⟨rfl, hq⟩ | ⟨rfl, hq⟩
      · skip
        have q_15 := hq
        refine lv_if_ne (tgt := 23) hx hb dX11_never_18 (by decide) (fun c => ?_) (fun c => absurd c (by decide))
        refine lv_aload_n hx hb dX11_never_23 rfl (lv_at hl 0 rfl) ?_
        refine lv_iload_n hx hb dX11_never_24 rfl (lv_at hl 1 rfl) ?_
        refine sg_calli (va_runV (As := [.int x0]) (rest := []) ⟨hx, hb, hml, hown, hts⟩ (cf_X11_readWeek l D ca za h hh x0 (by omega) H.size) (cwV 1 hts gX11_never_X11_readWeek rfl rfl rfl (by decide +kernel) ⟨Nat.le_of_ble_eq_true rfl, Nat.le_of_ble_eq_true rfl⟩) (sg_preV (ci := 11) (C := RX11) (T := TX11) (N := 10) hA hK hP hS hZ 0 (by decide) rfl rfl) rfl rfl hl.1 rfl (lv_room (Nat.le_of_ble_eq_true rfl)) dX11_never_25 ⟨Nat.le_refl _, Nat.le_refl _⟩) hA hS (fun r_19 f_16 L_17 Q_18 H locs hq hP hS => ?_)
        obtain ⟨⟨rfl, rfl, rfl⟩, hq⟩ := hq
        obtain ⟨rfl, hq⟩ := hq
        have q_20 := hq
        refine lv_istore (lv' := [(4, .int (-11)), (0, .ref (h 0)), (1, .int x0), (2, .int x1), (3, .int x2)]) hx hb dX11_never_28 hl (by decide) rfl (fun ls hl => ?_)
        refine lv_iload hx hb dX11_never_30 (lv_at hl 0 rfl) ?_
        refine lv_if_eq (tgt := 40) hx hb dX11_never_32 (by decide) (fun c => absurd c (by decide)) (fun c => ?_)
        refine lv_iload hx hb dX11_never_35 (lv_at hl 0 rfl) ?_
        refine lv_goto (tgt := 49) hx hb dX11_never_37 (by decide) ?_
        exact hret _ _ _ _ (-11) f0X L0 Q0 dX11_never_49 hP hS ⟨trivial, Or.inl ⟨rfl, by omega⟩⟩
      · skip
        have q_21 := hq
        refine lv_if_ne (tgt := 23) hx hb dX11_never_18 (by decide) (fun c => absurd c (by decide)) (fun c => ?_)
        refine lv_iconst (v := (-1)) hx hb dX11_never_21 (by decide) ?_
        exact hret _ _ _ _ (-1) f0X L0 Q0 dX11_never_22 hP hS ⟨trivial, Or.inr (⟨rfl, by omega⟩)⟩
    · skip
      have q_22 := hq
      refine lv_if_eq (tgt := 21) hx hb dX11_never_11 (by decide) (fun c => ?_) (fun c => absurd c (by decide))
      refine lv_iconst (v := (-1)) hx hb dX11_never_21 (by decide) ?_
      exact hret _ _ _ _ (-1) f0X L0 Q0 dX11_never_22 hP hS ⟨trivial, Or.inr (⟨rfl, by omega⟩)⟩
  · skip
    have q_23 := hq
    refine lv_if_eq (tgt := 21) hx hb dX11_never_4 (by decide) (fun c => ?_) (fun c => absurd c (by decide))
    refine lv_iconst (v := (-1)) hx hb dX11_never_21 (by decide) ?_
    exact hret _ _ _ _ (-1) f0X L0 Q0 dX11_never_22 hP hS ⟨trivial, Or.inr (⟨rfl, by omega⟩)⟩
end
