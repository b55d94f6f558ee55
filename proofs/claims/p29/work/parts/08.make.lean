/-! A system while it is made: the cells so far lie at the addresses of a list; new cells come behind -/
def sgl (a : List Nat) : Nat → Nat := fun i => a.getD i 0
theorem sgl_old {a : List Nat} {q i : Nat} (h : i < a.length) : sgl (a ++ [q]) i = sgl a i := by
  unfold sgl
  rw [List.getD_eq_getElem?_getD, List.getD_eq_getElem?_getD, List.getElem?_append_left h]
theorem sgl_new {a : List Nat} {q : Nat} : sgl (a ++ [q]) a.length = q := by
  unfold sgl
  rw [List.getD_eq_getElem?_getD, List.getElem?_append_right (Nat.le_refl _), Nat.sub_self]
  rfl
theorem mk_push {n : Nat} {a : List Nat} {q : Nat} {e : sg_E} {f : sg_F} {L : sg_L} {Q : sg_Q} (hn : a.length = n) : sgw n (sgl a) e f L Q ++ [(q, e n (f n) (L n) (Q n))] = sgw (n + 1) (sgl (a ++ [q])) e f L Q := by
  subst hn
  unfold sgw
  rw [List.range_succ, List.map_append]
  congr 1
  · apply List.map_congr_left
    intro k hk
    rw [sgl_old (List.mem_range.mp hk)]
  · show _ = [(sgl (a ++ [q]) a.length, _)]
    rw [sgl_new]
theorem mk_H {A : Nat → Prop} {n : Nat} {h : Nat → Nat} {e : sg_E} {f : sg_F} {L : sg_L} {Q : sg_Q} (hD : va_D A (sgw n h e f L Q)) : sgH n h := fun i j hi hj hij => hD.1 i j _ _ (sgw_at hi) (sgw_at hj) hij
theorem mk_Y {A : Nat → Prop} {n : Nat} {h : Nat → Nat} {e : sg_E} {f : sg_F} {L : sg_L} {Q : sg_Q} {sz : Nat} (hD : va_D A (sgw n h e f L Q)) (hA : ∀ q, sz ≤ q → A q) : sgY A n h sz := ⟨fun k hk => hD.2 k _ (sgw_at hk), hA⟩
section MKR
variable {p : Program} {l : Launch} {e : Env} {R : Room} {s : State} {m : MethodId} {args : Array Value} {below : List Frame} {meth : Method} {c : Code} {H : Heap} {locs : List Loc} {cells slots : Nat} {Qz : State → Prop}
variable {cc : ByteArray} {pc : Nat} {ls : Array Slot} {rest : List Value} {D : va_G} {cl : List vw_C} {tys : List (ClassId × FieldType)} {n : Nat} {a : List Nat} {ee : sg_E} {f : sg_F} {L : sg_L} {Q : sg_Q} {A : Nat → Prop}
theorem mk_new (hx : p.tables.exec = Jvm.exec) (hb : c.code = cc) {own C : String} {T : u_T} {N ci index : Nat} {Ts : List Cond} (hts : ∀ w ∈ Ts, w.before args s = true) (hin : ∀ w ∈ u_ws C T N, w ∈ Ts) (ty : Nat → FieldType) (hty : ∀ k, k < N → parseFieldDescriptor (T k).2.2.1 = some (ty k)) (hown : s.vm.findClass own = some m.cls) (hcl : (Cond.classLink own index C).before args s = true) (hinst : (Cond.instantiable C N).before args s = true) (hini : (Cond.initialized C).before args s = true)
    (hn : a.length = n) (hA : ∀ q, s.heap.size ≤ q → A q) (hK : va_K D cl tys s) (hP : va_P D cl (sgw n (sgl a) ee f L Q) H) (hD : va_D A (sgw n (sgl a) ee f L Q)) (hS : va_S A s.heap H locs) (hc : cl[ci]? = some (C, T, N)) {fs : List Value} (he : ee n (f n) (L n) (Q n) = .inr (ci, fs)) (hfs : ∀ j, j < N → defaultValue (ty j) = vp_V fs j) (hcells : cells + 1 ≤ R.cells) (hslots : slots + N ≤ R.slots) (hdg : decode cc pc = .ok (.new index, 3))
    (kk : ∀ (q : Nat) (H1 : Heap), va_P D cl (sgw (n + 1) (sgl (a ++ [q])) ee f L Q) H1 → va_D A (sgw (n + 1) (sgl (a ++ [q])) ee f L Q) → va_S A s.heap H1 locs → W p l e R s m args below meth c H1 locs (cells + 1) (slots + N) Qz (F0 m (pc + 3) ls (.ref q :: rest))) : W p l e R s m args below meth c H locs cells slots Qz (F0 m pc ls rest) :=
  va_new hx hb hts hin ty hty hown hcl hinst hini hK hP hD hS hA hc hfs hcells hslots hdg (fun q H1 hP1 hD1 hS1 => kk q H1 (by rw [← he, mk_push hn] at hP1; exact hP1) (by rw [← he, mk_push hn] at hD1; exact hD1) hS1)
theorem mk_newa (hx : p.tables.exec = Jvm.exec) (hb : c.code = cc) {atype : ArrayType} (harr : (Cond.arrayClass (newarray.typeOf atype)).before args s = true) {ty : FieldType} (hty : newarray.typeOf atype = ty) (hnr : ∀ cA : ClassId, va_RA s cA ty → s.vm.findClass ("[" ++ ty.toString) = some cA) (hn : a.length = n) (hA : ∀ q, s.heap.size ≤ q → A q) (hK : va_K D cl tys s) (hP : va_P D cl (sgw n (sgl a) ee f L Q) H) (hD : va_D A (sgw n (sgl a) ee f L Q)) (hS : va_S A s.heap H locs)
    (t0 : Nat) {cA : ClassId} (ht : tys[t0]? = some (cA, ty)) {ln : Int32} {N' : Nat} {a0 : vp_A} (he : ee n (f n) (L n) (Q n) = .inl (cA, a0)) (ha : ∀ cA : ClassId, vp_cell cA a0 = arrV cA N' (fun _ => defaultValue ty)) (hlt : ¬ ln < 0) (hN : ln.toNatClampNeg = N') (hbytes : N' * componentBytes ty ≤ 536870912) (hcells : cells + 1 ≤ R.cells) (hslots : slots + N' ≤ R.slots) (hdg : decode cc pc = .ok (.newarray atype, 2))
    (kk : ∀ (q : Nat) (H1 : Heap), va_P D cl (sgw (n + 1) (sgl (a ++ [q])) ee f L Q) H1 → va_D A (sgw (n + 1) (sgl (a ++ [q])) ee f L Q) → va_S A s.heap H1 locs → W p l e R s m args below meth c H1 locs (cells + 1) (slots + N') Qz (F0 m (pc + 2) ls (.ref q :: rest))) : W p l e R s m args below meth c H locs cells slots Qz (F0 m pc ls (.int ln :: rest)) :=
  va_newa hx hb harr hty hK hP hD hS hA ha hlt hN hbytes hcells hslots hdg (fun q cA' H1 hK1 hP1 hD1 hS1 => by
    have h1 := hnr cA' (hK1.2 tys.length (cA', ty) (by rw [List.getElem?_append_right (Nat.le_refl _), Nat.sub_self]; rfl)).2
    have h2 := hnr cA (hK.2 t0 _ ht).2
    have hcc : cA' = cA := Option.some.inj (h1.symm.trans h2)
    subst hcc
    exact kk q H1 (by rw [← he, mk_push hn] at hP1; exact hP1) (by rw [← he, mk_push hn] at hD1; exact hD1) hS1)
theorem mk_newq (hx : p.tables.exec = Jvm.exec) (hb : c.code = cc) {own C : String} {index : Nat} (hown : s.vm.findClass own = some m.cls) (hclink : (Cond.classLink own index C).before args s = true) (hover : va_AO C s) (hn : a.length = n) (hA : ∀ q, s.heap.size ≤ q → A q) (hK : va_K D cl tys s) (hP : va_P D cl (sgw n (sgl a) ee f L Q) H) (hD : va_D A (sgw n (sgl a) ee f L Q)) (hS : va_S A s.heap H locs)
    (t0 : Nat) {cA : ClassId} (ht : tys[t0]? = some (cA, .object C)) {ln : Int32} {N' : Nat} (he : ee n (f n) (L n) (Q n) = .inl (cA, N', .inr (.inr (.inr (.inr (fun _ => none)))))) (hlt : ¬ ln < 0) (hN : ln.toNatClampNeg = N') (hbytes : N' * 4 ≤ 536870912) (hcells : cells + 1 ≤ R.cells) (hslots : slots + N' ≤ R.slots) (hdg : decode cc pc = .ok (.anewarray index, 3))
    (kk : ∀ (q : Nat) (H1 : Heap), va_P D cl (sgw (n + 1) (sgl (a ++ [q])) ee f L Q) H1 → va_D A (sgw (n + 1) (sgl (a ++ [q])) ee f L Q) → va_S A s.heap H1 locs → W p l e R s m args below meth c H1 locs (cells + 1) (slots + N') Qz (F0 m (pc + 3) ls (.ref q :: rest))) : W p l e R s m args below meth c H locs cells slots Qz (F0 m pc ls (.int ln :: rest)) :=
  va_newq hx hb hown hclink hover hK hP hD hS hA hlt hN hbytes hcells hslots hdg (fun q cA' H1 hK1 hP1 hD1 hS1 => by
    obtain ⟨k1, c1, -, -, -, h1⟩ := (hK1.2 tys.length (cA', .object C) (by rw [List.getElem?_append_right (Nat.le_refl _), Nat.sub_self]; rfl)).2
    obtain ⟨k2, c2, -, -, -, h2⟩ := (hK.2 t0 _ ht).2
    have hcc : cA' = cA := Option.some.inj (h1.symm.trans h2)
    subst hcc
    exact kk q H1 (by rw [← he, mk_push hn] at hP1; exact hP1) (by rw [← he, mk_push hn] at hD1; exact hD1) hS1)
/-- a final field that holds a reference, in a constructor -/
theorem mk_putF (hx : p.tables.exec = Jvm.exec) (hb : c.code = cc) {own ref C : String} {T : u_T} {N ci index : Nat} {Ts : List Cond} (hts : ∀ w ∈ Ts, w.before args s = true) (hin : ∀ w ∈ u_ws C T N, w ∈ Ts) (ty0 : Nat → FieldType) (hty : ∀ k, k < N → parseFieldDescriptor (T k).2.2.1 = some (ty0 k)) (hnm : ∀ a, a < N → ∀ b, b < N → a ≠ b → (T a).2.1 ≠ (T b).2.1) (hown : s.vm.findClass own = some m.cls) (hK : va_K D cl tys s) (hP : va_P D cl (sgw n (sgl a) ee f L Q) H) (hD : va_D A (sgw n (sgl a) ee f L Q)) (hS : va_S A s.heap H locs) (k : Nat) (hk : k < n) {fs : List Value} (he : ee k (f k) (L k) (Q k) = .inr (ci, fs)) (hc : cl[ci]? = some (C, T, N)) (j : Nat) (hj : j < N) (hlink : (Cond.fieldLink own index ref (T j).2.1 (T j).2.2.1).before args s = true) (hsame : ∀ x, s.fieldFound? (T j).1 (T j).2.1 (T j).2.2.1 = some x → s.fieldFound? ref (T j).2.1 (T j).2.2.1 = some x) (hfin : (T j).2.2.2 = true) (hin2 : meth.name = "<init>") (hdecl : (T j).1 = own) {ty : FieldType} {q : Nat} (he2 : ee k (f k) (L k) (sgu (Q k) j (some q)) = .inr (ci, fs.set j (.ref q))) (hd : parseFieldDescriptor (T j).2.2.1 = some ty) (hn : narrow ty (.ref q) = .ref q) (hfit : fits ty (.ref q) = true) (hl : j < fs.length)
    (hdg : decode cc pc = .ok (.putfield index, 3)) (kk : ∀ (Q1 : sg_Q) (H1 : Heap) (locs1 : List Loc), Q1 = sg_up Q k (sgu (Q k) j (some q)) → va_P D cl (sgw n (sgl a) ee f L Q1) H1 → va_D A (sgw n (sgl a) ee f L Q1) → va_S A s.heap H1 locs1 → W p l e R s m args below meth c H1 locs1 cells slots Qz (F0 m (pc + 3) ls rest)) : W p l e R s m args below meth c H locs cells slots Qz (F0 m pc ls (.ref q :: .ref (sgl a k) :: rest)) :=
  va_putF hx hb hts hin ty0 hty hnm hown hK hP hD hS k (by rw [sgw_at hk, he]) hc j hj hlink hsame hfin hin2 hdecl hd hn hfit hl hdg (fun H1 locs1 hP1 hD1 hS1 => kk _ H1 locs1 rfl (by
    rw [← he2, sgw_set hk, sg_up_id, sg_up_id] at hP1
    exact hP1) (by
    rw [← he2, sgw_set hk, sg_up_id, sg_up_id] at hD1
    exact hD1) hS1)
theorem mk_va_up (g : Nat → Option Nat) (j : Nat) (x : Option Nat) : va_up g j x = sgu g j x := by
  funext i
  by_cases h : i = j
  · subst h; rw [sgu_s]; exact if_pos rfl
  · rw [sgu_n h]; exact if_neg h
theorem mk_astq (hx : p.tables.exec = Jvm.exec) (hb : c.code = cc) (hK : va_K D cl tys s) (hP : va_P D cl (sgw n (sgl a) ee f L Q) H) (hD : va_D A (sgw n (sgl a) ee f L Q)) (hS : va_S A s.heap H locs) (k t0 kv ci : Nat) (hk : k < n) (hkv : kv < n) {cA : ClassId} {r : vw_C} {N v : Nat} {vs : List Value} (he : ∀ g : Nat → Option Nat, ee k (f k) (L k) g = .inl (cA, N, .inr (.inr (.inr (.inr g))))) (ht : tys[t0]? = some (cA, .object r.1)) (hv : ee kv (f kv) (L kv) (Q kv) = .inr (ci, vs)) (hva : sgl a kv = v) (hc : cl[ci]? = some r) {i : Int32} (hin : vp_in i N) (hdg : decode cc pc = .ok (.aastore, 1))
    (kk : ∀ (Q1 : sg_Q) (H1 : Heap) (locs1 : List Loc), Q1 = sg_up Q k (sgu (Q k) i.toNatClampNeg (some v)) → va_P D cl (sgw n (sgl a) ee f L Q1) H1 → va_D A (sgw n (sgl a) ee f L Q1) → va_S A s.heap H1 locs1 → W p l e R s m args below meth c H1 locs1 cells slots Qz (F0 m (pc + 1) ls rest)) : W p l e R s m args below meth c H locs cells slots Qz (F0 m pc ls (.ref v :: .int i :: .ref (sgl a k) :: rest)) :=
  va_astq hx hb hK hP hD hS k t0 kv ci (by rw [sgw_at hk, he]) ht (by rw [sgw_at hkv, hv, hva]) hc hin hdg (fun H1 locs1 hP1 hD1 hS1 => kk _ H1 locs1 rfl (by
    rw [mk_va_up, ← he, sgw_set hk, sg_up_id, sg_up_id] at hP1
    exact hP1) (by
    rw [mk_va_up, ← he, sgw_set hk, sg_up_id, sg_up_id] at hD1
    exact hD1) hS1)
end MKR
/-- constructors of one nest, called across classes: (class, place in its constant pool, constructor, host) -/
def mkN : List (String × Nat × MethodName × String) := [(RX0, 20, yX5_init, RX11), (RX11, 18, yX10_init, RX11), (RX11, 66, yX1_init, RX11), (RX11, 73, yX3_init, RX11), (RX11, 84, yX7_init, RX11)]
def mkNs (U : State) : Prop := ∀ q ∈ mkN, va_Nw (.methodLinkNest q.1 q.2.1 q.2.2.1 q.2.2.2) U
/-- a constructor's start -/
def mkP (D : va_G) (cl : List vw_C) (tys : List (ClassId × FieldType)) (n : Nat) (a : List Nat) (e : sg_E) (f : sg_F) (L : sg_L) (Q : sg_Q) (over : List String) (sz : Nat) (av : List Value) : Array Value → State → Prop := va_Pc av (fun U => U.heap.size = sz ∧ va_P D cl (sgw n (sgl a) e f L Q) U.heap ∧ va_K D cl tys U ∧ va_D (fun _ => True) (sgw n (sgl a) e f L Q) ∧ (∀ C ∈ over, va_AO C U) ∧ mkNs U)
theorem mkP_blind {D : va_G} {cl : List vw_C} {tys : List (ClassId × FieldType)} {n : Nat} {a : List Nat} {e : sg_E} {f : sg_F} {L : sg_L} {Q : sg_Q} {over : List String} {sz : Nat} {av : List Value} : FrameBlind (mkP D cl tys n a e f L Q over sz av) := by
  intro v U g mk q
  obtain ⟨q0, q1, qP, qK, qD, qO, qN⟩ := q
  exact ⟨q0, q1, qP, va_K.moved (u := U) (U := U.calling g mk v) (Vm.Alike.refl U.vm) qK, qD, fun C hC => (qO C hC).moved (u := U) (U := U.calling g mk v) (Vm.Alike.refl U.vm), fun q hq => va_Nw.same rfl (u := U) (U := U.calling g mk v) rfl (qN q hq)⟩
theorem mk_pre {p : Program} {s : State} {D : va_G} {cl : List vw_C} {tys : List (ClassId × FieldType)} {n : Nat} {a : List Nat} {e : sg_E} {f : sg_F} {L : sg_L} {Q : sg_Q} {over : List String} {H : Heap} {A : Nat → Prop} {av : List Value} (hK : va_K D cl tys s) (hP : va_P D cl (sgw n (sgl a) e f L Q) H) (hD : va_D A (sgw n (sgl a) e f L Q)) (hO : ∀ C ∈ over, va_AO C s) (hN : mkNs s) : PreS s H (mkP D cl tys n a e f L Q over H.size av) av :=
  ⟨mkP_blind, fun U hU hW => ⟨rfl, by rw [hU], by rw [hU]; exact hP, va_K.moved hW.alike hK, hD.weaken (fun _ _ _ _ => trivial), fun C hC => (hO C hC).moved hW.alike, fun q hq => va_Nw.warmM hW (hN q hq)⟩⟩
def mkQ (B : State → Prop) (A : Nat → Prop) : Array Value → State → Outcome → State → Prop := va_Qv (S := Unit) (fun _ => True) (fun _ t => B t) A
theorem mk_call {p : Program} {l : Launch} {e : Env} {R : Room} {s : State} {m : MethodId} {args : Array Value} {below : List Frame} {meth : Method} {c : Code} {H : Heap} {locs : List Loc} {cells slots : Nat} {Qz : State → Prop} {pc : Nat} {ls : Array Slot} {rest : List Value} {n : Nat} {h : Nat → Nat} {A : Nat → Prop} {st0 : List Value} {av : Array Value} {mc ms : Nat} {B : State → Prop} (hr : va_Run p l e R s m args below meth c H locs cells slots mc ms (F0 m pc ls st0) rest (mkQ B (sgA n h H.size) av) (sgA n h H.size)) (hA : sgY A n h s.heap.size) (hS : va_S A s.heap H locs)
    (kk : ∀ (t : State) (H1 : Heap) (locs1 : List Loc), t.heap = H1 → B t → va_S A s.heap H1 locs1 → W p l e R s m args below meth c H1 locs1 (cells + mc) (slots + ms) Qz (F0 m (pc + 3) ls rest)) : W p l e R s m args below meth c H locs cells slots Qz (F0 m pc ls st0) :=
  va_callv hr hS (fun q _ hq => hA.sub hS.1 hq) (fun q hq => hA.sub hS.1 hq) (fun _ t H1 locs1 ht _ _ hB _ _ hS1 => kk t H1 locs1 ht hB hS1)
theorem mk_ofW {l : Launch} {y : MethodName} {ws ws' : List Cond} {rm : Room} {cc : ByteArray} {maxL : Nat} {D : va_G} {cl : List vw_C} {tys : List (ClassId × FieldType)} {n : Nat} {a : List Nat} {ee : sg_E} {f : sg_F} {L : sg_L} {Q : sg_Q} {over : List String} {sz : Nat} {av : List Value} {B : State → Prop} {mc ms : Nat} (own : String) (hy : plainName y.cls = true) (hyc : y.cls = own) (hyn : y.name = "<init>") (hw : ws = Cond.code y cc maxL none :: ws') (hav : (lg_sl av).length ≤ maxL)
    (body : ∀ (p : Program) (e : Env) (s : State) (m : MethodId) (below : List Frame) (meth : Method) (c : Code) (Qz : State → Prop) (ls : Array Slot), p.tables.exec = Jvm.exec → c.code = cc → c.maxLocals = maxL → s.vm.findClass own = some m.cls → (∀ w ∈ ws, w.before av.toArray s = true) → meth.name = "<init>" → va_K D cl tys s → (∀ C ∈ over, va_AO C s) → mkNs s → va_P D cl (sgw n (sgl a) ee f L Q) s.heap → va_D (sgA n (sgl a) s.heap.size) (sgw n (sgl a) ee f L Q) → va_S (sgA n (sgl a) s.heap.size) s.heap s.heap [] → lv_has ls maxL (lv_args 0 av) →
      (∀ (pc : Nat) (H : Heap) (locs : List Loc) (ls : Array Slot), decode cc pc = .ok (.return_, 1) → va_S (sgA n (sgl a) s.heap.size) s.heap H locs → (∀ t : State, t.heap = H → B t) → W p l e rm s m av.toArray below meth c H locs mc ms Qz (F0 m pc ls [])) →
      (s.heap.size = sz) → W p l e rm s m av.toArray below meth c s.heap [] 0 0 Qz (F0 m 0 ls [])) :
    Met l y ws rm (mkP D cl tys n a ee f L Q over sz av) (mkQ B (sgA n (sgl a) sz)) mc ms (sgA n (sgl a) sz) := by
  refine Met.ofW (cc := cc) (maxL := maxL) (ret := none) hy hw ?_
  intro p e s m args below meth c s₁ Bd hml hv
  obtain ⟨rfl, hsz, hP, hK, hD, hO, hN⟩ := hv
  subst hsz
  rw [lg_entry_eq]
  refine body p e s m below meth c _ _ Bd.exec Bd.bytes hml (hyc ▸ findClass_of_methodNamed Bd.named) (atoms_spec (ws := ws) Bd.pre) (by rw [← hyn]; exact (name_of_methodNamed Bd.named Bd.method).1) hK hO hN hP (sgD (mk_H hD) sgY.self) va_S.rf (lv_entry av hav) ?_ rfl
  intro pc H locs ls hd hS1 hB
  exact W.vret Bd.exec Bd.bytes Bd.returns (fun t ht _ => ⟨⟨(), rfl, trivial, hB t ht⟩, hS1.F ht⟩) hS1.2.2 hd Bd.notSynchronized
/-- one place of one cell is set -/
def sgp {α : Type} (f : Nat → Nat → α) (k j : Nat) (x : α) : Nat → Nat → α := sg_up f k (sgu (f k) j x)
theorem sgp_z {α : Type} {f f1 : Nat → Nat → α} {z : Nat → α} {n n1 k0 j : Nat} {x : α} (hz : ∀ k : Nat, n ≤ k → f k = z) (e : f1 = sgp f k0 j x) (hk : k0 < n1) (hn : n ≤ n1) : ∀ k : Nat, n1 ≤ k → f1 k = z := by
  intro k h
  rw [e]
  unfold sgp
  rw [sg_up_n (by omega)]
  exact hz k (by omega)
theorem mkN_0 {U : State} (h : mkNs U) : va_Nw (.methodLinkNest RX0 20 yX5_init RX11) U := h (RX0, 20, yX5_init, RX11) (List.mem_of_getElem? (i := 0) rfl)
theorem mkN_1 {U : State} (h : mkNs U) : va_Nw (.methodLinkNest RX11 18 yX10_init RX11) U := h (RX11, 18, yX10_init, RX11) (List.mem_of_getElem? (i := 1) rfl)
theorem mkN_2 {U : State} (h : mkNs U) : va_Nw (.methodLinkNest RX11 66 yX1_init RX11) U := h (RX11, 66, yX1_init, RX11) (List.mem_of_getElem? (i := 2) rfl)
theorem mkN_3 {U : State} (h : mkNs U) : va_Nw (.methodLinkNest RX11 73 yX3_init RX11) U := h (RX11, 73, yX3_init, RX11) (List.mem_of_getElem? (i := 3) rfl)
theorem mkN_4 {U : State} (h : mkNs U) : va_Nw (.methodLinkNest RX11 84 yX7_init RX11) U := h (RX11, 84, yX7_init, RX11) (List.mem_of_getElem? (i := 4) rfl)
