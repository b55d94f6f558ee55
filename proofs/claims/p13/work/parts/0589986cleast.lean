/-! LEAST COSTS, what the class has -/
/-- what a shift costs at a setting, where the part slips to, both worlds -/
noncomputable def loI (m : Nat → Int32) (hl : Bool) (T : Nat → Int32) (n : Nat) (W : Nat → Int32) (p : Int32) (i v : Nat) : Int := (if 0 ≤ (W i).toInt then lsv m hl T n (W i) p (Int32.ofNat v) else 0).toInt
def slN (m : Nat → Int32) (p v : Nat) : Nat := (slp (m (64 + p)) (Int32.ofNat v)).toNatClampNeg
theorem loI_b {m : Nat → Int32} {hl : Bool} {T : Nat → Int32} {n : Nat} {W : Nat → Int32} {p : Int32} {i v : Nat} : 0 ≤ loI m hl T n W p i v ∧ loI m hl T n W p i v ≤ 9999 := by
  unfold loI
  by_cases c : 0 ≤ (W i).toInt
  · rw [if_pos c]; exact lsv_b
  · rw [if_neg c]; decide
theorem slN_b {m : Nat → Int32} {p v : Nat} (hq : pOk m) (hp : p < 3) (hv : v ≤ 60) : slN m p v ≤ 60 := by
  have e : (Int32.ofNat v).toInt = (v : Int) := ofN_I (by omega)
  obtain ⟨a, b, -⟩ := slp_b (hq (64 + p) (by omega) (by omega)) (v := Int32.ofNat v) (by omega)
  have c := bn_clI a
  unfold slN
  omega
theorem slN_I {m : Nat → Int32} {p : Nat} {v : Int32} (hq : pOk m) (hp : p < 3) (hv : 0 ≤ v.toInt ∧ v.toInt ≤ 60) : slN m p v.toNatClampNeg = (slp (m (64 + p)) v).toNatClampNeg ∧ 0 ≤ (slp (m (64 + p)) v).toInt ∧ (slp (m (64 + p)) v).toInt ≤ 60 := by
  obtain ⟨a, b, -⟩ := slp_b (hq (64 + p) (by omega) (by omega)) hv
  unfold slN
  rw [ofNn hv.1]
  exact ⟨rfl, a, b⟩
/-- the class as it works out costs -/
def uC (m : Nat → Int32) (S : Int) (hl : Bool) (T : Nat → Int32) (n N : Nat) (W : Nat → Int32) (f : sg_F) : Prop := xCx m S hl T n f ∧ (f 10 2).toInt = N ∧ (∀ i : Nat, i < N → f 11 i = W i) ∧ ∀ p : Nat, p < 3 → 0 ≤ (f 3 p).toInt ∧ (f 3 p).toInt ≤ 60
theorem uC.fr {m : Nat → Int32} {S : Int} {hl : Bool} {T : Nat → Int32} {n N : Nat} {W : Nat → Int32} {f f1 : sg_F} (h : uC m S hl T n N W f) (c : xCx m S hl T n f1) (a3 : f1 3 = f 3) (a10 : f1 10 = f 10) (a11 : f1 11 = f 11) : uC m S hl T n N W f1 := by
  refine ⟨c, ?_⟩
  rw [a3, a10, a11]
  exact h.2
theorem uC.on {m : Nat → Int32} {S : Int} {hl : Bool} {T : Nat → Int32} {n N : Nat} {W : Nat → Int32} {f f1 : sg_F} (h : uC m S hl T n N W f) (a : ∀ k : Nat, k ≠ 26 → f1 k = f k) : uC m S hl T n N W f1 := h.fr (h.1.fr (a 1 (by decide)) (a 2 (by decide)) (a 4 (by decide)) (a 7 (by decide)) (a 9 (by decide))) (a 3 (by decide)) (a 10 (by decide)) (a 11 (by decide))
def wOk (S : Int) (N : Nat) (W : Nat → Int32) : Prop := ∀ j : Nat, j < N → (W j).toInt = -1 ∨ (0 ≤ (W j).toInt ∧ (W j).toInt < S)
theorem uC.loss {m : Nat → Int32} {S : Int} {hl : Bool} {T : Nat → Int32} {n N : Nat} {W : Nat → Int32} {f : sg_F} {p v : Int32} {i : Nat} (h : uC m S hl T n N W f) (hS : S ≤ 8) (hW : wOk S N W) (hi : i < N) (hp : 0 ≤ p.toInt ∧ p.toInt ≤ 2) (hv : 0 ≤ v.toInt ∧ v.toInt ≤ 60) (L : sg_L) : (sX0_lossAt (f 11 i) p v f L).1.toInt = loI m hl T n W p i v.toNatClampNeg ∧ uC m S hl T n N W (sX0_lossAt (f 11 i) p v f L).2 ∧ ∀ q : Nat, q ≠ 8 → q ≠ 9 → (sX0_lossAt (f 11 i) p v f L).2 q = f q := by
  rw [h.2.2.1 i hi]
  obtain ⟨x1, x2, x3⟩ := xlossN h.1 hS (hW i hi) hp hv L
  refine ⟨?_, h.fr x2 (x3 3 (by decide) (by decide)) (x3 10 (by decide) (by decide)) (x3 11 (by decide) (by decide)), x3⟩
  rw [x1]
  unfold loI
  rw [ofNn hv.1]
theorem uC.unturned {m : Nat → Int32} {S : Int} {hl : Bool} {T : Nat → Int32} {n N : Nat} {W : Nat → Int32} {f : sg_F} {p x v : Int32} {i : Nat} (h : uC m S hl T n N W f) (hS : S ≤ 8) (hW : wOk S N W) (hq : pOk m) (hN : N ≤ 21) (hp : 0 ≤ p.toInt ∧ p.toInt ≤ 2) (ex : x.toInt = (i : Int)) (hi : i < N) (hv : 0 ≤ v.toInt ∧ v.toInt ≤ 60) (hb : 0 ≤ rw_ (f 26) (i + 1) (slN m p.toNatClampNeg v.toNatClampNeg) ∧ rw_ (f 26) (i + 1) (slN m p.toNatClampNeg v.toNatClampNeg) ≤ 1000000) (L : sg_L) : (sX9_unturned p x v f L).1.toInt = loI m hl T n W p i v.toNatClampNeg + rw_ (f 26) (i + 1) (slN m p.toNatClampNeg v.toNatClampNeg) ∧ uC m S hl T n N W (sX9_unturned p x v f L).2 ∧ ∀ q : Nat, q ≠ 8 → q ≠ 9 → (sX9_unturned p x v f L).2 q = f q := by
  have cx := bn_clI (x := x) (by omega)
  have cp := bn_clI hp.1
  have k61 : (61 : Int32).toInt = 61 := by decide
  have k1 : (1 : Int32).toInt = 1 := by decide
  obtain ⟨l1, l2, l3⟩ := h.loss hS hW hi hp hv L
  have lb := loI_b (m := m) (hl := hl) (T := T) (n := n) (W := W) (p := p) (i := i) (v := v.toNatClampNeg)
  obtain ⟨s1, s2, s3⟩ := slN_I (p := p.toNatClampNeg) hq (by omega) hv
  unfold sX9_unturned; (repeat first | rw [spl_d] | rw [spl2_d])
  rw [show x.toNatClampNeg = i from by omega]
  obtain ⟨o, eo⟩ : ∃ z : Int32 × sg_F, z = sX0_lossAt (f 11 i) p v f L := ⟨_, rfl⟩
  rw [← eo] at l1 l2 l3 ⊢
  have e1 : (x + 1).toInt = ((i + 1 : Nat) : Int) := inc1 ex (by omega)
  have e2 : ((x + 1) * 61).toInt = 61 * ((i + 1 : Nat) : Int) := (bn_mulI k61 (by omega) (by omega)).trans (by omega)
  have es : sX0_slipped p v o.2 L = slp (m (64 + p.toNatClampNeg)) v := by
    rw [slpX (k := p.toNatClampNeg) (by omega) (by omega), l2.1.1]
  rw [es]
  have cs := bn_clI s2
  obtain ⟨w, ew⟩ : ∃ z : Int32, z = slp (m (64 + p.toNatClampNeg)) v := ⟨_, rfl⟩
  rw [← ew] at s1 s2 s3 cs ⊢
  have e61 : True := trivial
  obtain ⟨i1, i2⟩ := ixr (i := i + 1) (v := w.toNatClampNeg) (a := (x + 1) * 61) (y := w) e2 (by omega) cs.symm (by omega)
  rw [i2, l3 26 (by decide) (by decide)]
  rw [s1] at hb ⊢
  refine ⟨?_, l2, l3⟩
  dsimp only
  clear i1 i2 e1 e2 es ew cs s1 s2 s3 cx cp ex hv hp
  have ad : (o.1 + f 26 (61 * (i + 1) + w.toNatClampNeg)).toInt = o.1.toInt + (f 26 (61 * (i + 1) + w.toNatClampNeg)).toInt := bn_addI (by unfold rw_ at hb; omega) (by unfold rw_ at hb; omega)
  rw [ad, l1]
  rfl
/-- the rows from one on are worked out -/
def uR (m : Nat → Int32) (S : Int) (hl : Bool) (T : Nat → Int32) (n N : Nat) (W : Nat → Int32) (e : Bool) (p : Int32) (i : Nat) (f : sg_F) : Prop := uC m S hl T n N W f ∧ ∀ j v : Nat, i ≤ j → j ≤ N → v ≤ 60 → rw_ (f 26) j v = Vc e (loI m hl T n W p) (slN m p.toNatClampNeg) (m (67 + p.toNatClampNeg)).toInt N (N - j) v
theorem Vc_1 {e : Bool} {lo : Nat → Nat → Int} {sl : Nat → Nat} {q : Int} {N i v : Nat} (hi : i < N) : Vc e lo sl q N (N - i) v = if e = true then lstO (fun u => lo i u + Vc e lo sl q N (N - (i + 1)) (sl u)) q v else lo i v + Vc e lo sl q N (N - (i + 1)) (sl v) := by
  have er : N - i = (N - (i + 1)) + 1 := by omega
  have ei : N - ((N - (i + 1)) + 1) = i := by omega
  rw [er]
  show (if e = true then lstO (fun u => lo (N - ((N - (i + 1)) + 1)) u + _) q v else lo (N - ((N - (i + 1)) + 1)) v + _) = _
  rw [ei]
