/-! WORDS FOR ALL: the small predicates as one test each -/
theorem sgK.rf0 {f : sg_F} : sgK [] f f := fun _ _ _ => rfl
theorem zk1 : (1 : Int32) ≠ 0 := by decide
theorem zk0 : ¬ (0 : Int32) = 1 := by decide
theorem pX_isShelf (x : Int32) (f : sg_F) (L : sg_L) : sX11_isShelf x f L = if 0 ≤ x.toInt ∧ x.toInt ≤ 5 then 1 else 0 := by
  unfold sX11_isShelf
  (repeat' split) <;> first | rfl | (exfalso; omega)
theorem pX_isKind (x : Int32) (f : sg_F) (L : sg_L) : sX11_isKind x f L = if 0 ≤ x.toInt ∧ x.toInt ≤ 7 then 1 else 0 := by
  unfold sX11_isKind
  (repeat' split) <;> first | rfl | (exfalso; omega)
theorem pX_isPart (x : Int32) (f : sg_F) (L : sg_L) : sX11_isPart x f L = if 0 ≤ x.toInt ∧ x.toInt ≤ 2 then 1 else 0 := by
  unfold sX11_isPart
  (repeat' split) <;> first | rfl | (exfalso; omega)
theorem pX_isSetting (x : Int32) (f : sg_F) (L : sg_L) : sX11_isSetting x f L = if 0 ≤ x.toInt ∧ x.toInt ≤ 60 then 1 else 0 := by
  unfold sX11_isSetting
  (repeat' split) <;> first | rfl | (exfalso; omega)
theorem pM_within (x a b : Int64) (f : sg_F) (L : sg_L) : sX12_within x a b f L = if a.toInt ≤ x.toInt ∧ x.toInt ≤ b.toInt then 1 else 0 := by
  have h1 := bn_lcmpI x a
  have h2 := bn_lcmpI x b
  unfold sX12_within; (repeat first | rw [spl_d] | rw [spl2_d])
  (repeat' split) <;> first | rfl | (exfalso; omega)
theorem ite_b {p : Prop} [Decidable p] : (if (if p then (1 : Int32) else 0) = 1 then (1 : Int32) else 0) = if p then 1 else 0 := by
  by_cases h : p
  · rw [if_pos h, if_pos rfl]
  · rw [if_neg h, if_neg zk0]
theorem ite_iff {α : Type} {p q : Prop} [Decidable p] [Decidable q] {a b : α} (h : p ↔ q) : (if p then a else b) = if q then a else b := by
  by_cases g : p
  · rw [if_pos g, if_pos (h.mp g)]
  · rw [if_neg g, if_neg (fun z => g (h.mpr z))]
theorem pM_isShelf (x : Int32) (f : sg_F) (L : sg_L) : sX12_isShelf x f L = if 0 ≤ x.toInt ∧ x.toInt ≤ 5 then 1 else 0 := by
  have k0 : (0 : Int64).toInt = 0 := by decide
  have k5 : (5 : Int64).toInt = 5 := by decide
  have e := Int32.toInt_toInt64 x
  unfold sX12_isShelf; (repeat first | rw [spl_d] | rw [spl2_d])
  rw [pM_within, ite_b, k0, k5, e]
theorem pM_isBody (x : Int32) (f : sg_F) (L : sg_L) (h : 0 ≤ (f 0 45).toInt ∧ (f 0 45).toInt ≤ 50) : sX12_isBody x f L = if 0 ≤ x.toInt ∧ x.toInt < (f 0 45).toInt then 1 else 0 := by
  have k0 : (0 : Int64).toInt = 0 := by decide
  have k1 : (1 : Int32).toInt = 1 := by decide
  have e := Int32.toInt_toInt64 x
  have e1 := Int32.toInt_toInt64 (f 0 45 - 1)
  have e2 : (f 0 45 - 1).toInt = (f 0 45).toInt - 1 := (bn_subI (by omega) (by omega)).trans (by omega)
  unfold sX12_isBody; (repeat first | rw [spl_d] | rw [spl2_d])
  rw [pM_within, ite_b]
  exact ite_iff (by omega)
/-! DESKS -/
/-- what a row of numbers shows from a place on -/
def trL (g : Nat → Int32) : Nat → List Int32 → Prop := fun i l => match l with
  | [] => True
  | b :: t => g i = b ∧ trL g (i + 1) t
theorem trL.kp {g g1 : Nat → Int32} : ∀ (l : List Int32) (i : Nat), trL g i l → (∀ j : Nat, j < i + l.length → g1 j = g j) → trL g1 i l := by
  intro l
  induction l with
  | nil => intro i _ _; exact trivial
  | cons b t ih =>
    intro i h k
    have h : g i = b ∧ trL g (i + 1) t := h
    have e : (b :: t).length = t.length + 1 := rfl
    exact ⟨(k i (by omega)).trans h.1, ih (i + 1) h.2 (fun j hj => k j (by omega))⟩
theorem trL.ap {g : Nat → Int32} {m : List Int32} : ∀ (l : List Int32) (i : Nat), trL g i l → trL g (i + l.length) m → trL g i (l ++ m) := by
  intro l
  induction l with
  | nil => intro i _ h; exact h
  | cons b t ih =>
    intro i h k
    have h : g i = b ∧ trL g (i + 1) t := h
    have e : (b :: t).length = t.length + 1 := rfl
    rw [e, show i + (t.length + 1) = i + 1 + t.length from by omega] at k
    exact ⟨h.1, ih (i + 1) h.2 k⟩
theorem trL.eq {g g1 : Nat → Int32} : ∀ (l : List Int32) (i : Nat), trL g i l → trL g1 i l → ∀ j : Nat, i ≤ j → j < i + l.length → g j = g1 j := by
  intro l
  induction l with
  | nil =>
    intro i _ _ j h1 h2
    have e : ([] : List Int32).length = 0 := rfl
    exact absurd h2 (by omega)
  | cons b t ih =>
    intro i h k j h1 h2
    have h : g i = b ∧ trL g (i + 1) t := h
    have k : g1 i = b ∧ trL g1 (i + 1) t := k
    have e : (b :: t).length = t.length + 1 := rfl
    by_cases z : j = i
    · rw [z, h.1, k.1]
    · exact ih (i + 1) h.2 k.2 j (by omega) (by omega)
theorem pr_eta {α β : Type} (o : α × β) : (o.1, o.2) = o := rfl
/-- an act's answer; how many bodies ran; the number stands; the trace -/
def acP (a r tr n r0 : Nat) (c1 N T : Int32) (l : List Int32) (f : sg_F) (o : Int32 × sg_F) : Prop := o.1 = T ∧ o.2 a r = c1 ∧ o.2 a n = N ∧ (∀ i : Nat, i < r0 → o.2 tr i = f tr i) ∧ trL (o.2 tr) r0 l
abbrev acB (a r tr r0 : Nat) (b : Int32) (f : sg_F) : sg_F := sg_up (sg_up f tr (sgu (f tr) r0 b)) a (sgu (sg_up f tr (sgu (f tr) r0 b) a) r (sg_up f tr (sgu (f tr) r0 b) a r + 1))
theorem acB.r {a r tr r0 : Nat} {b c c1 : Int32} {f : sg_F} (hat : a ≠ tr) (h : f a r = c) (e : c + 1 = c1) : acB a r tr r0 b f a r = c1 := by
  unfold acB
  rw [sg_up_s, sgu_s, sg_up_n hat, h, e]
theorem acB.n {a r tr n r0 : Nat} {b N : Int32} {f : sg_F} (hat : a ≠ tr) (hnr : n ≠ r) (h : f a n = N) : acB a r tr r0 b f a n = N := by
  unfold acB
  rw [sg_up_s, sgu_n hnr, sg_up_n hat, h]
theorem acB.t {a r tr r0 : Nat} {b : Int32} {f : sg_F} (hat : tr ≠ a) : acB a r tr r0 b f tr r0 = b := by
  unfold acB
  rw [sg_up_n hat, sg_up_s, sgu_s]
theorem acB.o {a r tr r0 i : Nat} {b : Int32} {f : sg_F} (hat : tr ≠ a) (h : i < r0) : acB a r tr r0 b f tr i = f tr i := by
  unfold acB
  rw [sg_up_n hat, sg_up_s, sgu_n (by omega)]
theorem acP.leaf {a r tr n r0 : Nat} {c c1 N T b : Int32} {f : sg_F} (hat : a ≠ tr) (hta : tr ≠ a) (hnr : n ≠ r) (h : f a r = c) (e : c + 1 = c1) (hn : f a n = N) {R : Int32} (eR : R = T) : acP a r tr n r0 c1 N T [b] f (R, acB a r tr r0 b f) :=
  ⟨eR, acB.r hat h e, acB.n hat hnr hn, fun _ hi => acB.o hta hi, acB.t hta, trivial⟩
theorem acP.cons {a r tr n r0 : Nat} {c1 N T b : Int32} {l : List Int32} {f : sg_F} {o : Int32 × sg_F} (hta : tr ≠ a) (h : acP a r tr n (r0 + 1) c1 N T l (acB a r tr r0 b f) o) : acP a r tr n r0 c1 N T (b :: l) f o :=
  ⟨h.1, h.2.1, h.2.2.1, fun i hi => (h.2.2.2.1 i (by omega)).trans (acB.o hta hi), (h.2.2.2.1 r0 (by omega)).trans (acB.t hta), h.2.2.2.2⟩
theorem acP.map {a r tr n r0 : Nat} {c1 N T : Int32} {l : List Int32} {f : sg_F} {o : Int32 × sg_F} (h : acP a r tr n r0 c1 N T l f o) {R T1 : Int32} (e : o.1 = T → R = T1) : acP a r tr n r0 c1 N T1 l f (R, o.2) :=
  ⟨e h.1, h.2⟩
theorem acP.two {a r tr n r0 r1 : Nat} {c1 c2 N T T2 : Int32} {l l2 : List Int32} {f : sg_F} {o o2 : Int32 × sg_F} (h : acP a r tr n r0 c1 N T l f o) (k : acP a r tr n r1 c2 N T2 l2 o.2 o2) (hr : r0 + l.length = r1) {l3 : List Int32} (hl : l ++ l2 = l3) {R T1 : Int32} (e : o.1 = T → o2.1 = T2 → R = T1) : acP a r tr n r0 c2 N T1 l3 f (R, o2.2) := by
  subst hr hl
  exact ⟨e h.1 k.1, k.2.1, k.2.2.1, fun i hi => (k.2.2.2.1 i (by omega)).trans (h.2.2.2.1 i hi), trL.ap l r0 (trL.kp l r0 h.2.2.2.2 (fun j hj => k.2.2.2.1 j hj)) k.2.2.2.2⟩
/-- what an act of a desk answers, by its kind; which bodies run -/
def acR (k w : Nat) (x n : Int32) : Int32 := match k, w with
  | 0, 0 => (x + n)
  | 0, 1 => ((x + n) * 2)
  | 0, 2 => (x ^^^ n)
  | 0, 3 => (((x + n) * 2) - (1 ^^^ n))
  | 1, 0 => ((x + n) + 3)
  | 1, 1 => (((x + n) + 3) * 2)
  | 1, 2 => (x ^^^ n)
  | 1, 3 => ((((x + n) + 3) * 2) - (1 ^^^ n))
  | 2, 0 => (x + n)
  | 2, 1 => (-((x + n) * 2))
  | 2, 2 => (x ^^^ n)
  | 2, 3 => ((-((x + n) * 2)) - (1 ^^^ n))
  | 3, 0 => (x + n)
  | 3, 1 => (-(((x + 1) + n) * 2))
  | 3, 2 => ((x ^^^ n) * 3)
  | 3, 3 => ((-(((x + 1) + n) * 2)) - ((1 ^^^ n) * 3))
  | 4, 0 => ((x + n) + 3)
  | 4, 1 => (((x + n) + 3) * 2)
  | 4, 2 => ((x ^^^ n) - ((2 + n) + 3))
  | 4, 3 => ((((x + n) + 3) * 2) - ((1 ^^^ n) - ((2 + n) + 3)))
  | 5, 0 => (x + n)
  | 5, 1 => (-(((x + 1) + n) * 2))
  | 5, 2 => ((x ^^^ n) * 3)
  | 5, 3 => (((-(((x + 1) + n) * 2)) - ((1 ^^^ n) * 3)) ^^^ 5)
  | 6, 0 => ((x + n) * 2)
  | 6, 1 => (((x + n) * 2) * 2)
  | 6, 2 => (x ^^^ n)
  | 6, 3 => ((((x + n) * 2) * 2) - (1 ^^^ n))
  | 7, 0 => ((x + n) + 3)
  | 7, 1 => ((((x + n) + 3) * 2) + ((2 ^^^ n) - ((2 + n) + 3)))
  | 7, 2 => ((x ^^^ n) - ((2 + n) + 3))
  | 7, 3 => ((((((x + n) + 3) * 2) + ((2 ^^^ n) - ((2 + n) + 3))) - ((1 ^^^ n) - ((2 + n) + 3))) - 1)
  | _, _ => 0
def acL (k w : Nat) : List Int32 := match k, w with
  | 0, 0 => [1]
  | 0, 1 => [10, 1]
  | 0, 2 => [11]
  | 0, 3 => [2, 10, 1, 11]
  | 1, 0 => [20, 1]
  | 1, 1 => [10, 20, 1]
  | 1, 2 => [11]
  | 1, 3 => [2, 10, 20, 1, 11]
  | 2, 0 => [1]
  | 2, 1 => [30, 10, 1]
  | 2, 2 => [11]
  | 2, 3 => [2, 30, 10, 1, 11]
  | 3, 0 => [1]
  | 3, 1 => [41, 30, 10, 1]
  | 3, 2 => [40, 11]
  | 3, 3 => [2, 41, 30, 10, 1, 40, 11]
  | 4, 0 => [20, 1]
  | 4, 1 => [10, 20, 1]
  | 4, 2 => [50, 11, 20, 1]
  | 4, 3 => [2, 10, 20, 1, 50, 11, 20, 1]
  | 5, 0 => [1]
  | 5, 1 => [41, 30, 10, 1]
  | 5, 2 => [40, 11]
  | 5, 3 => [60, 2, 41, 30, 10, 1, 40, 11]
  | 6, 0 => [70, 1]
  | 6, 1 => [10, 70, 1]
  | 6, 2 => [11]
  | 6, 3 => [2, 10, 70, 1, 11]
  | 7, 0 => [20, 1]
  | 7, 1 => [80, 10, 20, 1, 50, 11, 20, 1]
  | 7, 2 => [50, 11, 20, 1]
  | 7, 3 => [81, 2, 80, 10, 20, 1, 50, 11, 20, 1, 50, 11, 20, 1]
  | _, _ => []
/-- an act's answer, count and trace as told -/
def acO (a b : Nat) (tr : Nat) (k w : Nat) (x n : Int32) (o : Int32 × sg_F) : Prop := o.1 = acR k w x n ∧ (o.2 a b).toInt = ((acL k w).length : Int) ∧ trL (o.2 tr) 0 (acL k w)
theorem acP.O {a r tr n k w : Nat} {c1 N T x : Int32} {l : List Int32} {f : sg_F} {o : Int32 × sg_F} (h : acP a r tr n 0 c1 N T l f o) (e1 : T = acR k w x N) (e2 : c1.toInt = (l.length : Int)) (e3 : l = acL k w) : acO a r tr k w x N o := by
  subst e1 e3
  exact ⟨h.1, by rw [h.2.1]; exact e2, h.2.2.2.2⟩
theorem ac_sX3_does_0_0_0_f0_f0 (x N : Int32) (f : sg_F) (L : sg_L) (h : f 36 3 = 0) (hn : f 36 5 = N) : acP 36 3 38 5 0 1 N (x + N) [1] f (sX3_does_0_0_0_f0_f0 x f L) := by
  unfold sX3_does_0_0_0_f0_f0 sX3_does_0_0_0_f0_f0_b53 sX3_runs_1_m1_1_f1_f0; (repeat first | rw [spl_d] | rw [spl2_d])
  exact acP.leaf (by decide) (by decide) (by decide) h (by decide) hn (by show x + acB 36 3 38 0 1 f 36 5 = (x + N); rw [acB.n (by decide) (by decide) hn])
theorem ac_sX3_does_0_0_1_f1_f0 (x N : Int32) (f : sg_F) (L : sg_L) (h : f 36 3 = 1) (hn : f 36 5 = N) : acP 36 3 38 5 1 2 N (x + N) [1] f (sX3_does_0_0_1_f1_f0 x f L) := by
  unfold sX3_does_0_0_1_f1_f0 sX3_does_0_0_1_f1_f0_b53 sX3_runs_1_m1_2_f2_f0; (repeat first | rw [spl_d] | rw [spl2_d])
  exact acP.leaf (by decide) (by decide) (by decide) h (by decide) hn (by show x + acB 36 3 38 1 1 f 36 5 = (x + N); rw [acB.n (by decide) (by decide) hn])
theorem ac_sX3_runs_10_m1_1_f1_f0 (x N : Int32) (f : sg_F) (L : sg_L) (h : f 36 3 = 1) (hn : f 36 5 = N) : acP 36 3 38 5 1 2 N ((x + N) * 2) [1] f (sX3_runs_10_m1_1_f1_f0 x f L) := by
  unfold sX3_runs_10_m1_1_f1_f0; (repeat first | rw [spl_d] | rw [spl2_d])
  exact acP.map (ac_sX3_does_0_0_1_f1_f0 x N f L h hn) (fun z => by rw [z])
theorem ac_sX3_does_0_1_0_f0_f0 (x N : Int32) (f : sg_F) (L : sg_L) (h : f 36 3 = 0) (hn : f 36 5 = N) : acP 36 3 38 5 0 2 N ((x + N) * 2) [10, 1] f (sX3_does_0_1_0_f0_f0 x f L) := by
  unfold sX3_does_0_1_0_f0_f0 sX3_does_0_1_0_f0_f0_b53; (repeat first | rw [spl_d] | rw [spl2_d]); rw [pr_eta]
  exact acP.cons (by decide) (ac_sX3_runs_10_m1_1_f1_f0 x N (acB 36 3 38 0 10 f) L (acB.r (by decide) h (by decide)) (acB.n (by decide) (by decide) hn))
theorem ac_sX3_does_0_2_0_f0_f0 (x N : Int32) (f : sg_F) (L : sg_L) (h : f 36 3 = 0) (hn : f 36 5 = N) : acP 36 3 38 5 0 1 N (x ^^^ N) [11] f (sX3_does_0_2_0_f0_f0 x f L) := by
  unfold sX3_does_0_2_0_f0_f0 sX3_does_0_2_0_f0_f0_b53 sX3_runs_11_m1_1_f1_f0; (repeat first | rw [spl_d] | rw [spl2_d])
  exact acP.leaf (by decide) (by decide) (by decide) h (by decide) hn (by show x ^^^ acB 36 3 38 0 11 f 36 5 = (x ^^^ N); rw [acB.n (by decide) (by decide) hn])
theorem ac_sX3_does_0_0_2_f2_f0 (x N : Int32) (f : sg_F) (L : sg_L) (h : f 36 3 = 2) (hn : f 36 5 = N) : acP 36 3 38 5 2 3 N (x + N) [1] f (sX3_does_0_0_2_f2_f0 x f L) := by
  unfold sX3_does_0_0_2_f2_f0 sX3_does_0_0_2_f2_f0_b53 sX3_runs_1_m1_3_f3_f0; (repeat first | rw [spl_d] | rw [spl2_d])
  exact acP.leaf (by decide) (by decide) (by decide) h (by decide) hn (by show x + acB 36 3 38 2 1 f 36 5 = (x + N); rw [acB.n (by decide) (by decide) hn])
theorem ac_sX3_runs_10_m1_2_f2_f0 (x N : Int32) (f : sg_F) (L : sg_L) (h : f 36 3 = 2) (hn : f 36 5 = N) : acP 36 3 38 5 2 3 N ((x + N) * 2) [1] f (sX3_runs_10_m1_2_f2_f0 x f L) := by
  unfold sX3_runs_10_m1_2_f2_f0; (repeat first | rw [spl_d] | rw [spl2_d])
  exact acP.map (ac_sX3_does_0_0_2_f2_f0 x N f L h hn) (fun z => by rw [z])
theorem ac_sX3_does_0_1_1_f1_f0 (x N : Int32) (f : sg_F) (L : sg_L) (h : f 36 3 = 1) (hn : f 36 5 = N) : acP 36 3 38 5 1 3 N ((x + N) * 2) [10, 1] f (sX3_does_0_1_1_f1_f0 x f L) := by
  unfold sX3_does_0_1_1_f1_f0 sX3_does_0_1_1_f1_f0_b53; (repeat first | rw [spl_d] | rw [spl2_d]); rw [pr_eta]
  exact acP.cons (by decide) (ac_sX3_runs_10_m1_2_f2_f0 x N (acB 36 3 38 1 10 f) L (acB.r (by decide) h (by decide)) (acB.n (by decide) (by decide) hn))
theorem ac_sX3_does_0_2_1_f3_f0 (x N : Int32) (f : sg_F) (L : sg_L) (h : f 36 3 = 3) (hn : f 36 5 = N) : acP 36 3 38 5 3 4 N (x ^^^ N) [11] f (sX3_does_0_2_1_f3_f0 x f L) := by
  unfold sX3_does_0_2_1_f3_f0 sX3_does_0_2_1_f3_f0_b53 sX3_runs_11_m1_2_f4_f0; (repeat first | rw [spl_d] | rw [spl2_d])
  exact acP.leaf (by decide) (by decide) (by decide) h (by decide) hn (by show x ^^^ acB 36 3 38 3 11 f 36 5 = (x ^^^ N); rw [acB.n (by decide) (by decide) hn])
theorem ac_sX3_runs_2_m1_1_f1_f0 (x N : Int32) (f : sg_F) (L : sg_L) (h : f 36 3 = 1) (hn : f 36 5 = N) : acP 36 3 38 5 1 4 N (((x + N) * 2) - (1 ^^^ N)) [10, 1, 11] f (sX3_runs_2_m1_1_f1_f0 x f L) := by
  unfold sX3_runs_2_m1_1_f1_f0; (repeat first | rw [spl_d] | rw [spl2_d])
  exact acP.two (ac_sX3_does_0_1_1_f1_f0 x N f L h hn) (ac_sX3_does_0_2_1_f3_f0 1 N (sX3_does_0_1_1_f1_f0 x f L).2 L (ac_sX3_does_0_1_1_f1_f0 x N f L h hn).2.1 (ac_sX3_does_0_1_1_f1_f0 x N f L h hn).2.2.1) rfl rfl (fun z1 z2 => by rw [z1, z2])
theorem ac_sX3_does_0_3_0_f0_f0 (x N : Int32) (f : sg_F) (L : sg_L) (h : f 36 3 = 0) (hn : f 36 5 = N) : acP 36 3 38 5 0 4 N (((x + N) * 2) - (1 ^^^ N)) [2, 10, 1, 11] f (sX3_does_0_3_0_f0_f0 x f L) := by
  unfold sX3_does_0_3_0_f0_f0 sX3_does_0_3_0_f0_f0_b53; (repeat first | rw [spl_d] | rw [spl2_d]); rw [pr_eta]
  exact acP.cons (by decide) (ac_sX3_runs_2_m1_1_f1_f0 x N (acB 36 3 38 0 2 f) L (acB.r (by decide) h (by decide)) (acB.n (by decide) (by decide) hn))
theorem ac_sX3_does_0_0_1_f1_f1 (x N : Int32) (f : sg_F) (L : sg_L) (h : f 36 3 = 1) (hn : f 36 5 = N) : acP 36 3 38 5 1 2 N (x + N) [1] f (sX3_does_0_0_1_f1_f1 x f L) := by
  unfold sX3_does_0_0_1_f1_f1 sX3_does_0_0_1_f1_f1_b53 sX3_runs_1_m1_2_f2_f1; (repeat first | rw [spl_d] | rw [spl2_d])
  exact acP.leaf (by decide) (by decide) (by decide) h (by decide) hn (by show x + acB 36 3 38 1 1 f 36 5 = (x + N); rw [acB.n (by decide) (by decide) hn])
theorem ac_sX3_runs_20_0_1_f1_f1 (x N : Int32) (f : sg_F) (L : sg_L) (h : f 36 3 = 1) (hn : f 36 5 = N) : acP 36 3 38 5 1 2 N ((x + N) + 3) [1] f (sX3_runs_20_0_1_f1_f1 x f L) := by
  unfold sX3_runs_20_0_1_f1_f1; (repeat first | rw [spl_d] | rw [spl2_d])
  exact acP.map (ac_sX3_does_0_0_1_f1_f1 x N f L h hn) (fun z => by rw [z])
theorem ac_sX3_does_1_0_0_f0_f1 (x N : Int32) (f : sg_F) (L : sg_L) (h : f 36 3 = 0) (hn : f 36 5 = N) : acP 36 3 38 5 0 2 N ((x + N) + 3) [20, 1] f (sX3_does_1_0_0_f0_f1 x f L) := by
  unfold sX3_does_1_0_0_f0_f1 sX3_does_1_0_0_f0_f1_b53; (repeat first | rw [spl_d] | rw [spl2_d]); rw [pr_eta]
  exact acP.cons (by decide) (ac_sX3_runs_20_0_1_f1_f1 x N (acB 36 3 38 0 20 f) L (acB.r (by decide) h (by decide)) (acB.n (by decide) (by decide) hn))
theorem ac_sX3_does_0_0_2_f2_f1 (x N : Int32) (f : sg_F) (L : sg_L) (h : f 36 3 = 2) (hn : f 36 5 = N) : acP 36 3 38 5 2 3 N (x + N) [1] f (sX3_does_0_0_2_f2_f1 x f L) := by
  unfold sX3_does_0_0_2_f2_f1 sX3_does_0_0_2_f2_f1_b53 sX3_runs_1_m1_3_f3_f1; (repeat first | rw [spl_d] | rw [spl2_d])
  exact acP.leaf (by decide) (by decide) (by decide) h (by decide) hn (by show x + acB 36 3 38 2 1 f 36 5 = (x + N); rw [acB.n (by decide) (by decide) hn])
theorem ac_sX3_runs_20_0_2_f2_f1 (x N : Int32) (f : sg_F) (L : sg_L) (h : f 36 3 = 2) (hn : f 36 5 = N) : acP 36 3 38 5 2 3 N ((x + N) + 3) [1] f (sX3_runs_20_0_2_f2_f1 x f L) := by
  unfold sX3_runs_20_0_2_f2_f1; (repeat first | rw [spl_d] | rw [spl2_d])
  exact acP.map (ac_sX3_does_0_0_2_f2_f1 x N f L h hn) (fun z => by rw [z])
theorem ac_sX3_does_1_0_1_f1_f1 (x N : Int32) (f : sg_F) (L : sg_L) (h : f 36 3 = 1) (hn : f 36 5 = N) : acP 36 3 38 5 1 3 N ((x + N) + 3) [20, 1] f (sX3_does_1_0_1_f1_f1 x f L) := by
  unfold sX3_does_1_0_1_f1_f1 sX3_does_1_0_1_f1_f1_b53; (repeat first | rw [spl_d] | rw [spl2_d]); rw [pr_eta]
  exact acP.cons (by decide) (ac_sX3_runs_20_0_2_f2_f1 x N (acB 36 3 38 1 20 f) L (acB.r (by decide) h (by decide)) (acB.n (by decide) (by decide) hn))
theorem ac_sX3_runs_10_m1_1_f1_f1 (x N : Int32) (f : sg_F) (L : sg_L) (h : f 36 3 = 1) (hn : f 36 5 = N) : acP 36 3 38 5 1 3 N (((x + N) + 3) * 2) [20, 1] f (sX3_runs_10_m1_1_f1_f1 x f L) := by
  unfold sX3_runs_10_m1_1_f1_f1; (repeat first | rw [spl_d] | rw [spl2_d])
  exact acP.map (ac_sX3_does_1_0_1_f1_f1 x N f L h hn) (fun z => by rw [z])
theorem ac_sX3_does_1_1_0_f0_f1 (x N : Int32) (f : sg_F) (L : sg_L) (h : f 36 3 = 0) (hn : f 36 5 = N) : acP 36 3 38 5 0 3 N (((x + N) + 3) * 2) [10, 20, 1] f (sX3_does_1_1_0_f0_f1 x f L) := by
  unfold sX3_does_1_1_0_f0_f1 sX3_does_1_1_0_f0_f1_b53; (repeat first | rw [spl_d] | rw [spl2_d]); rw [pr_eta]
  exact acP.cons (by decide) (ac_sX3_runs_10_m1_1_f1_f1 x N (acB 36 3 38 0 10 f) L (acB.r (by decide) h (by decide)) (acB.n (by decide) (by decide) hn))
theorem ac_sX3_does_1_2_0_f0_f1 (x N : Int32) (f : sg_F) (L : sg_L) (h : f 36 3 = 0) (hn : f 36 5 = N) : acP 36 3 38 5 0 1 N (x ^^^ N) [11] f (sX3_does_1_2_0_f0_f1 x f L) := by
  unfold sX3_does_1_2_0_f0_f1 sX3_does_1_2_0_f0_f1_b53 sX3_runs_11_m1_1_f1_f1; (repeat first | rw [spl_d] | rw [spl2_d])
  exact acP.leaf (by decide) (by decide) (by decide) h (by decide) hn (by show x ^^^ acB 36 3 38 0 11 f 36 5 = (x ^^^ N); rw [acB.n (by decide) (by decide) hn])
theorem ac_sX3_does_0_0_3_f3_f1 (x N : Int32) (f : sg_F) (L : sg_L) (h : f 36 3 = 3) (hn : f 36 5 = N) : acP 36 3 38 5 3 4 N (x + N) [1] f (sX3_does_0_0_3_f3_f1 x f L) := by
  unfold sX3_does_0_0_3_f3_f1 sX3_does_0_0_3_f3_f1_b53 sX3_runs_1_m1_4_f4_f1; (repeat first | rw [spl_d] | rw [spl2_d])
  exact acP.leaf (by decide) (by decide) (by decide) h (by decide) hn (by show x + acB 36 3 38 3 1 f 36 5 = (x + N); rw [acB.n (by decide) (by decide) hn])
theorem ac_sX3_runs_20_0_3_f3_f1 (x N : Int32) (f : sg_F) (L : sg_L) (h : f 36 3 = 3) (hn : f 36 5 = N) : acP 36 3 38 5 3 4 N ((x + N) + 3) [1] f (sX3_runs_20_0_3_f3_f1 x f L) := by
  unfold sX3_runs_20_0_3_f3_f1; (repeat first | rw [spl_d] | rw [spl2_d])
  exact acP.map (ac_sX3_does_0_0_3_f3_f1 x N f L h hn) (fun z => by rw [z])
theorem ac_sX3_does_1_0_2_f2_f1 (x N : Int32) (f : sg_F) (L : sg_L) (h : f 36 3 = 2) (hn : f 36 5 = N) : acP 36 3 38 5 2 4 N ((x + N) + 3) [20, 1] f (sX3_does_1_0_2_f2_f1 x f L) := by
  unfold sX3_does_1_0_2_f2_f1 sX3_does_1_0_2_f2_f1_b53; (repeat first | rw [spl_d] | rw [spl2_d]); rw [pr_eta]
  exact acP.cons (by decide) (ac_sX3_runs_20_0_3_f3_f1 x N (acB 36 3 38 2 20 f) L (acB.r (by decide) h (by decide)) (acB.n (by decide) (by decide) hn))
theorem ac_sX3_runs_10_m1_2_f2_f1 (x N : Int32) (f : sg_F) (L : sg_L) (h : f 36 3 = 2) (hn : f 36 5 = N) : acP 36 3 38 5 2 4 N (((x + N) + 3) * 2) [20, 1] f (sX3_runs_10_m1_2_f2_f1 x f L) := by
  unfold sX3_runs_10_m1_2_f2_f1; (repeat first | rw [spl_d] | rw [spl2_d])
  exact acP.map (ac_sX3_does_1_0_2_f2_f1 x N f L h hn) (fun z => by rw [z])
theorem ac_sX3_does_1_1_1_f1_f1 (x N : Int32) (f : sg_F) (L : sg_L) (h : f 36 3 = 1) (hn : f 36 5 = N) : acP 36 3 38 5 1 4 N (((x + N) + 3) * 2) [10, 20, 1] f (sX3_does_1_1_1_f1_f1 x f L) := by
  unfold sX3_does_1_1_1_f1_f1 sX3_does_1_1_1_f1_f1_b53; (repeat first | rw [spl_d] | rw [spl2_d]); rw [pr_eta]
  exact acP.cons (by decide) (ac_sX3_runs_10_m1_2_f2_f1 x N (acB 36 3 38 1 10 f) L (acB.r (by decide) h (by decide)) (acB.n (by decide) (by decide) hn))
theorem ac_sX3_does_1_2_1_f4_f1 (x N : Int32) (f : sg_F) (L : sg_L) (h : f 36 3 = 4) (hn : f 36 5 = N) : acP 36 3 38 5 4 5 N (x ^^^ N) [11] f (sX3_does_1_2_1_f4_f1 x f L) := by
  unfold sX3_does_1_2_1_f4_f1 sX3_does_1_2_1_f4_f1_b53 sX3_runs_11_m1_2_f5_f1; (repeat first | rw [spl_d] | rw [spl2_d])
  exact acP.leaf (by decide) (by decide) (by decide) h (by decide) hn (by show x ^^^ acB 36 3 38 4 11 f 36 5 = (x ^^^ N); rw [acB.n (by decide) (by decide) hn])
theorem ac_sX3_runs_2_m1_1_f1_f1 (x N : Int32) (f : sg_F) (L : sg_L) (h : f 36 3 = 1) (hn : f 36 5 = N) : acP 36 3 38 5 1 5 N ((((x + N) + 3) * 2) - (1 ^^^ N)) [10, 20, 1, 11] f (sX3_runs_2_m1_1_f1_f1 x f L) := by
  unfold sX3_runs_2_m1_1_f1_f1; (repeat first | rw [spl_d] | rw [spl2_d])
  exact acP.two (ac_sX3_does_1_1_1_f1_f1 x N f L h hn) (ac_sX3_does_1_2_1_f4_f1 1 N (sX3_does_1_1_1_f1_f1 x f L).2 L (ac_sX3_does_1_1_1_f1_f1 x N f L h hn).2.1 (ac_sX3_does_1_1_1_f1_f1 x N f L h hn).2.2.1) rfl rfl (fun z1 z2 => by rw [z1, z2])
theorem ac_sX3_does_1_3_0_f0_f1 (x N : Int32) (f : sg_F) (L : sg_L) (h : f 36 3 = 0) (hn : f 36 5 = N) : acP 36 3 38 5 0 5 N ((((x + N) + 3) * 2) - (1 ^^^ N)) [2, 10, 20, 1, 11] f (sX3_does_1_3_0_f0_f1 x f L) := by
  unfold sX3_does_1_3_0_f0_f1 sX3_does_1_3_0_f0_f1_b53; (repeat first | rw [spl_d] | rw [spl2_d]); rw [pr_eta]
  exact acP.cons (by decide) (ac_sX3_runs_2_m1_1_f1_f1 x N (acB 36 3 38 0 2 f) L (acB.r (by decide) h (by decide)) (acB.n (by decide) (by decide) hn))
theorem ac_sX3_does_2_0_0_f0_f2 (x N : Int32) (f : sg_F) (L : sg_L) (h : f 36 3 = 0) (hn : f 36 5 = N) : acP 36 3 38 5 0 1 N (x + N) [1] f (sX3_does_2_0_0_f0_f2 x f L) := by
  unfold sX3_does_2_0_0_f0_f2 sX3_does_2_0_0_f0_f2_b53 sX3_runs_1_m1_1_f1_f2; (repeat first | rw [spl_d] | rw [spl2_d])
  exact acP.leaf (by decide) (by decide) (by decide) h (by decide) hn (by show x + acB 36 3 38 0 1 f 36 5 = (x + N); rw [acB.n (by decide) (by decide) hn])
theorem ac_sX3_does_2_0_2_f2_f2 (x N : Int32) (f : sg_F) (L : sg_L) (h : f 36 3 = 2) (hn : f 36 5 = N) : acP 36 3 38 5 2 3 N (x + N) [1] f (sX3_does_2_0_2_f2_f2 x f L) := by
  unfold sX3_does_2_0_2_f2_f2 sX3_does_2_0_2_f2_f2_b53 sX3_runs_1_m1_3_f3_f2; (repeat first | rw [spl_d] | rw [spl2_d])
  exact acP.leaf (by decide) (by decide) (by decide) h (by decide) hn (by show x + acB 36 3 38 2 1 f 36 5 = (x + N); rw [acB.n (by decide) (by decide) hn])
theorem ac_sX3_runs_10_m1_2_f2_f2 (x N : Int32) (f : sg_F) (L : sg_L) (h : f 36 3 = 2) (hn : f 36 5 = N) : acP 36 3 38 5 2 3 N ((x + N) * 2) [1] f (sX3_runs_10_m1_2_f2_f2 x f L) := by
  unfold sX3_runs_10_m1_2_f2_f2; (repeat first | rw [spl_d] | rw [spl2_d])
  exact acP.map (ac_sX3_does_2_0_2_f2_f2 x N f L h hn) (fun z => by rw [z])
theorem ac_sX3_does_0_1_1_f1_f2 (x N : Int32) (f : sg_F) (L : sg_L) (h : f 36 3 = 1) (hn : f 36 5 = N) : acP 36 3 38 5 1 3 N ((x + N) * 2) [10, 1] f (sX3_does_0_1_1_f1_f2 x f L) := by
  unfold sX3_does_0_1_1_f1_f2 sX3_does_0_1_1_f1_f2_b53; (repeat first | rw [spl_d] | rw [spl2_d]); rw [pr_eta]
  exact acP.cons (by decide) (ac_sX3_runs_10_m1_2_f2_f2 x N (acB 36 3 38 1 10 f) L (acB.r (by decide) h (by decide)) (acB.n (by decide) (by decide) hn))
theorem ac_sX3_runs_30_0_1_f1_f2 (x N : Int32) (f : sg_F) (L : sg_L) (h : f 36 3 = 1) (hn : f 36 5 = N) : acP 36 3 38 5 1 3 N (-((x + N) * 2)) [10, 1] f (sX3_runs_30_0_1_f1_f2 x f L) := by
  unfold sX3_runs_30_0_1_f1_f2; (repeat first | rw [spl_d] | rw [spl2_d])
  exact acP.map (ac_sX3_does_0_1_1_f1_f2 x N f L h hn) (fun z => by rw [z])
theorem ac_sX3_does_2_1_0_f0_f2 (x N : Int32) (f : sg_F) (L : sg_L) (h : f 36 3 = 0) (hn : f 36 5 = N) : acP 36 3 38 5 0 3 N (-((x + N) * 2)) [30, 10, 1] f (sX3_does_2_1_0_f0_f2 x f L) := by
  unfold sX3_does_2_1_0_f0_f2 sX3_does_2_1_0_f0_f2_b53; (repeat first | rw [spl_d] | rw [spl2_d]); rw [pr_eta]
  exact acP.cons (by decide) (ac_sX3_runs_30_0_1_f1_f2 x N (acB 36 3 38 0 30 f) L (acB.r (by decide) h (by decide)) (acB.n (by decide) (by decide) hn))
theorem ac_sX3_does_2_2_0_f0_f2 (x N : Int32) (f : sg_F) (L : sg_L) (h : f 36 3 = 0) (hn : f 36 5 = N) : acP 36 3 38 5 0 1 N (x ^^^ N) [11] f (sX3_does_2_2_0_f0_f2 x f L) := by
  unfold sX3_does_2_2_0_f0_f2 sX3_does_2_2_0_f0_f2_b53 sX3_runs_11_m1_1_f1_f2; (repeat first | rw [spl_d] | rw [spl2_d])
  exact acP.leaf (by decide) (by decide) (by decide) h (by decide) hn (by show x ^^^ acB 36 3 38 0 11 f 36 5 = (x ^^^ N); rw [acB.n (by decide) (by decide) hn])
theorem ac_sX3_does_2_0_3_f3_f2 (x N : Int32) (f : sg_F) (L : sg_L) (h : f 36 3 = 3) (hn : f 36 5 = N) : acP 36 3 38 5 3 4 N (x + N) [1] f (sX3_does_2_0_3_f3_f2 x f L) := by
  unfold sX3_does_2_0_3_f3_f2 sX3_does_2_0_3_f3_f2_b53 sX3_runs_1_m1_4_f4_f2; (repeat first | rw [spl_d] | rw [spl2_d])
  exact acP.leaf (by decide) (by decide) (by decide) h (by decide) hn (by show x + acB 36 3 38 3 1 f 36 5 = (x + N); rw [acB.n (by decide) (by decide) hn])
theorem ac_sX3_runs_10_m1_3_f3_f2 (x N : Int32) (f : sg_F) (L : sg_L) (h : f 36 3 = 3) (hn : f 36 5 = N) : acP 36 3 38 5 3 4 N ((x + N) * 2) [1] f (sX3_runs_10_m1_3_f3_f2 x f L) := by
  unfold sX3_runs_10_m1_3_f3_f2; (repeat first | rw [spl_d] | rw [spl2_d])
  exact acP.map (ac_sX3_does_2_0_3_f3_f2 x N f L h hn) (fun z => by rw [z])
theorem ac_sX3_does_0_1_2_f2_f2 (x N : Int32) (f : sg_F) (L : sg_L) (h : f 36 3 = 2) (hn : f 36 5 = N) : acP 36 3 38 5 2 4 N ((x + N) * 2) [10, 1] f (sX3_does_0_1_2_f2_f2 x f L) := by
  unfold sX3_does_0_1_2_f2_f2 sX3_does_0_1_2_f2_f2_b53; (repeat first | rw [spl_d] | rw [spl2_d]); rw [pr_eta]
  exact acP.cons (by decide) (ac_sX3_runs_10_m1_3_f3_f2 x N (acB 36 3 38 2 10 f) L (acB.r (by decide) h (by decide)) (acB.n (by decide) (by decide) hn))
theorem ac_sX3_runs_30_0_2_f2_f2 (x N : Int32) (f : sg_F) (L : sg_L) (h : f 36 3 = 2) (hn : f 36 5 = N) : acP 36 3 38 5 2 4 N (-((x + N) * 2)) [10, 1] f (sX3_runs_30_0_2_f2_f2 x f L) := by
  unfold sX3_runs_30_0_2_f2_f2; (repeat first | rw [spl_d] | rw [spl2_d])
  exact acP.map (ac_sX3_does_0_1_2_f2_f2 x N f L h hn) (fun z => by rw [z])
theorem ac_sX3_does_2_1_1_f1_f2 (x N : Int32) (f : sg_F) (L : sg_L) (h : f 36 3 = 1) (hn : f 36 5 = N) : acP 36 3 38 5 1 4 N (-((x + N) * 2)) [30, 10, 1] f (sX3_does_2_1_1_f1_f2 x f L) := by
  unfold sX3_does_2_1_1_f1_f2 sX3_does_2_1_1_f1_f2_b53; (repeat first | rw [spl_d] | rw [spl2_d]); rw [pr_eta]
  exact acP.cons (by decide) (ac_sX3_runs_30_0_2_f2_f2 x N (acB 36 3 38 1 30 f) L (acB.r (by decide) h (by decide)) (acB.n (by decide) (by decide) hn))
theorem ac_sX3_does_2_2_1_f4_f2 (x N : Int32) (f : sg_F) (L : sg_L) (h : f 36 3 = 4) (hn : f 36 5 = N) : acP 36 3 38 5 4 5 N (x ^^^ N) [11] f (sX3_does_2_2_1_f4_f2 x f L) := by
  unfold sX3_does_2_2_1_f4_f2 sX3_does_2_2_1_f4_f2_b53 sX3_runs_11_m1_2_f5_f2; (repeat first | rw [spl_d] | rw [spl2_d])
  exact acP.leaf (by decide) (by decide) (by decide) h (by decide) hn (by show x ^^^ acB 36 3 38 4 11 f 36 5 = (x ^^^ N); rw [acB.n (by decide) (by decide) hn])
theorem ac_sX3_runs_2_m1_1_f1_f2 (x N : Int32) (f : sg_F) (L : sg_L) (h : f 36 3 = 1) (hn : f 36 5 = N) : acP 36 3 38 5 1 5 N ((-((x + N) * 2)) - (1 ^^^ N)) [30, 10, 1, 11] f (sX3_runs_2_m1_1_f1_f2 x f L) := by
  unfold sX3_runs_2_m1_1_f1_f2; (repeat first | rw [spl_d] | rw [spl2_d])
  exact acP.two (ac_sX3_does_2_1_1_f1_f2 x N f L h hn) (ac_sX3_does_2_2_1_f4_f2 1 N (sX3_does_2_1_1_f1_f2 x f L).2 L (ac_sX3_does_2_1_1_f1_f2 x N f L h hn).2.1 (ac_sX3_does_2_1_1_f1_f2 x N f L h hn).2.2.1) rfl rfl (fun z1 z2 => by rw [z1, z2])
theorem ac_sX3_does_2_3_0_f0_f2 (x N : Int32) (f : sg_F) (L : sg_L) (h : f 36 3 = 0) (hn : f 36 5 = N) : acP 36 3 38 5 0 5 N ((-((x + N) * 2)) - (1 ^^^ N)) [2, 30, 10, 1, 11] f (sX3_does_2_3_0_f0_f2 x f L) := by
  unfold sX3_does_2_3_0_f0_f2 sX3_does_2_3_0_f0_f2_b53; (repeat first | rw [spl_d] | rw [spl2_d]); rw [pr_eta]
  exact acP.cons (by decide) (ac_sX3_runs_2_m1_1_f1_f2 x N (acB 36 3 38 0 2 f) L (acB.r (by decide) h (by decide)) (acB.n (by decide) (by decide) hn))
theorem ac_sX3_does_3_0_0_f0_f3 (x N : Int32) (f : sg_F) (L : sg_L) (h : f 36 3 = 0) (hn : f 36 5 = N) : acP 36 3 38 5 0 1 N (x + N) [1] f (sX3_does_3_0_0_f0_f3 x f L) := by
  unfold sX3_does_3_0_0_f0_f3 sX3_does_3_0_0_f0_f3_b53 sX3_runs_1_m1_1_f1_f3; (repeat first | rw [spl_d] | rw [spl2_d])
  exact acP.leaf (by decide) (by decide) (by decide) h (by decide) hn (by show x + acB 36 3 38 0 1 f 36 5 = (x + N); rw [acB.n (by decide) (by decide) hn])
theorem ac_sX3_does_3_0_3_f3_f3 (x N : Int32) (f : sg_F) (L : sg_L) (h : f 36 3 = 3) (hn : f 36 5 = N) : acP 36 3 38 5 3 4 N (x + N) [1] f (sX3_does_3_0_3_f3_f3 x f L) := by
  unfold sX3_does_3_0_3_f3_f3 sX3_does_3_0_3_f3_f3_b53 sX3_runs_1_m1_4_f4_f3; (repeat first | rw [spl_d] | rw [spl2_d])
  exact acP.leaf (by decide) (by decide) (by decide) h (by decide) hn (by show x + acB 36 3 38 3 1 f 36 5 = (x + N); rw [acB.n (by decide) (by decide) hn])
theorem ac_sX3_runs_10_m1_3_f3_f3 (x N : Int32) (f : sg_F) (L : sg_L) (h : f 36 3 = 3) (hn : f 36 5 = N) : acP 36 3 38 5 3 4 N ((x + N) * 2) [1] f (sX3_runs_10_m1_3_f3_f3 x f L) := by
  unfold sX3_runs_10_m1_3_f3_f3; (repeat first | rw [spl_d] | rw [spl2_d])
  exact acP.map (ac_sX3_does_3_0_3_f3_f3 x N f L h hn) (fun z => by rw [z])
theorem ac_sX3_does_0_1_2_f2_f3 (x N : Int32) (f : sg_F) (L : sg_L) (h : f 36 3 = 2) (hn : f 36 5 = N) : acP 36 3 38 5 2 4 N ((x + N) * 2) [10, 1] f (sX3_does_0_1_2_f2_f3 x f L) := by
  unfold sX3_does_0_1_2_f2_f3 sX3_does_0_1_2_f2_f3_b53; (repeat first | rw [spl_d] | rw [spl2_d]); rw [pr_eta]
  exact acP.cons (by decide) (ac_sX3_runs_10_m1_3_f3_f3 x N (acB 36 3 38 2 10 f) L (acB.r (by decide) h (by decide)) (acB.n (by decide) (by decide) hn))
theorem ac_sX3_runs_30_0_2_f2_f3 (x N : Int32) (f : sg_F) (L : sg_L) (h : f 36 3 = 2) (hn : f 36 5 = N) : acP 36 3 38 5 2 4 N (-((x + N) * 2)) [10, 1] f (sX3_runs_30_0_2_f2_f3 x f L) := by
  unfold sX3_runs_30_0_2_f2_f3; (repeat first | rw [spl_d] | rw [spl2_d])
  exact acP.map (ac_sX3_does_0_1_2_f2_f3 x N f L h hn) (fun z => by rw [z])
theorem ac_sX3_does_2_1_1_f1_f3 (x N : Int32) (f : sg_F) (L : sg_L) (h : f 36 3 = 1) (hn : f 36 5 = N) : acP 36 3 38 5 1 4 N (-((x + N) * 2)) [30, 10, 1] f (sX3_does_2_1_1_f1_f3 x f L) := by
  unfold sX3_does_2_1_1_f1_f3 sX3_does_2_1_1_f1_f3_b53; (repeat first | rw [spl_d] | rw [spl2_d]); rw [pr_eta]
  exact acP.cons (by decide) (ac_sX3_runs_30_0_2_f2_f3 x N (acB 36 3 38 1 30 f) L (acB.r (by decide) h (by decide)) (acB.n (by decide) (by decide) hn))
theorem ac_sX3_runs_41_2_1_f1_f3 (x N : Int32) (f : sg_F) (L : sg_L) (h : f 36 3 = 1) (hn : f 36 5 = N) : acP 36 3 38 5 1 4 N (-(((x + 1) + N) * 2)) [30, 10, 1] f (sX3_runs_41_2_1_f1_f3 x f L) := by
  unfold sX3_runs_41_2_1_f1_f3; (repeat first | rw [spl_d] | rw [spl2_d])
  exact acP.map (ac_sX3_does_2_1_1_f1_f3 (x + 1) N f L h hn) (fun z => z)
theorem ac_sX3_does_3_1_0_f0_f3 (x N : Int32) (f : sg_F) (L : sg_L) (h : f 36 3 = 0) (hn : f 36 5 = N) : acP 36 3 38 5 0 4 N (-(((x + 1) + N) * 2)) [41, 30, 10, 1] f (sX3_does_3_1_0_f0_f3 x f L) := by
  unfold sX3_does_3_1_0_f0_f3 sX3_does_3_1_0_f0_f3_b53; (repeat first | rw [spl_d] | rw [spl2_d]); rw [pr_eta]
  exact acP.cons (by decide) (ac_sX3_runs_41_2_1_f1_f3 x N (acB 36 3 38 0 41 f) L (acB.r (by decide) h (by decide)) (acB.n (by decide) (by decide) hn))
theorem ac_sX3_does_2_2_1_f1_f3 (x N : Int32) (f : sg_F) (L : sg_L) (h : f 36 3 = 1) (hn : f 36 5 = N) : acP 36 3 38 5 1 2 N (x ^^^ N) [11] f (sX3_does_2_2_1_f1_f3 x f L) := by
  unfold sX3_does_2_2_1_f1_f3 sX3_does_2_2_1_f1_f3_b53 sX3_runs_11_m1_2_f2_f3; (repeat first | rw [spl_d] | rw [spl2_d])
  exact acP.leaf (by decide) (by decide) (by decide) h (by decide) hn (by show x ^^^ acB 36 3 38 1 11 f 36 5 = (x ^^^ N); rw [acB.n (by decide) (by decide) hn])
theorem ac_sX3_runs_40_2_1_f1_f3 (x N : Int32) (f : sg_F) (L : sg_L) (h : f 36 3 = 1) (hn : f 36 5 = N) : acP 36 3 38 5 1 2 N ((x ^^^ N) * 3) [11] f (sX3_runs_40_2_1_f1_f3 x f L) := by
  unfold sX3_runs_40_2_1_f1_f3; (repeat first | rw [spl_d] | rw [spl2_d])
  exact acP.map (ac_sX3_does_2_2_1_f1_f3 x N f L h hn) (fun z => by rw [z])
theorem ac_sX3_does_3_2_0_f0_f3 (x N : Int32) (f : sg_F) (L : sg_L) (h : f 36 3 = 0) (hn : f 36 5 = N) : acP 36 3 38 5 0 2 N ((x ^^^ N) * 3) [40, 11] f (sX3_does_3_2_0_f0_f3 x f L) := by
  unfold sX3_does_3_2_0_f0_f3 sX3_does_3_2_0_f0_f3_b53; (repeat first | rw [spl_d] | rw [spl2_d]); rw [pr_eta]
  exact acP.cons (by decide) (ac_sX3_runs_40_2_1_f1_f3 x N (acB 36 3 38 0 40 f) L (acB.r (by decide) h (by decide)) (acB.n (by decide) (by decide) hn))
theorem ac_sX3_does_3_0_4_f4_f3 (x N : Int32) (f : sg_F) (L : sg_L) (h : f 36 3 = 4) (hn : f 36 5 = N) : acP 36 3 38 5 4 5 N (x + N) [1] f (sX3_does_3_0_4_f4_f3 x f L) := by
  unfold sX3_does_3_0_4_f4_f3 sX3_does_3_0_4_f4_f3_b53 sX3_runs_1_m1_5_f5_f3; (repeat first | rw [spl_d] | rw [spl2_d])
  exact acP.leaf (by decide) (by decide) (by decide) h (by decide) hn (by show x + acB 36 3 38 4 1 f 36 5 = (x + N); rw [acB.n (by decide) (by decide) hn])
theorem ac_sX3_runs_10_m1_4_f4_f3 (x N : Int32) (f : sg_F) (L : sg_L) (h : f 36 3 = 4) (hn : f 36 5 = N) : acP 36 3 38 5 4 5 N ((x + N) * 2) [1] f (sX3_runs_10_m1_4_f4_f3 x f L) := by
  unfold sX3_runs_10_m1_4_f4_f3; (repeat first | rw [spl_d] | rw [spl2_d])
  exact acP.map (ac_sX3_does_3_0_4_f4_f3 x N f L h hn) (fun z => by rw [z])
theorem ac_sX3_does_0_1_3_f3_f3 (x N : Int32) (f : sg_F) (L : sg_L) (h : f 36 3 = 3) (hn : f 36 5 = N) : acP 36 3 38 5 3 5 N ((x + N) * 2) [10, 1] f (sX3_does_0_1_3_f3_f3 x f L) := by
  unfold sX3_does_0_1_3_f3_f3 sX3_does_0_1_3_f3_f3_b53; (repeat first | rw [spl_d] | rw [spl2_d]); rw [pr_eta]
  exact acP.cons (by decide) (ac_sX3_runs_10_m1_4_f4_f3 x N (acB 36 3 38 3 10 f) L (acB.r (by decide) h (by decide)) (acB.n (by decide) (by decide) hn))
theorem ac_sX3_runs_30_0_3_f3_f3 (x N : Int32) (f : sg_F) (L : sg_L) (h : f 36 3 = 3) (hn : f 36 5 = N) : acP 36 3 38 5 3 5 N (-((x + N) * 2)) [10, 1] f (sX3_runs_30_0_3_f3_f3 x f L) := by
  unfold sX3_runs_30_0_3_f3_f3; (repeat first | rw [spl_d] | rw [spl2_d])
  exact acP.map (ac_sX3_does_0_1_3_f3_f3 x N f L h hn) (fun z => by rw [z])
theorem ac_sX3_does_2_1_2_f2_f3 (x N : Int32) (f : sg_F) (L : sg_L) (h : f 36 3 = 2) (hn : f 36 5 = N) : acP 36 3 38 5 2 5 N (-((x + N) * 2)) [30, 10, 1] f (sX3_does_2_1_2_f2_f3 x f L) := by
  unfold sX3_does_2_1_2_f2_f3 sX3_does_2_1_2_f2_f3_b53; (repeat first | rw [spl_d] | rw [spl2_d]); rw [pr_eta]
  exact acP.cons (by decide) (ac_sX3_runs_30_0_3_f3_f3 x N (acB 36 3 38 2 30 f) L (acB.r (by decide) h (by decide)) (acB.n (by decide) (by decide) hn))
theorem ac_sX3_runs_41_2_2_f2_f3 (x N : Int32) (f : sg_F) (L : sg_L) (h : f 36 3 = 2) (hn : f 36 5 = N) : acP 36 3 38 5 2 5 N (-(((x + 1) + N) * 2)) [30, 10, 1] f (sX3_runs_41_2_2_f2_f3 x f L) := by
  unfold sX3_runs_41_2_2_f2_f3; (repeat first | rw [spl_d] | rw [spl2_d])
  exact acP.map (ac_sX3_does_2_1_2_f2_f3 (x + 1) N f L h hn) (fun z => z)
theorem ac_sX3_does_3_1_1_f1_f3 (x N : Int32) (f : sg_F) (L : sg_L) (h : f 36 3 = 1) (hn : f 36 5 = N) : acP 36 3 38 5 1 5 N (-(((x + 1) + N) * 2)) [41, 30, 10, 1] f (sX3_does_3_1_1_f1_f3 x f L) := by
  unfold sX3_does_3_1_1_f1_f3 sX3_does_3_1_1_f1_f3_b53; (repeat first | rw [spl_d] | rw [spl2_d]); rw [pr_eta]
  exact acP.cons (by decide) (ac_sX3_runs_41_2_2_f2_f3 x N (acB 36 3 38 1 41 f) L (acB.r (by decide) h (by decide)) (acB.n (by decide) (by decide) hn))
theorem ac_sX3_does_2_2_2_f6_f3 (x N : Int32) (f : sg_F) (L : sg_L) (h : f 36 3 = 6) (hn : f 36 5 = N) : acP 36 3 38 5 6 7 N (x ^^^ N) [11] f (sX3_does_2_2_2_f6_f3 x f L) := by
  unfold sX3_does_2_2_2_f6_f3 sX3_does_2_2_2_f6_f3_b53 sX3_runs_11_m1_3_f7_f3; (repeat first | rw [spl_d] | rw [spl2_d])
  exact acP.leaf (by decide) (by decide) (by decide) h (by decide) hn (by show x ^^^ acB 36 3 38 6 11 f 36 5 = (x ^^^ N); rw [acB.n (by decide) (by decide) hn])
theorem ac_sX3_runs_40_2_2_f6_f3 (x N : Int32) (f : sg_F) (L : sg_L) (h : f 36 3 = 6) (hn : f 36 5 = N) : acP 36 3 38 5 6 7 N ((x ^^^ N) * 3) [11] f (sX3_runs_40_2_2_f6_f3 x f L) := by
  unfold sX3_runs_40_2_2_f6_f3; (repeat first | rw [spl_d] | rw [spl2_d])
  exact acP.map (ac_sX3_does_2_2_2_f6_f3 x N f L h hn) (fun z => by rw [z])
theorem ac_sX3_does_3_2_1_f5_f3 (x N : Int32) (f : sg_F) (L : sg_L) (h : f 36 3 = 5) (hn : f 36 5 = N) : acP 36 3 38 5 5 7 N ((x ^^^ N) * 3) [40, 11] f (sX3_does_3_2_1_f5_f3 x f L) := by
  unfold sX3_does_3_2_1_f5_f3 sX3_does_3_2_1_f5_f3_b53; (repeat first | rw [spl_d] | rw [spl2_d]); rw [pr_eta]
  exact acP.cons (by decide) (ac_sX3_runs_40_2_2_f6_f3 x N (acB 36 3 38 5 40 f) L (acB.r (by decide) h (by decide)) (acB.n (by decide) (by decide) hn))
theorem ac_sX3_runs_2_m1_1_f1_f3 (x N : Int32) (f : sg_F) (L : sg_L) (h : f 36 3 = 1) (hn : f 36 5 = N) : acP 36 3 38 5 1 7 N ((-(((x + 1) + N) * 2)) - ((1 ^^^ N) * 3)) [41, 30, 10, 1, 40, 11] f (sX3_runs_2_m1_1_f1_f3 x f L) := by
  unfold sX3_runs_2_m1_1_f1_f3; (repeat first | rw [spl_d] | rw [spl2_d])
  exact acP.two (ac_sX3_does_3_1_1_f1_f3 x N f L h hn) (ac_sX3_does_3_2_1_f5_f3 1 N (sX3_does_3_1_1_f1_f3 x f L).2 L (ac_sX3_does_3_1_1_f1_f3 x N f L h hn).2.1 (ac_sX3_does_3_1_1_f1_f3 x N f L h hn).2.2.1) rfl rfl (fun z1 z2 => by rw [z1, z2])
theorem ac_sX3_does_3_3_0_f0_f3 (x N : Int32) (f : sg_F) (L : sg_L) (h : f 36 3 = 0) (hn : f 36 5 = N) : acP 36 3 38 5 0 7 N ((-(((x + 1) + N) * 2)) - ((1 ^^^ N) * 3)) [2, 41, 30, 10, 1, 40, 11] f (sX3_does_3_3_0_f0_f3 x f L) := by
  unfold sX3_does_3_3_0_f0_f3 sX3_does_3_3_0_f0_f3_b53; (repeat first | rw [spl_d] | rw [spl2_d]); rw [pr_eta]
  exact acP.cons (by decide) (ac_sX3_runs_2_m1_1_f1_f3 x N (acB 36 3 38 0 2 f) L (acB.r (by decide) h (by decide)) (acB.n (by decide) (by decide) hn))
theorem ac_sX3_does_0_0_1_f1_f4 (x N : Int32) (f : sg_F) (L : sg_L) (h : f 36 3 = 1) (hn : f 36 5 = N) : acP 36 3 38 5 1 2 N (x + N) [1] f (sX3_does_0_0_1_f1_f4 x f L) := by
  unfold sX3_does_0_0_1_f1_f4 sX3_does_0_0_1_f1_f4_b53 sX3_runs_1_m1_2_f2_f4; (repeat first | rw [spl_d] | rw [spl2_d])
  exact acP.leaf (by decide) (by decide) (by decide) h (by decide) hn (by show x + acB 36 3 38 1 1 f 36 5 = (x + N); rw [acB.n (by decide) (by decide) hn])
theorem ac_sX3_runs_20_0_1_f1_f4 (x N : Int32) (f : sg_F) (L : sg_L) (h : f 36 3 = 1) (hn : f 36 5 = N) : acP 36 3 38 5 1 2 N ((x + N) + 3) [1] f (sX3_runs_20_0_1_f1_f4 x f L) := by
  unfold sX3_runs_20_0_1_f1_f4; (repeat first | rw [spl_d] | rw [spl2_d])
  exact acP.map (ac_sX3_does_0_0_1_f1_f4 x N f L h hn) (fun z => by rw [z])
theorem ac_sX3_does_4_0_0_f0_f4 (x N : Int32) (f : sg_F) (L : sg_L) (h : f 36 3 = 0) (hn : f 36 5 = N) : acP 36 3 38 5 0 2 N ((x + N) + 3) [20, 1] f (sX3_does_4_0_0_f0_f4 x f L) := by
  unfold sX3_does_4_0_0_f0_f4 sX3_does_4_0_0_f0_f4_b53; (repeat first | rw [spl_d] | rw [spl2_d]); rw [pr_eta]
  exact acP.cons (by decide) (ac_sX3_runs_20_0_1_f1_f4 x N (acB 36 3 38 0 20 f) L (acB.r (by decide) h (by decide)) (acB.n (by decide) (by decide) hn))
theorem ac_sX3_does_0_0_2_f2_f4 (x N : Int32) (f : sg_F) (L : sg_L) (h : f 36 3 = 2) (hn : f 36 5 = N) : acP 36 3 38 5 2 3 N (x + N) [1] f (sX3_does_0_0_2_f2_f4 x f L) := by
  unfold sX3_does_0_0_2_f2_f4 sX3_does_0_0_2_f2_f4_b53 sX3_runs_1_m1_3_f3_f4; (repeat first | rw [spl_d] | rw [spl2_d])
  exact acP.leaf (by decide) (by decide) (by decide) h (by decide) hn (by show x + acB 36 3 38 2 1 f 36 5 = (x + N); rw [acB.n (by decide) (by decide) hn])
theorem ac_sX3_runs_20_0_2_f2_f4 (x N : Int32) (f : sg_F) (L : sg_L) (h : f 36 3 = 2) (hn : f 36 5 = N) : acP 36 3 38 5 2 3 N ((x + N) + 3) [1] f (sX3_runs_20_0_2_f2_f4 x f L) := by
  unfold sX3_runs_20_0_2_f2_f4; (repeat first | rw [spl_d] | rw [spl2_d])
  exact acP.map (ac_sX3_does_0_0_2_f2_f4 x N f L h hn) (fun z => by rw [z])
theorem ac_sX3_does_4_0_1_f1_f4 (x N : Int32) (f : sg_F) (L : sg_L) (h : f 36 3 = 1) (hn : f 36 5 = N) : acP 36 3 38 5 1 3 N ((x + N) + 3) [20, 1] f (sX3_does_4_0_1_f1_f4 x f L) := by
  unfold sX3_does_4_0_1_f1_f4 sX3_does_4_0_1_f1_f4_b53; (repeat first | rw [spl_d] | rw [spl2_d]); rw [pr_eta]
  exact acP.cons (by decide) (ac_sX3_runs_20_0_2_f2_f4 x N (acB 36 3 38 1 20 f) L (acB.r (by decide) h (by decide)) (acB.n (by decide) (by decide) hn))
theorem ac_sX3_runs_10_m1_1_f1_f4 (x N : Int32) (f : sg_F) (L : sg_L) (h : f 36 3 = 1) (hn : f 36 5 = N) : acP 36 3 38 5 1 3 N (((x + N) + 3) * 2) [20, 1] f (sX3_runs_10_m1_1_f1_f4 x f L) := by
  unfold sX3_runs_10_m1_1_f1_f4; (repeat first | rw [spl_d] | rw [spl2_d])
  exact acP.map (ac_sX3_does_4_0_1_f1_f4 x N f L h hn) (fun z => by rw [z])
theorem ac_sX3_does_4_1_0_f0_f4 (x N : Int32) (f : sg_F) (L : sg_L) (h : f 36 3 = 0) (hn : f 36 5 = N) : acP 36 3 38 5 0 3 N (((x + N) + 3) * 2) [10, 20, 1] f (sX3_does_4_1_0_f0_f4 x f L) := by
  unfold sX3_does_4_1_0_f0_f4 sX3_does_4_1_0_f0_f4_b53; (repeat first | rw [spl_d] | rw [spl2_d]); rw [pr_eta]
  exact acP.cons (by decide) (ac_sX3_runs_10_m1_1_f1_f4 x N (acB 36 3 38 0 10 f) L (acB.r (by decide) h (by decide)) (acB.n (by decide) (by decide) hn))
theorem ac_sX3_does_1_2_1_f1_f4 (x N : Int32) (f : sg_F) (L : sg_L) (h : f 36 3 = 1) (hn : f 36 5 = N) : acP 36 3 38 5 1 2 N (x ^^^ N) [11] f (sX3_does_1_2_1_f1_f4 x f L) := by
  unfold sX3_does_1_2_1_f1_f4 sX3_does_1_2_1_f1_f4_b53 sX3_runs_11_m1_2_f2_f4; (repeat first | rw [spl_d] | rw [spl2_d])
  exact acP.leaf (by decide) (by decide) (by decide) h (by decide) hn (by show x ^^^ acB 36 3 38 1 11 f 36 5 = (x ^^^ N); rw [acB.n (by decide) (by decide) hn])
theorem ac_sX3_does_0_0_2_f3_f4 (x N : Int32) (f : sg_F) (L : sg_L) (h : f 36 3 = 3) (hn : f 36 5 = N) : acP 36 3 38 5 3 4 N (x + N) [1] f (sX3_does_0_0_2_f3_f4 x f L) := by
  unfold sX3_does_0_0_2_f3_f4 sX3_does_0_0_2_f3_f4_b53 sX3_runs_1_m1_3_f4_f4; (repeat first | rw [spl_d] | rw [spl2_d])
  exact acP.leaf (by decide) (by decide) (by decide) h (by decide) hn (by show x + acB 36 3 38 3 1 f 36 5 = (x + N); rw [acB.n (by decide) (by decide) hn])
theorem ac_sX3_runs_20_0_2_f3_f4 (x N : Int32) (f : sg_F) (L : sg_L) (h : f 36 3 = 3) (hn : f 36 5 = N) : acP 36 3 38 5 3 4 N ((x + N) + 3) [1] f (sX3_runs_20_0_2_f3_f4 x f L) := by
  unfold sX3_runs_20_0_2_f3_f4; (repeat first | rw [spl_d] | rw [spl2_d])
  exact acP.map (ac_sX3_does_0_0_2_f3_f4 x N f L h hn) (fun z => by rw [z])
theorem ac_sX3_does_4_0_1_f2_f4 (x N : Int32) (f : sg_F) (L : sg_L) (h : f 36 3 = 2) (hn : f 36 5 = N) : acP 36 3 38 5 2 4 N ((x + N) + 3) [20, 1] f (sX3_does_4_0_1_f2_f4 x f L) := by
  unfold sX3_does_4_0_1_f2_f4 sX3_does_4_0_1_f2_f4_b53; (repeat first | rw [spl_d] | rw [spl2_d]); rw [pr_eta]
  exact acP.cons (by decide) (ac_sX3_runs_20_0_2_f3_f4 x N (acB 36 3 38 2 20 f) L (acB.r (by decide) h (by decide)) (acB.n (by decide) (by decide) hn))
theorem ac_sX3_runs_50_1_1_f1_f4 (x N : Int32) (f : sg_F) (L : sg_L) (h : f 36 3 = 1) (hn : f 36 5 = N) : acP 36 3 38 5 1 4 N ((x ^^^ N) - ((2 + N) + 3)) [11, 20, 1] f (sX3_runs_50_1_1_f1_f4 x f L) := by
  unfold sX3_runs_50_1_1_f1_f4; (repeat first | rw [spl_d] | rw [spl2_d])
  exact acP.two (ac_sX3_does_1_2_1_f1_f4 x N f L h hn) (ac_sX3_does_4_0_1_f2_f4 2 N (sX3_does_1_2_1_f1_f4 x f L).2 L (ac_sX3_does_1_2_1_f1_f4 x N f L h hn).2.1 (ac_sX3_does_1_2_1_f1_f4 x N f L h hn).2.2.1) rfl rfl (fun z1 z2 => by rw [z1, z2])
theorem ac_sX3_does_4_2_0_f0_f4 (x N : Int32) (f : sg_F) (L : sg_L) (h : f 36 3 = 0) (hn : f 36 5 = N) : acP 36 3 38 5 0 4 N ((x ^^^ N) - ((2 + N) + 3)) [50, 11, 20, 1] f (sX3_does_4_2_0_f0_f4 x f L) := by
  unfold sX3_does_4_2_0_f0_f4 sX3_does_4_2_0_f0_f4_b53; (repeat first | rw [spl_d] | rw [spl2_d]); rw [pr_eta]
  exact acP.cons (by decide) (ac_sX3_runs_50_1_1_f1_f4 x N (acB 36 3 38 0 50 f) L (acB.r (by decide) h (by decide)) (acB.n (by decide) (by decide) hn))
theorem ac_sX3_does_0_0_3_f3_f4 (x N : Int32) (f : sg_F) (L : sg_L) (h : f 36 3 = 3) (hn : f 36 5 = N) : acP 36 3 38 5 3 4 N (x + N) [1] f (sX3_does_0_0_3_f3_f4 x f L) := by
  unfold sX3_does_0_0_3_f3_f4 sX3_does_0_0_3_f3_f4_b53 sX3_runs_1_m1_4_f4_f4; (repeat first | rw [spl_d] | rw [spl2_d])
  exact acP.leaf (by decide) (by decide) (by decide) h (by decide) hn (by show x + acB 36 3 38 3 1 f 36 5 = (x + N); rw [acB.n (by decide) (by decide) hn])
theorem ac_sX3_runs_20_0_3_f3_f4 (x N : Int32) (f : sg_F) (L : sg_L) (h : f 36 3 = 3) (hn : f 36 5 = N) : acP 36 3 38 5 3 4 N ((x + N) + 3) [1] f (sX3_runs_20_0_3_f3_f4 x f L) := by
  unfold sX3_runs_20_0_3_f3_f4; (repeat first | rw [spl_d] | rw [spl2_d])
  exact acP.map (ac_sX3_does_0_0_3_f3_f4 x N f L h hn) (fun z => by rw [z])
theorem ac_sX3_does_4_0_2_f2_f4 (x N : Int32) (f : sg_F) (L : sg_L) (h : f 36 3 = 2) (hn : f 36 5 = N) : acP 36 3 38 5 2 4 N ((x + N) + 3) [20, 1] f (sX3_does_4_0_2_f2_f4 x f L) := by
  unfold sX3_does_4_0_2_f2_f4 sX3_does_4_0_2_f2_f4_b53; (repeat first | rw [spl_d] | rw [spl2_d]); rw [pr_eta]
  exact acP.cons (by decide) (ac_sX3_runs_20_0_3_f3_f4 x N (acB 36 3 38 2 20 f) L (acB.r (by decide) h (by decide)) (acB.n (by decide) (by decide) hn))
theorem ac_sX3_runs_10_m1_2_f2_f4 (x N : Int32) (f : sg_F) (L : sg_L) (h : f 36 3 = 2) (hn : f 36 5 = N) : acP 36 3 38 5 2 4 N (((x + N) + 3) * 2) [20, 1] f (sX3_runs_10_m1_2_f2_f4 x f L) := by
  unfold sX3_runs_10_m1_2_f2_f4; (repeat first | rw [spl_d] | rw [spl2_d])
  exact acP.map (ac_sX3_does_4_0_2_f2_f4 x N f L h hn) (fun z => by rw [z])
theorem ac_sX3_does_4_1_1_f1_f4 (x N : Int32) (f : sg_F) (L : sg_L) (h : f 36 3 = 1) (hn : f 36 5 = N) : acP 36 3 38 5 1 4 N (((x + N) + 3) * 2) [10, 20, 1] f (sX3_does_4_1_1_f1_f4 x f L) := by
  unfold sX3_does_4_1_1_f1_f4 sX3_does_4_1_1_f1_f4_b53; (repeat first | rw [spl_d] | rw [spl2_d]); rw [pr_eta]
  exact acP.cons (by decide) (ac_sX3_runs_10_m1_2_f2_f4 x N (acB 36 3 38 1 10 f) L (acB.r (by decide) h (by decide)) (acB.n (by decide) (by decide) hn))
theorem ac_sX3_does_1_2_2_f5_f4 (x N : Int32) (f : sg_F) (L : sg_L) (h : f 36 3 = 5) (hn : f 36 5 = N) : acP 36 3 38 5 5 6 N (x ^^^ N) [11] f (sX3_does_1_2_2_f5_f4 x f L) := by
  unfold sX3_does_1_2_2_f5_f4 sX3_does_1_2_2_f5_f4_b53 sX3_runs_11_m1_3_f6_f4; (repeat first | rw [spl_d] | rw [spl2_d])
  exact acP.leaf (by decide) (by decide) (by decide) h (by decide) hn (by show x ^^^ acB 36 3 38 5 11 f 36 5 = (x ^^^ N); rw [acB.n (by decide) (by decide) hn])
theorem ac_sX3_does_0_0_3_f7_f4 (x N : Int32) (f : sg_F) (L : sg_L) (h : f 36 3 = 7) (hn : f 36 5 = N) : acP 36 3 38 5 7 8 N (x + N) [1] f (sX3_does_0_0_3_f7_f4 x f L) := by
  unfold sX3_does_0_0_3_f7_f4 sX3_does_0_0_3_f7_f4_b53 sX3_runs_1_m1_4_f8_f4; (repeat first | rw [spl_d] | rw [spl2_d])
  exact acP.leaf (by decide) (by decide) (by decide) h (by decide) hn (by show x + acB 36 3 38 7 1 f 36 5 = (x + N); rw [acB.n (by decide) (by decide) hn])
theorem ac_sX3_runs_20_0_3_f7_f4 (x N : Int32) (f : sg_F) (L : sg_L) (h : f 36 3 = 7) (hn : f 36 5 = N) : acP 36 3 38 5 7 8 N ((x + N) + 3) [1] f (sX3_runs_20_0_3_f7_f4 x f L) := by
  unfold sX3_runs_20_0_3_f7_f4; (repeat first | rw [spl_d] | rw [spl2_d])
  exact acP.map (ac_sX3_does_0_0_3_f7_f4 x N f L h hn) (fun z => by rw [z])
theorem ac_sX3_does_4_0_2_f6_f4 (x N : Int32) (f : sg_F) (L : sg_L) (h : f 36 3 = 6) (hn : f 36 5 = N) : acP 36 3 38 5 6 8 N ((x + N) + 3) [20, 1] f (sX3_does_4_0_2_f6_f4 x f L) := by
  unfold sX3_does_4_0_2_f6_f4 sX3_does_4_0_2_f6_f4_b53; (repeat first | rw [spl_d] | rw [spl2_d]); rw [pr_eta]
  exact acP.cons (by decide) (ac_sX3_runs_20_0_3_f7_f4 x N (acB 36 3 38 6 20 f) L (acB.r (by decide) h (by decide)) (acB.n (by decide) (by decide) hn))
theorem ac_sX3_runs_50_1_2_f5_f4 (x N : Int32) (f : sg_F) (L : sg_L) (h : f 36 3 = 5) (hn : f 36 5 = N) : acP 36 3 38 5 5 8 N ((x ^^^ N) - ((2 + N) + 3)) [11, 20, 1] f (sX3_runs_50_1_2_f5_f4 x f L) := by
  unfold sX3_runs_50_1_2_f5_f4; (repeat first | rw [spl_d] | rw [spl2_d])
  exact acP.two (ac_sX3_does_1_2_2_f5_f4 x N f L h hn) (ac_sX3_does_4_0_2_f6_f4 2 N (sX3_does_1_2_2_f5_f4 x f L).2 L (ac_sX3_does_1_2_2_f5_f4 x N f L h hn).2.1 (ac_sX3_does_1_2_2_f5_f4 x N f L h hn).2.2.1) rfl rfl (fun z1 z2 => by rw [z1, z2])
theorem ac_sX3_does_4_2_1_f4_f4 (x N : Int32) (f : sg_F) (L : sg_L) (h : f 36 3 = 4) (hn : f 36 5 = N) : acP 36 3 38 5 4 8 N ((x ^^^ N) - ((2 + N) + 3)) [50, 11, 20, 1] f (sX3_does_4_2_1_f4_f4 x f L) := by
  unfold sX3_does_4_2_1_f4_f4 sX3_does_4_2_1_f4_f4_b53; (repeat first | rw [spl_d] | rw [spl2_d]); rw [pr_eta]
  exact acP.cons (by decide) (ac_sX3_runs_50_1_2_f5_f4 x N (acB 36 3 38 4 50 f) L (acB.r (by decide) h (by decide)) (acB.n (by decide) (by decide) hn))
theorem ac_sX3_runs_2_m1_1_f1_f4 (x N : Int32) (f : sg_F) (L : sg_L) (h : f 36 3 = 1) (hn : f 36 5 = N) : acP 36 3 38 5 1 8 N ((((x + N) + 3) * 2) - ((1 ^^^ N) - ((2 + N) + 3))) [10, 20, 1, 50, 11, 20, 1] f (sX3_runs_2_m1_1_f1_f4 x f L) := by
  unfold sX3_runs_2_m1_1_f1_f4; (repeat first | rw [spl_d] | rw [spl2_d])
  exact acP.two (ac_sX3_does_4_1_1_f1_f4 x N f L h hn) (ac_sX3_does_4_2_1_f4_f4 1 N (sX3_does_4_1_1_f1_f4 x f L).2 L (ac_sX3_does_4_1_1_f1_f4 x N f L h hn).2.1 (ac_sX3_does_4_1_1_f1_f4 x N f L h hn).2.2.1) rfl rfl (fun z1 z2 => by rw [z1, z2])
theorem ac_sX3_does_4_3_0_f0_f4 (x N : Int32) (f : sg_F) (L : sg_L) (h : f 36 3 = 0) (hn : f 36 5 = N) : acP 36 3 38 5 0 8 N ((((x + N) + 3) * 2) - ((1 ^^^ N) - ((2 + N) + 3))) [2, 10, 20, 1, 50, 11, 20, 1] f (sX3_does_4_3_0_f0_f4 x f L) := by
  unfold sX3_does_4_3_0_f0_f4 sX3_does_4_3_0_f0_f4_b53; (repeat first | rw [spl_d] | rw [spl2_d]); rw [pr_eta]
  exact acP.cons (by decide) (ac_sX3_runs_2_m1_1_f1_f4 x N (acB 36 3 38 0 2 f) L (acB.r (by decide) h (by decide)) (acB.n (by decide) (by decide) hn))
theorem ac_sX3_does_5_0_0_f0_f5 (x N : Int32) (f : sg_F) (L : sg_L) (h : f 36 3 = 0) (hn : f 36 5 = N) : acP 36 3 38 5 0 1 N (x + N) [1] f (sX3_does_5_0_0_f0_f5 x f L) := by
  unfold sX3_does_5_0_0_f0_f5 sX3_does_5_0_0_f0_f5_b53 sX3_runs_1_m1_1_f1_f5; (repeat first | rw [spl_d] | rw [spl2_d])
  exact acP.leaf (by decide) (by decide) (by decide) h (by decide) hn (by show x + acB 36 3 38 0 1 f 36 5 = (x + N); rw [acB.n (by decide) (by decide) hn])
theorem ac_sX3_does_5_0_3_f3_f5 (x N : Int32) (f : sg_F) (L : sg_L) (h : f 36 3 = 3) (hn : f 36 5 = N) : acP 36 3 38 5 3 4 N (x + N) [1] f (sX3_does_5_0_3_f3_f5 x f L) := by
  unfold sX3_does_5_0_3_f3_f5 sX3_does_5_0_3_f3_f5_b53 sX3_runs_1_m1_4_f4_f5; (repeat first | rw [spl_d] | rw [spl2_d])
  exact acP.leaf (by decide) (by decide) (by decide) h (by decide) hn (by show x + acB 36 3 38 3 1 f 36 5 = (x + N); rw [acB.n (by decide) (by decide) hn])
theorem ac_sX3_runs_10_m1_3_f3_f5 (x N : Int32) (f : sg_F) (L : sg_L) (h : f 36 3 = 3) (hn : f 36 5 = N) : acP 36 3 38 5 3 4 N ((x + N) * 2) [1] f (sX3_runs_10_m1_3_f3_f5 x f L) := by
  unfold sX3_runs_10_m1_3_f3_f5; (repeat first | rw [spl_d] | rw [spl2_d])
  exact acP.map (ac_sX3_does_5_0_3_f3_f5 x N f L h hn) (fun z => by rw [z])
theorem ac_sX3_does_0_1_2_f2_f5 (x N : Int32) (f : sg_F) (L : sg_L) (h : f 36 3 = 2) (hn : f 36 5 = N) : acP 36 3 38 5 2 4 N ((x + N) * 2) [10, 1] f (sX3_does_0_1_2_f2_f5 x f L) := by
  unfold sX3_does_0_1_2_f2_f5 sX3_does_0_1_2_f2_f5_b53; (repeat first | rw [spl_d] | rw [spl2_d]); rw [pr_eta]
  exact acP.cons (by decide) (ac_sX3_runs_10_m1_3_f3_f5 x N (acB 36 3 38 2 10 f) L (acB.r (by decide) h (by decide)) (acB.n (by decide) (by decide) hn))
theorem ac_sX3_runs_30_0_2_f2_f5 (x N : Int32) (f : sg_F) (L : sg_L) (h : f 36 3 = 2) (hn : f 36 5 = N) : acP 36 3 38 5 2 4 N (-((x + N) * 2)) [10, 1] f (sX3_runs_30_0_2_f2_f5 x f L) := by
  unfold sX3_runs_30_0_2_f2_f5; (repeat first | rw [spl_d] | rw [spl2_d])
  exact acP.map (ac_sX3_does_0_1_2_f2_f5 x N f L h hn) (fun z => by rw [z])
theorem ac_sX3_does_2_1_1_f1_f5 (x N : Int32) (f : sg_F) (L : sg_L) (h : f 36 3 = 1) (hn : f 36 5 = N) : acP 36 3 38 5 1 4 N (-((x + N) * 2)) [30, 10, 1] f (sX3_does_2_1_1_f1_f5 x f L) := by
  unfold sX3_does_2_1_1_f1_f5 sX3_does_2_1_1_f1_f5_b53; (repeat first | rw [spl_d] | rw [spl2_d]); rw [pr_eta]
  exact acP.cons (by decide) (ac_sX3_runs_30_0_2_f2_f5 x N (acB 36 3 38 1 30 f) L (acB.r (by decide) h (by decide)) (acB.n (by decide) (by decide) hn))
theorem ac_sX3_runs_41_2_1_f1_f5 (x N : Int32) (f : sg_F) (L : sg_L) (h : f 36 3 = 1) (hn : f 36 5 = N) : acP 36 3 38 5 1 4 N (-(((x + 1) + N) * 2)) [30, 10, 1] f (sX3_runs_41_2_1_f1_f5 x f L) := by
  unfold sX3_runs_41_2_1_f1_f5; (repeat first | rw [spl_d] | rw [spl2_d])
  exact acP.map (ac_sX3_does_2_1_1_f1_f5 (x + 1) N f L h hn) (fun z => z)
theorem ac_sX3_does_5_1_0_f0_f5 (x N : Int32) (f : sg_F) (L : sg_L) (h : f 36 3 = 0) (hn : f 36 5 = N) : acP 36 3 38 5 0 4 N (-(((x + 1) + N) * 2)) [41, 30, 10, 1] f (sX3_does_5_1_0_f0_f5 x f L) := by
  unfold sX3_does_5_1_0_f0_f5 sX3_does_5_1_0_f0_f5_b53; (repeat first | rw [spl_d] | rw [spl2_d]); rw [pr_eta]
  exact acP.cons (by decide) (ac_sX3_runs_41_2_1_f1_f5 x N (acB 36 3 38 0 41 f) L (acB.r (by decide) h (by decide)) (acB.n (by decide) (by decide) hn))
theorem ac_sX3_does_2_2_1_f1_f5 (x N : Int32) (f : sg_F) (L : sg_L) (h : f 36 3 = 1) (hn : f 36 5 = N) : acP 36 3 38 5 1 2 N (x ^^^ N) [11] f (sX3_does_2_2_1_f1_f5 x f L) := by
  unfold sX3_does_2_2_1_f1_f5 sX3_does_2_2_1_f1_f5_b53 sX3_runs_11_m1_2_f2_f5; (repeat first | rw [spl_d] | rw [spl2_d])
  exact acP.leaf (by decide) (by decide) (by decide) h (by decide) hn (by show x ^^^ acB 36 3 38 1 11 f 36 5 = (x ^^^ N); rw [acB.n (by decide) (by decide) hn])
theorem ac_sX3_runs_40_2_1_f1_f5 (x N : Int32) (f : sg_F) (L : sg_L) (h : f 36 3 = 1) (hn : f 36 5 = N) : acP 36 3 38 5 1 2 N ((x ^^^ N) * 3) [11] f (sX3_runs_40_2_1_f1_f5 x f L) := by
  unfold sX3_runs_40_2_1_f1_f5; (repeat first | rw [spl_d] | rw [spl2_d])
  exact acP.map (ac_sX3_does_2_2_1_f1_f5 x N f L h hn) (fun z => by rw [z])
theorem ac_sX3_does_5_2_0_f0_f5 (x N : Int32) (f : sg_F) (L : sg_L) (h : f 36 3 = 0) (hn : f 36 5 = N) : acP 36 3 38 5 0 2 N ((x ^^^ N) * 3) [40, 11] f (sX3_does_5_2_0_f0_f5 x f L) := by
  unfold sX3_does_5_2_0_f0_f5 sX3_does_5_2_0_f0_f5_b53; (repeat first | rw [spl_d] | rw [spl2_d]); rw [pr_eta]
  exact acP.cons (by decide) (ac_sX3_runs_40_2_1_f1_f5 x N (acB 36 3 38 0 40 f) L (acB.r (by decide) h (by decide)) (acB.n (by decide) (by decide) hn))
theorem ac_sX3_does_5_0_5_f5_f5 (x N : Int32) (f : sg_F) (L : sg_L) (h : f 36 3 = 5) (hn : f 36 5 = N) : acP 36 3 38 5 5 6 N (x + N) [1] f (sX3_does_5_0_5_f5_f5 x f L) := by
  unfold sX3_does_5_0_5_f5_f5 sX3_does_5_0_5_f5_f5_b53 sX3_runs_1_m1_6_f6_f5; (repeat first | rw [spl_d] | rw [spl2_d])
  exact acP.leaf (by decide) (by decide) (by decide) h (by decide) hn (by show x + acB 36 3 38 5 1 f 36 5 = (x + N); rw [acB.n (by decide) (by decide) hn])
theorem ac_sX3_runs_10_m1_5_f5_f5 (x N : Int32) (f : sg_F) (L : sg_L) (h : f 36 3 = 5) (hn : f 36 5 = N) : acP 36 3 38 5 5 6 N ((x + N) * 2) [1] f (sX3_runs_10_m1_5_f5_f5 x f L) := by
  unfold sX3_runs_10_m1_5_f5_f5; (repeat first | rw [spl_d] | rw [spl2_d])
  exact acP.map (ac_sX3_does_5_0_5_f5_f5 x N f L h hn) (fun z => by rw [z])
theorem ac_sX3_does_0_1_4_f4_f5 (x N : Int32) (f : sg_F) (L : sg_L) (h : f 36 3 = 4) (hn : f 36 5 = N) : acP 36 3 38 5 4 6 N ((x + N) * 2) [10, 1] f (sX3_does_0_1_4_f4_f5 x f L) := by
  unfold sX3_does_0_1_4_f4_f5 sX3_does_0_1_4_f4_f5_b53; (repeat first | rw [spl_d] | rw [spl2_d]); rw [pr_eta]
  exact acP.cons (by decide) (ac_sX3_runs_10_m1_5_f5_f5 x N (acB 36 3 38 4 10 f) L (acB.r (by decide) h (by decide)) (acB.n (by decide) (by decide) hn))
theorem ac_sX3_runs_30_0_4_f4_f5 (x N : Int32) (f : sg_F) (L : sg_L) (h : f 36 3 = 4) (hn : f 36 5 = N) : acP 36 3 38 5 4 6 N (-((x + N) * 2)) [10, 1] f (sX3_runs_30_0_4_f4_f5 x f L) := by
  unfold sX3_runs_30_0_4_f4_f5; (repeat first | rw [spl_d] | rw [spl2_d])
  exact acP.map (ac_sX3_does_0_1_4_f4_f5 x N f L h hn) (fun z => by rw [z])
theorem ac_sX3_does_2_1_3_f3_f5 (x N : Int32) (f : sg_F) (L : sg_L) (h : f 36 3 = 3) (hn : f 36 5 = N) : acP 36 3 38 5 3 6 N (-((x + N) * 2)) [30, 10, 1] f (sX3_does_2_1_3_f3_f5 x f L) := by
  unfold sX3_does_2_1_3_f3_f5 sX3_does_2_1_3_f3_f5_b53; (repeat first | rw [spl_d] | rw [spl2_d]); rw [pr_eta]
  exact acP.cons (by decide) (ac_sX3_runs_30_0_4_f4_f5 x N (acB 36 3 38 3 30 f) L (acB.r (by decide) h (by decide)) (acB.n (by decide) (by decide) hn))
theorem ac_sX3_runs_41_2_3_f3_f5 (x N : Int32) (f : sg_F) (L : sg_L) (h : f 36 3 = 3) (hn : f 36 5 = N) : acP 36 3 38 5 3 6 N (-(((x + 1) + N) * 2)) [30, 10, 1] f (sX3_runs_41_2_3_f3_f5 x f L) := by
  unfold sX3_runs_41_2_3_f3_f5; (repeat first | rw [spl_d] | rw [spl2_d])
  exact acP.map (ac_sX3_does_2_1_3_f3_f5 (x + 1) N f L h hn) (fun z => z)
theorem ac_sX3_does_5_1_2_f2_f5 (x N : Int32) (f : sg_F) (L : sg_L) (h : f 36 3 = 2) (hn : f 36 5 = N) : acP 36 3 38 5 2 6 N (-(((x + 1) + N) * 2)) [41, 30, 10, 1] f (sX3_does_5_1_2_f2_f5 x f L) := by
  unfold sX3_does_5_1_2_f2_f5 sX3_does_5_1_2_f2_f5_b53; (repeat first | rw [spl_d] | rw [spl2_d]); rw [pr_eta]
  exact acP.cons (by decide) (ac_sX3_runs_41_2_3_f3_f5 x N (acB 36 3 38 2 41 f) L (acB.r (by decide) h (by decide)) (acB.n (by decide) (by decide) hn))
theorem ac_sX3_does_2_2_3_f7_f5 (x N : Int32) (f : sg_F) (L : sg_L) (h : f 36 3 = 7) (hn : f 36 5 = N) : acP 36 3 38 5 7 8 N (x ^^^ N) [11] f (sX3_does_2_2_3_f7_f5 x f L) := by
  unfold sX3_does_2_2_3_f7_f5 sX3_does_2_2_3_f7_f5_b53 sX3_runs_11_m1_4_f8_f5; (repeat first | rw [spl_d] | rw [spl2_d])
  exact acP.leaf (by decide) (by decide) (by decide) h (by decide) hn (by show x ^^^ acB 36 3 38 7 11 f 36 5 = (x ^^^ N); rw [acB.n (by decide) (by decide) hn])
theorem ac_sX3_runs_40_2_3_f7_f5 (x N : Int32) (f : sg_F) (L : sg_L) (h : f 36 3 = 7) (hn : f 36 5 = N) : acP 36 3 38 5 7 8 N ((x ^^^ N) * 3) [11] f (sX3_runs_40_2_3_f7_f5 x f L) := by
  unfold sX3_runs_40_2_3_f7_f5; (repeat first | rw [spl_d] | rw [spl2_d])
  exact acP.map (ac_sX3_does_2_2_3_f7_f5 x N f L h hn) (fun z => by rw [z])
theorem ac_sX3_does_5_2_2_f6_f5 (x N : Int32) (f : sg_F) (L : sg_L) (h : f 36 3 = 6) (hn : f 36 5 = N) : acP 36 3 38 5 6 8 N ((x ^^^ N) * 3) [40, 11] f (sX3_does_5_2_2_f6_f5 x f L) := by
  unfold sX3_does_5_2_2_f6_f5 sX3_does_5_2_2_f6_f5_b53; (repeat first | rw [spl_d] | rw [spl2_d]); rw [pr_eta]
  exact acP.cons (by decide) (ac_sX3_runs_40_2_3_f7_f5 x N (acB 36 3 38 6 40 f) L (acB.r (by decide) h (by decide)) (acB.n (by decide) (by decide) hn))
theorem ac_sX3_runs_2_m1_2_f2_f5 (x N : Int32) (f : sg_F) (L : sg_L) (h : f 36 3 = 2) (hn : f 36 5 = N) : acP 36 3 38 5 2 8 N ((-(((x + 1) + N) * 2)) - ((1 ^^^ N) * 3)) [41, 30, 10, 1, 40, 11] f (sX3_runs_2_m1_2_f2_f5 x f L) := by
  unfold sX3_runs_2_m1_2_f2_f5; (repeat first | rw [spl_d] | rw [spl2_d])
  exact acP.two (ac_sX3_does_5_1_2_f2_f5 x N f L h hn) (ac_sX3_does_5_2_2_f6_f5 1 N (sX3_does_5_1_2_f2_f5 x f L).2 L (ac_sX3_does_5_1_2_f2_f5 x N f L h hn).2.1 (ac_sX3_does_5_1_2_f2_f5 x N f L h hn).2.2.1) rfl rfl (fun z1 z2 => by rw [z1, z2])
theorem ac_sX3_does_3_3_1_f1_f5 (x N : Int32) (f : sg_F) (L : sg_L) (h : f 36 3 = 1) (hn : f 36 5 = N) : acP 36 3 38 5 1 8 N ((-(((x + 1) + N) * 2)) - ((1 ^^^ N) * 3)) [2, 41, 30, 10, 1, 40, 11] f (sX3_does_3_3_1_f1_f5 x f L) := by
  unfold sX3_does_3_3_1_f1_f5 sX3_does_3_3_1_f1_f5_b53; (repeat first | rw [spl_d] | rw [spl2_d]); rw [pr_eta]
  exact acP.cons (by decide) (ac_sX3_runs_2_m1_2_f2_f5 x N (acB 36 3 38 1 2 f) L (acB.r (by decide) h (by decide)) (acB.n (by decide) (by decide) hn))
theorem ac_sX3_runs_60_3_1_f1_f5 (x N : Int32) (f : sg_F) (L : sg_L) (h : f 36 3 = 1) (hn : f 36 5 = N) : acP 36 3 38 5 1 8 N (((-(((x + 1) + N) * 2)) - ((1 ^^^ N) * 3)) ^^^ 5) [2, 41, 30, 10, 1, 40, 11] f (sX3_runs_60_3_1_f1_f5 x f L) := by
  unfold sX3_runs_60_3_1_f1_f5; (repeat first | rw [spl_d] | rw [spl2_d])
  exact acP.map (ac_sX3_does_3_3_1_f1_f5 x N f L h hn) (fun z => by rw [z])
theorem ac_sX3_does_5_3_0_f0_f5 (x N : Int32) (f : sg_F) (L : sg_L) (h : f 36 3 = 0) (hn : f 36 5 = N) : acP 36 3 38 5 0 8 N (((-(((x + 1) + N) * 2)) - ((1 ^^^ N) * 3)) ^^^ 5) [60, 2, 41, 30, 10, 1, 40, 11] f (sX3_does_5_3_0_f0_f5 x f L) := by
  unfold sX3_does_5_3_0_f0_f5 sX3_does_5_3_0_f0_f5_b53; (repeat first | rw [spl_d] | rw [spl2_d]); rw [pr_eta]
  exact acP.cons (by decide) (ac_sX3_runs_60_3_1_f1_f5 x N (acB 36 3 38 0 60 f) L (acB.r (by decide) h (by decide)) (acB.n (by decide) (by decide) hn))
theorem ac_sX3_does_0_0_1_f1_f6 (x N : Int32) (f : sg_F) (L : sg_L) (h : f 36 3 = 1) (hn : f 36 5 = N) : acP 36 3 38 5 1 2 N (x + N) [1] f (sX3_does_0_0_1_f1_f6 x f L) := by
  unfold sX3_does_0_0_1_f1_f6 sX3_does_0_0_1_f1_f6_b53 sX3_runs_1_m1_2_f2_f6; (repeat first | rw [spl_d] | rw [spl2_d])
  exact acP.leaf (by decide) (by decide) (by decide) h (by decide) hn (by show x + acB 36 3 38 1 1 f 36 5 = (x + N); rw [acB.n (by decide) (by decide) hn])
theorem ac_sX3_runs_70_0_1_f1_f6 (x N : Int32) (f : sg_F) (L : sg_L) (h : f 36 3 = 1) (hn : f 36 5 = N) : acP 36 3 38 5 1 2 N ((x + N) * 2) [1] f (sX3_runs_70_0_1_f1_f6 x f L) := by
  unfold sX3_runs_70_0_1_f1_f6; (repeat first | rw [spl_d] | rw [spl2_d])
  exact acP.map (ac_sX3_does_0_0_1_f1_f6 x N f L h hn) (fun z => by rw [z])
theorem ac_sX3_does_6_0_0_f0_f6 (x N : Int32) (f : sg_F) (L : sg_L) (h : f 36 3 = 0) (hn : f 36 5 = N) : acP 36 3 38 5 0 2 N ((x + N) * 2) [70, 1] f (sX3_does_6_0_0_f0_f6 x f L) := by
  unfold sX3_does_6_0_0_f0_f6 sX3_does_6_0_0_f0_f6_b53; (repeat first | rw [spl_d] | rw [spl2_d]); rw [pr_eta]
  exact acP.cons (by decide) (ac_sX3_runs_70_0_1_f1_f6 x N (acB 36 3 38 0 70 f) L (acB.r (by decide) h (by decide)) (acB.n (by decide) (by decide) hn))
theorem ac_sX3_does_0_0_2_f2_f6 (x N : Int32) (f : sg_F) (L : sg_L) (h : f 36 3 = 2) (hn : f 36 5 = N) : acP 36 3 38 5 2 3 N (x + N) [1] f (sX3_does_0_0_2_f2_f6 x f L) := by
  unfold sX3_does_0_0_2_f2_f6 sX3_does_0_0_2_f2_f6_b53 sX3_runs_1_m1_3_f3_f6; (repeat first | rw [spl_d] | rw [spl2_d])
  exact acP.leaf (by decide) (by decide) (by decide) h (by decide) hn (by show x + acB 36 3 38 2 1 f 36 5 = (x + N); rw [acB.n (by decide) (by decide) hn])
theorem ac_sX3_runs_70_0_2_f2_f6 (x N : Int32) (f : sg_F) (L : sg_L) (h : f 36 3 = 2) (hn : f 36 5 = N) : acP 36 3 38 5 2 3 N ((x + N) * 2) [1] f (sX3_runs_70_0_2_f2_f6 x f L) := by
  unfold sX3_runs_70_0_2_f2_f6; (repeat first | rw [spl_d] | rw [spl2_d])
  exact acP.map (ac_sX3_does_0_0_2_f2_f6 x N f L h hn) (fun z => by rw [z])
theorem ac_sX3_does_6_0_1_f1_f6 (x N : Int32) (f : sg_F) (L : sg_L) (h : f 36 3 = 1) (hn : f 36 5 = N) : acP 36 3 38 5 1 3 N ((x + N) * 2) [70, 1] f (sX3_does_6_0_1_f1_f6 x f L) := by
  unfold sX3_does_6_0_1_f1_f6 sX3_does_6_0_1_f1_f6_b53; (repeat first | rw [spl_d] | rw [spl2_d]); rw [pr_eta]
  exact acP.cons (by decide) (ac_sX3_runs_70_0_2_f2_f6 x N (acB 36 3 38 1 70 f) L (acB.r (by decide) h (by decide)) (acB.n (by decide) (by decide) hn))
theorem ac_sX3_runs_10_m1_1_f1_f6 (x N : Int32) (f : sg_F) (L : sg_L) (h : f 36 3 = 1) (hn : f 36 5 = N) : acP 36 3 38 5 1 3 N (((x + N) * 2) * 2) [70, 1] f (sX3_runs_10_m1_1_f1_f6 x f L) := by
  unfold sX3_runs_10_m1_1_f1_f6; (repeat first | rw [spl_d] | rw [spl2_d])
  exact acP.map (ac_sX3_does_6_0_1_f1_f6 x N f L h hn) (fun z => by rw [z])
theorem ac_sX3_does_6_1_0_f0_f6 (x N : Int32) (f : sg_F) (L : sg_L) (h : f 36 3 = 0) (hn : f 36 5 = N) : acP 36 3 38 5 0 3 N (((x + N) * 2) * 2) [10, 70, 1] f (sX3_does_6_1_0_f0_f6 x f L) := by
  unfold sX3_does_6_1_0_f0_f6 sX3_does_6_1_0_f0_f6_b53; (repeat first | rw [spl_d] | rw [spl2_d]); rw [pr_eta]
  exact acP.cons (by decide) (ac_sX3_runs_10_m1_1_f1_f6 x N (acB 36 3 38 0 10 f) L (acB.r (by decide) h (by decide)) (acB.n (by decide) (by decide) hn))
theorem ac_sX3_does_6_2_0_f0_f6 (x N : Int32) (f : sg_F) (L : sg_L) (h : f 36 3 = 0) (hn : f 36 5 = N) : acP 36 3 38 5 0 1 N (x ^^^ N) [11] f (sX3_does_6_2_0_f0_f6 x f L) := by
  unfold sX3_does_6_2_0_f0_f6 sX3_does_6_2_0_f0_f6_b53 sX3_runs_11_m1_1_f1_f6; (repeat first | rw [spl_d] | rw [spl2_d])
  exact acP.leaf (by decide) (by decide) (by decide) h (by decide) hn (by show x ^^^ acB 36 3 38 0 11 f 36 5 = (x ^^^ N); rw [acB.n (by decide) (by decide) hn])
theorem ac_sX3_does_0_0_3_f3_f6 (x N : Int32) (f : sg_F) (L : sg_L) (h : f 36 3 = 3) (hn : f 36 5 = N) : acP 36 3 38 5 3 4 N (x + N) [1] f (sX3_does_0_0_3_f3_f6 x f L) := by
  unfold sX3_does_0_0_3_f3_f6 sX3_does_0_0_3_f3_f6_b53 sX3_runs_1_m1_4_f4_f6; (repeat first | rw [spl_d] | rw [spl2_d])
  exact acP.leaf (by decide) (by decide) (by decide) h (by decide) hn (by show x + acB 36 3 38 3 1 f 36 5 = (x + N); rw [acB.n (by decide) (by decide) hn])
theorem ac_sX3_runs_70_0_3_f3_f6 (x N : Int32) (f : sg_F) (L : sg_L) (h : f 36 3 = 3) (hn : f 36 5 = N) : acP 36 3 38 5 3 4 N ((x + N) * 2) [1] f (sX3_runs_70_0_3_f3_f6 x f L) := by
  unfold sX3_runs_70_0_3_f3_f6; (repeat first | rw [spl_d] | rw [spl2_d])
  exact acP.map (ac_sX3_does_0_0_3_f3_f6 x N f L h hn) (fun z => by rw [z])
theorem ac_sX3_does_6_0_2_f2_f6 (x N : Int32) (f : sg_F) (L : sg_L) (h : f 36 3 = 2) (hn : f 36 5 = N) : acP 36 3 38 5 2 4 N ((x + N) * 2) [70, 1] f (sX3_does_6_0_2_f2_f6 x f L) := by
  unfold sX3_does_6_0_2_f2_f6 sX3_does_6_0_2_f2_f6_b53; (repeat first | rw [spl_d] | rw [spl2_d]); rw [pr_eta]
  exact acP.cons (by decide) (ac_sX3_runs_70_0_3_f3_f6 x N (acB 36 3 38 2 70 f) L (acB.r (by decide) h (by decide)) (acB.n (by decide) (by decide) hn))
theorem ac_sX3_runs_10_m1_2_f2_f6 (x N : Int32) (f : sg_F) (L : sg_L) (h : f 36 3 = 2) (hn : f 36 5 = N) : acP 36 3 38 5 2 4 N (((x + N) * 2) * 2) [70, 1] f (sX3_runs_10_m1_2_f2_f6 x f L) := by
  unfold sX3_runs_10_m1_2_f2_f6; (repeat first | rw [spl_d] | rw [spl2_d])
  exact acP.map (ac_sX3_does_6_0_2_f2_f6 x N f L h hn) (fun z => by rw [z])
theorem ac_sX3_does_6_1_1_f1_f6 (x N : Int32) (f : sg_F) (L : sg_L) (h : f 36 3 = 1) (hn : f 36 5 = N) : acP 36 3 38 5 1 4 N (((x + N) * 2) * 2) [10, 70, 1] f (sX3_does_6_1_1_f1_f6 x f L) := by
  unfold sX3_does_6_1_1_f1_f6 sX3_does_6_1_1_f1_f6_b53; (repeat first | rw [spl_d] | rw [spl2_d]); rw [pr_eta]
  exact acP.cons (by decide) (ac_sX3_runs_10_m1_2_f2_f6 x N (acB 36 3 38 1 10 f) L (acB.r (by decide) h (by decide)) (acB.n (by decide) (by decide) hn))
theorem ac_sX3_does_6_2_1_f4_f6 (x N : Int32) (f : sg_F) (L : sg_L) (h : f 36 3 = 4) (hn : f 36 5 = N) : acP 36 3 38 5 4 5 N (x ^^^ N) [11] f (sX3_does_6_2_1_f4_f6 x f L) := by
  unfold sX3_does_6_2_1_f4_f6 sX3_does_6_2_1_f4_f6_b53 sX3_runs_11_m1_2_f5_f6; (repeat first | rw [spl_d] | rw [spl2_d])
  exact acP.leaf (by decide) (by decide) (by decide) h (by decide) hn (by show x ^^^ acB 36 3 38 4 11 f 36 5 = (x ^^^ N); rw [acB.n (by decide) (by decide) hn])
theorem ac_sX3_runs_2_m1_1_f1_f6 (x N : Int32) (f : sg_F) (L : sg_L) (h : f 36 3 = 1) (hn : f 36 5 = N) : acP 36 3 38 5 1 5 N ((((x + N) * 2) * 2) - (1 ^^^ N)) [10, 70, 1, 11] f (sX3_runs_2_m1_1_f1_f6 x f L) := by
  unfold sX3_runs_2_m1_1_f1_f6; (repeat first | rw [spl_d] | rw [spl2_d])
  exact acP.two (ac_sX3_does_6_1_1_f1_f6 x N f L h hn) (ac_sX3_does_6_2_1_f4_f6 1 N (sX3_does_6_1_1_f1_f6 x f L).2 L (ac_sX3_does_6_1_1_f1_f6 x N f L h hn).2.1 (ac_sX3_does_6_1_1_f1_f6 x N f L h hn).2.2.1) rfl rfl (fun z1 z2 => by rw [z1, z2])
theorem ac_sX3_does_6_3_0_f0_f6 (x N : Int32) (f : sg_F) (L : sg_L) (h : f 36 3 = 0) (hn : f 36 5 = N) : acP 36 3 38 5 0 5 N ((((x + N) * 2) * 2) - (1 ^^^ N)) [2, 10, 70, 1, 11] f (sX3_does_6_3_0_f0_f6 x f L) := by
  unfold sX3_does_6_3_0_f0_f6 sX3_does_6_3_0_f0_f6_b53; (repeat first | rw [spl_d] | rw [spl2_d]); rw [pr_eta]
  exact acP.cons (by decide) (ac_sX3_runs_2_m1_1_f1_f6 x N (acB 36 3 38 0 2 f) L (acB.r (by decide) h (by decide)) (acB.n (by decide) (by decide) hn))
theorem ac_sX3_does_0_0_1_f1_f7 (x N : Int32) (f : sg_F) (L : sg_L) (h : f 36 3 = 1) (hn : f 36 5 = N) : acP 36 3 38 5 1 2 N (x + N) [1] f (sX3_does_0_0_1_f1_f7 x f L) := by
  unfold sX3_does_0_0_1_f1_f7 sX3_does_0_0_1_f1_f7_b53 sX3_runs_1_m1_2_f2_f7; (repeat first | rw [spl_d] | rw [spl2_d])
  exact acP.leaf (by decide) (by decide) (by decide) h (by decide) hn (by show x + acB 36 3 38 1 1 f 36 5 = (x + N); rw [acB.n (by decide) (by decide) hn])
theorem ac_sX3_runs_20_0_1_f1_f7 (x N : Int32) (f : sg_F) (L : sg_L) (h : f 36 3 = 1) (hn : f 36 5 = N) : acP 36 3 38 5 1 2 N ((x + N) + 3) [1] f (sX3_runs_20_0_1_f1_f7 x f L) := by
  unfold sX3_runs_20_0_1_f1_f7; (repeat first | rw [spl_d] | rw [spl2_d])
  exact acP.map (ac_sX3_does_0_0_1_f1_f7 x N f L h hn) (fun z => by rw [z])
theorem ac_sX3_does_7_0_0_f0_f7 (x N : Int32) (f : sg_F) (L : sg_L) (h : f 36 3 = 0) (hn : f 36 5 = N) : acP 36 3 38 5 0 2 N ((x + N) + 3) [20, 1] f (sX3_does_7_0_0_f0_f7 x f L) := by
  unfold sX3_does_7_0_0_f0_f7 sX3_does_7_0_0_f0_f7_b53; (repeat first | rw [spl_d] | rw [spl2_d]); rw [pr_eta]
  exact acP.cons (by decide) (ac_sX3_runs_20_0_1_f1_f7 x N (acB 36 3 38 0 20 f) L (acB.r (by decide) h (by decide)) (acB.n (by decide) (by decide) hn))
theorem ac_sX3_does_0_0_3_f3_f7 (x N : Int32) (f : sg_F) (L : sg_L) (h : f 36 3 = 3) (hn : f 36 5 = N) : acP 36 3 38 5 3 4 N (x + N) [1] f (sX3_does_0_0_3_f3_f7 x f L) := by
  unfold sX3_does_0_0_3_f3_f7 sX3_does_0_0_3_f3_f7_b53 sX3_runs_1_m1_4_f4_f7; (repeat first | rw [spl_d] | rw [spl2_d])
  exact acP.leaf (by decide) (by decide) (by decide) h (by decide) hn (by show x + acB 36 3 38 3 1 f 36 5 = (x + N); rw [acB.n (by decide) (by decide) hn])
theorem ac_sX3_runs_20_0_3_f3_f7 (x N : Int32) (f : sg_F) (L : sg_L) (h : f 36 3 = 3) (hn : f 36 5 = N) : acP 36 3 38 5 3 4 N ((x + N) + 3) [1] f (sX3_runs_20_0_3_f3_f7 x f L) := by
  unfold sX3_runs_20_0_3_f3_f7; (repeat first | rw [spl_d] | rw [spl2_d])
  exact acP.map (ac_sX3_does_0_0_3_f3_f7 x N f L h hn) (fun z => by rw [z])
theorem ac_sX3_does_7_0_2_f2_f7 (x N : Int32) (f : sg_F) (L : sg_L) (h : f 36 3 = 2) (hn : f 36 5 = N) : acP 36 3 38 5 2 4 N ((x + N) + 3) [20, 1] f (sX3_does_7_0_2_f2_f7 x f L) := by
  unfold sX3_does_7_0_2_f2_f7 sX3_does_7_0_2_f2_f7_b53; (repeat first | rw [spl_d] | rw [spl2_d]); rw [pr_eta]
  exact acP.cons (by decide) (ac_sX3_runs_20_0_3_f3_f7 x N (acB 36 3 38 2 20 f) L (acB.r (by decide) h (by decide)) (acB.n (by decide) (by decide) hn))
theorem ac_sX3_runs_10_m1_2_f2_f7 (x N : Int32) (f : sg_F) (L : sg_L) (h : f 36 3 = 2) (hn : f 36 5 = N) : acP 36 3 38 5 2 4 N (((x + N) + 3) * 2) [20, 1] f (sX3_runs_10_m1_2_f2_f7 x f L) := by
  unfold sX3_runs_10_m1_2_f2_f7; (repeat first | rw [spl_d] | rw [spl2_d])
  exact acP.map (ac_sX3_does_7_0_2_f2_f7 x N f L h hn) (fun z => by rw [z])
theorem ac_sX3_does_4_1_1_f1_f7 (x N : Int32) (f : sg_F) (L : sg_L) (h : f 36 3 = 1) (hn : f 36 5 = N) : acP 36 3 38 5 1 4 N (((x + N) + 3) * 2) [10, 20, 1] f (sX3_does_4_1_1_f1_f7 x f L) := by
  unfold sX3_does_4_1_1_f1_f7 sX3_does_4_1_1_f1_f7_b53; (repeat first | rw [spl_d] | rw [spl2_d]); rw [pr_eta]
  exact acP.cons (by decide) (ac_sX3_runs_10_m1_2_f2_f7 x N (acB 36 3 38 1 10 f) L (acB.r (by decide) h (by decide)) (acB.n (by decide) (by decide) hn))
theorem ac_sX3_does_1_2_2_f5_f7 (x N : Int32) (f : sg_F) (L : sg_L) (h : f 36 3 = 5) (hn : f 36 5 = N) : acP 36 3 38 5 5 6 N (x ^^^ N) [11] f (sX3_does_1_2_2_f5_f7 x f L) := by
  unfold sX3_does_1_2_2_f5_f7 sX3_does_1_2_2_f5_f7_b53 sX3_runs_11_m1_3_f6_f7; (repeat first | rw [spl_d] | rw [spl2_d])
  exact acP.leaf (by decide) (by decide) (by decide) h (by decide) hn (by show x ^^^ acB 36 3 38 5 11 f 36 5 = (x ^^^ N); rw [acB.n (by decide) (by decide) hn])
theorem ac_sX3_does_0_0_3_f7_f7 (x N : Int32) (f : sg_F) (L : sg_L) (h : f 36 3 = 7) (hn : f 36 5 = N) : acP 36 3 38 5 7 8 N (x + N) [1] f (sX3_does_0_0_3_f7_f7 x f L) := by
  unfold sX3_does_0_0_3_f7_f7 sX3_does_0_0_3_f7_f7_b53 sX3_runs_1_m1_4_f8_f7; (repeat first | rw [spl_d] | rw [spl2_d])
  exact acP.leaf (by decide) (by decide) (by decide) h (by decide) hn (by show x + acB 36 3 38 7 1 f 36 5 = (x + N); rw [acB.n (by decide) (by decide) hn])
theorem ac_sX3_runs_20_0_3_f7_f7 (x N : Int32) (f : sg_F) (L : sg_L) (h : f 36 3 = 7) (hn : f 36 5 = N) : acP 36 3 38 5 7 8 N ((x + N) + 3) [1] f (sX3_runs_20_0_3_f7_f7 x f L) := by
  unfold sX3_runs_20_0_3_f7_f7; (repeat first | rw [spl_d] | rw [spl2_d])
  exact acP.map (ac_sX3_does_0_0_3_f7_f7 x N f L h hn) (fun z => by rw [z])
theorem ac_sX3_does_7_0_2_f6_f7 (x N : Int32) (f : sg_F) (L : sg_L) (h : f 36 3 = 6) (hn : f 36 5 = N) : acP 36 3 38 5 6 8 N ((x + N) + 3) [20, 1] f (sX3_does_7_0_2_f6_f7 x f L) := by
  unfold sX3_does_7_0_2_f6_f7 sX3_does_7_0_2_f6_f7_b53; (repeat first | rw [spl_d] | rw [spl2_d]); rw [pr_eta]
  exact acP.cons (by decide) (ac_sX3_runs_20_0_3_f7_f7 x N (acB 36 3 38 6 20 f) L (acB.r (by decide) h (by decide)) (acB.n (by decide) (by decide) hn))
theorem ac_sX3_runs_50_1_2_f5_f7 (x N : Int32) (f : sg_F) (L : sg_L) (h : f 36 3 = 5) (hn : f 36 5 = N) : acP 36 3 38 5 5 8 N ((x ^^^ N) - ((2 + N) + 3)) [11, 20, 1] f (sX3_runs_50_1_2_f5_f7 x f L) := by
  unfold sX3_runs_50_1_2_f5_f7; (repeat first | rw [spl_d] | rw [spl2_d])
  exact acP.two (ac_sX3_does_1_2_2_f5_f7 x N f L h hn) (ac_sX3_does_7_0_2_f6_f7 2 N (sX3_does_1_2_2_f5_f7 x f L).2 L (ac_sX3_does_1_2_2_f5_f7 x N f L h hn).2.1 (ac_sX3_does_1_2_2_f5_f7 x N f L h hn).2.2.1) rfl rfl (fun z1 z2 => by rw [z1, z2])
theorem ac_sX3_does_7_2_1_f4_f7 (x N : Int32) (f : sg_F) (L : sg_L) (h : f 36 3 = 4) (hn : f 36 5 = N) : acP 36 3 38 5 4 8 N ((x ^^^ N) - ((2 + N) + 3)) [50, 11, 20, 1] f (sX3_does_7_2_1_f4_f7 x f L) := by
  unfold sX3_does_7_2_1_f4_f7 sX3_does_7_2_1_f4_f7_b53; (repeat first | rw [spl_d] | rw [spl2_d]); rw [pr_eta]
  exact acP.cons (by decide) (ac_sX3_runs_50_1_2_f5_f7 x N (acB 36 3 38 4 50 f) L (acB.r (by decide) h (by decide)) (acB.n (by decide) (by decide) hn))
theorem ac_sX3_runs_80_4_1_f1_f7 (x N : Int32) (f : sg_F) (L : sg_L) (h : f 36 3 = 1) (hn : f 36 5 = N) : acP 36 3 38 5 1 8 N ((((x + N) + 3) * 2) + ((2 ^^^ N) - ((2 + N) + 3))) [10, 20, 1, 50, 11, 20, 1] f (sX3_runs_80_4_1_f1_f7 x f L) := by
  unfold sX3_runs_80_4_1_f1_f7; (repeat first | rw [spl_d] | rw [spl2_d])
  exact acP.two (ac_sX3_does_4_1_1_f1_f7 x N f L h hn) (ac_sX3_does_7_2_1_f4_f7 2 N (sX3_does_4_1_1_f1_f7 x f L).2 L (ac_sX3_does_4_1_1_f1_f7 x N f L h hn).2.1 (ac_sX3_does_4_1_1_f1_f7 x N f L h hn).2.2.1) rfl rfl (fun z1 z2 => by rw [z1, z2])
theorem ac_sX3_does_7_1_0_f0_f7 (x N : Int32) (f : sg_F) (L : sg_L) (h : f 36 3 = 0) (hn : f 36 5 = N) : acP 36 3 38 5 0 8 N ((((x + N) + 3) * 2) + ((2 ^^^ N) - ((2 + N) + 3))) [80, 10, 20, 1, 50, 11, 20, 1] f (sX3_does_7_1_0_f0_f7 x f L) := by
  unfold sX3_does_7_1_0_f0_f7 sX3_does_7_1_0_f0_f7_b53; (repeat first | rw [spl_d] | rw [spl2_d]); rw [pr_eta]
  exact acP.cons (by decide) (ac_sX3_runs_80_4_1_f1_f7 x N (acB 36 3 38 0 80 f) L (acB.r (by decide) h (by decide)) (acB.n (by decide) (by decide) hn))
theorem ac_sX3_does_1_2_1_f1_f7 (x N : Int32) (f : sg_F) (L : sg_L) (h : f 36 3 = 1) (hn : f 36 5 = N) : acP 36 3 38 5 1 2 N (x ^^^ N) [11] f (sX3_does_1_2_1_f1_f7 x f L) := by
  unfold sX3_does_1_2_1_f1_f7 sX3_does_1_2_1_f1_f7_b53 sX3_runs_11_m1_2_f2_f7; (repeat first | rw [spl_d] | rw [spl2_d])
  exact acP.leaf (by decide) (by decide) (by decide) h (by decide) hn (by show x ^^^ acB 36 3 38 1 11 f 36 5 = (x ^^^ N); rw [acB.n (by decide) (by decide) hn])
theorem ac_sX3_does_0_0_2_f3_f7 (x N : Int32) (f : sg_F) (L : sg_L) (h : f 36 3 = 3) (hn : f 36 5 = N) : acP 36 3 38 5 3 4 N (x + N) [1] f (sX3_does_0_0_2_f3_f7 x f L) := by
  unfold sX3_does_0_0_2_f3_f7 sX3_does_0_0_2_f3_f7_b53 sX3_runs_1_m1_3_f4_f7; (repeat first | rw [spl_d] | rw [spl2_d])
  exact acP.leaf (by decide) (by decide) (by decide) h (by decide) hn (by show x + acB 36 3 38 3 1 f 36 5 = (x + N); rw [acB.n (by decide) (by decide) hn])
theorem ac_sX3_runs_20_0_2_f3_f7 (x N : Int32) (f : sg_F) (L : sg_L) (h : f 36 3 = 3) (hn : f 36 5 = N) : acP 36 3 38 5 3 4 N ((x + N) + 3) [1] f (sX3_runs_20_0_2_f3_f7 x f L) := by
  unfold sX3_runs_20_0_2_f3_f7; (repeat first | rw [spl_d] | rw [spl2_d])
  exact acP.map (ac_sX3_does_0_0_2_f3_f7 x N f L h hn) (fun z => by rw [z])
theorem ac_sX3_does_7_0_1_f2_f7 (x N : Int32) (f : sg_F) (L : sg_L) (h : f 36 3 = 2) (hn : f 36 5 = N) : acP 36 3 38 5 2 4 N ((x + N) + 3) [20, 1] f (sX3_does_7_0_1_f2_f7 x f L) := by
  unfold sX3_does_7_0_1_f2_f7 sX3_does_7_0_1_f2_f7_b53; (repeat first | rw [spl_d] | rw [spl2_d]); rw [pr_eta]
  exact acP.cons (by decide) (ac_sX3_runs_20_0_2_f3_f7 x N (acB 36 3 38 2 20 f) L (acB.r (by decide) h (by decide)) (acB.n (by decide) (by decide) hn))
theorem ac_sX3_runs_50_1_1_f1_f7 (x N : Int32) (f : sg_F) (L : sg_L) (h : f 36 3 = 1) (hn : f 36 5 = N) : acP 36 3 38 5 1 4 N ((x ^^^ N) - ((2 + N) + 3)) [11, 20, 1] f (sX3_runs_50_1_1_f1_f7 x f L) := by
  unfold sX3_runs_50_1_1_f1_f7; (repeat first | rw [spl_d] | rw [spl2_d])
  exact acP.two (ac_sX3_does_1_2_1_f1_f7 x N f L h hn) (ac_sX3_does_7_0_1_f2_f7 2 N (sX3_does_1_2_1_f1_f7 x f L).2 L (ac_sX3_does_1_2_1_f1_f7 x N f L h hn).2.1 (ac_sX3_does_1_2_1_f1_f7 x N f L h hn).2.2.1) rfl rfl (fun z1 z2 => by rw [z1, z2])
theorem ac_sX3_does_7_2_0_f0_f7 (x N : Int32) (f : sg_F) (L : sg_L) (h : f 36 3 = 0) (hn : f 36 5 = N) : acP 36 3 38 5 0 4 N ((x ^^^ N) - ((2 + N) + 3)) [50, 11, 20, 1] f (sX3_does_7_2_0_f0_f7 x f L) := by
  unfold sX3_does_7_2_0_f0_f7 sX3_does_7_2_0_f0_f7_b53; (repeat first | rw [spl_d] | rw [spl2_d]); rw [pr_eta]
  exact acP.cons (by decide) (ac_sX3_runs_50_1_1_f1_f7 x N (acB 36 3 38 0 50 f) L (acB.r (by decide) h (by decide)) (acB.n (by decide) (by decide) hn))
theorem ac_sX3_does_0_0_5_f5_f7 (x N : Int32) (f : sg_F) (L : sg_L) (h : f 36 3 = 5) (hn : f 36 5 = N) : acP 36 3 38 5 5 6 N (x + N) [1] f (sX3_does_0_0_5_f5_f7 x f L) := by
  unfold sX3_does_0_0_5_f5_f7 sX3_does_0_0_5_f5_f7_b53 sX3_runs_1_m1_6_f6_f7; (repeat first | rw [spl_d] | rw [spl2_d])
  exact acP.leaf (by decide) (by decide) (by decide) h (by decide) hn (by show x + acB 36 3 38 5 1 f 36 5 = (x + N); rw [acB.n (by decide) (by decide) hn])
theorem ac_sX3_runs_20_0_5_f5_f7 (x N : Int32) (f : sg_F) (L : sg_L) (h : f 36 3 = 5) (hn : f 36 5 = N) : acP 36 3 38 5 5 6 N ((x + N) + 3) [1] f (sX3_runs_20_0_5_f5_f7 x f L) := by
  unfold sX3_runs_20_0_5_f5_f7; (repeat first | rw [spl_d] | rw [spl2_d])
  exact acP.map (ac_sX3_does_0_0_5_f5_f7 x N f L h hn) (fun z => by rw [z])
theorem ac_sX3_does_7_0_4_f4_f7 (x N : Int32) (f : sg_F) (L : sg_L) (h : f 36 3 = 4) (hn : f 36 5 = N) : acP 36 3 38 5 4 6 N ((x + N) + 3) [20, 1] f (sX3_does_7_0_4_f4_f7 x f L) := by
  unfold sX3_does_7_0_4_f4_f7 sX3_does_7_0_4_f4_f7_b53; (repeat first | rw [spl_d] | rw [spl2_d]); rw [pr_eta]
  exact acP.cons (by decide) (ac_sX3_runs_20_0_5_f5_f7 x N (acB 36 3 38 4 20 f) L (acB.r (by decide) h (by decide)) (acB.n (by decide) (by decide) hn))
theorem ac_sX3_runs_10_m1_4_f4_f7 (x N : Int32) (f : sg_F) (L : sg_L) (h : f 36 3 = 4) (hn : f 36 5 = N) : acP 36 3 38 5 4 6 N (((x + N) + 3) * 2) [20, 1] f (sX3_runs_10_m1_4_f4_f7 x f L) := by
  unfold sX3_runs_10_m1_4_f4_f7; (repeat first | rw [spl_d] | rw [spl2_d])
  exact acP.map (ac_sX3_does_7_0_4_f4_f7 x N f L h hn) (fun z => by rw [z])
theorem ac_sX3_does_4_1_3_f3_f7 (x N : Int32) (f : sg_F) (L : sg_L) (h : f 36 3 = 3) (hn : f 36 5 = N) : acP 36 3 38 5 3 6 N (((x + N) + 3) * 2) [10, 20, 1] f (sX3_does_4_1_3_f3_f7 x f L) := by
  unfold sX3_does_4_1_3_f3_f7 sX3_does_4_1_3_f3_f7_b53; (repeat first | rw [spl_d] | rw [spl2_d]); rw [pr_eta]
  exact acP.cons (by decide) (ac_sX3_runs_10_m1_4_f4_f7 x N (acB 36 3 38 3 10 f) L (acB.r (by decide) h (by decide)) (acB.n (by decide) (by decide) hn))
theorem ac_sX3_does_1_2_4_f7_f7 (x N : Int32) (f : sg_F) (L : sg_L) (h : f 36 3 = 7) (hn : f 36 5 = N) : acP 36 3 38 5 7 8 N (x ^^^ N) [11] f (sX3_does_1_2_4_f7_f7 x f L) := by
  unfold sX3_does_1_2_4_f7_f7 sX3_does_1_2_4_f7_f7_b53 sX3_runs_11_m1_5_f8_f7; (repeat first | rw [spl_d] | rw [spl2_d])
  exact acP.leaf (by decide) (by decide) (by decide) h (by decide) hn (by show x ^^^ acB 36 3 38 7 11 f 36 5 = (x ^^^ N); rw [acB.n (by decide) (by decide) hn])
theorem ac_sX3_does_0_0_5_f9_f7 (x N : Int32) (f : sg_F) (L : sg_L) (h : f 36 3 = 9) (hn : f 36 5 = N) : acP 36 3 38 5 9 10 N (x + N) [1] f (sX3_does_0_0_5_f9_f7 x f L) := by
  unfold sX3_does_0_0_5_f9_f7 sX3_does_0_0_5_f9_f7_b53 sX3_runs_1_m1_6_f10_f7; (repeat first | rw [spl_d] | rw [spl2_d])
  exact acP.leaf (by decide) (by decide) (by decide) h (by decide) hn (by show x + acB 36 3 38 9 1 f 36 5 = (x + N); rw [acB.n (by decide) (by decide) hn])
theorem ac_sX3_runs_20_0_5_f9_f7 (x N : Int32) (f : sg_F) (L : sg_L) (h : f 36 3 = 9) (hn : f 36 5 = N) : acP 36 3 38 5 9 10 N ((x + N) + 3) [1] f (sX3_runs_20_0_5_f9_f7 x f L) := by
  unfold sX3_runs_20_0_5_f9_f7; (repeat first | rw [spl_d] | rw [spl2_d])
  exact acP.map (ac_sX3_does_0_0_5_f9_f7 x N f L h hn) (fun z => by rw [z])
theorem ac_sX3_does_7_0_4_f8_f7 (x N : Int32) (f : sg_F) (L : sg_L) (h : f 36 3 = 8) (hn : f 36 5 = N) : acP 36 3 38 5 8 10 N ((x + N) + 3) [20, 1] f (sX3_does_7_0_4_f8_f7 x f L) := by
  unfold sX3_does_7_0_4_f8_f7 sX3_does_7_0_4_f8_f7_b53; (repeat first | rw [spl_d] | rw [spl2_d]); rw [pr_eta]
  exact acP.cons (by decide) (ac_sX3_runs_20_0_5_f9_f7 x N (acB 36 3 38 8 20 f) L (acB.r (by decide) h (by decide)) (acB.n (by decide) (by decide) hn))
theorem ac_sX3_runs_50_1_4_f7_f7 (x N : Int32) (f : sg_F) (L : sg_L) (h : f 36 3 = 7) (hn : f 36 5 = N) : acP 36 3 38 5 7 10 N ((x ^^^ N) - ((2 + N) + 3)) [11, 20, 1] f (sX3_runs_50_1_4_f7_f7 x f L) := by
  unfold sX3_runs_50_1_4_f7_f7; (repeat first | rw [spl_d] | rw [spl2_d])
  exact acP.two (ac_sX3_does_1_2_4_f7_f7 x N f L h hn) (ac_sX3_does_7_0_4_f8_f7 2 N (sX3_does_1_2_4_f7_f7 x f L).2 L (ac_sX3_does_1_2_4_f7_f7 x N f L h hn).2.1 (ac_sX3_does_1_2_4_f7_f7 x N f L h hn).2.2.1) rfl rfl (fun z1 z2 => by rw [z1, z2])
theorem ac_sX3_does_7_2_3_f6_f7 (x N : Int32) (f : sg_F) (L : sg_L) (h : f 36 3 = 6) (hn : f 36 5 = N) : acP 36 3 38 5 6 10 N ((x ^^^ N) - ((2 + N) + 3)) [50, 11, 20, 1] f (sX3_does_7_2_3_f6_f7 x f L) := by
  unfold sX3_does_7_2_3_f6_f7 sX3_does_7_2_3_f6_f7_b53; (repeat first | rw [spl_d] | rw [spl2_d]); rw [pr_eta]
  exact acP.cons (by decide) (ac_sX3_runs_50_1_4_f7_f7 x N (acB 36 3 38 6 50 f) L (acB.r (by decide) h (by decide)) (acB.n (by decide) (by decide) hn))
theorem ac_sX3_runs_80_4_3_f3_f7 (x N : Int32) (f : sg_F) (L : sg_L) (h : f 36 3 = 3) (hn : f 36 5 = N) : acP 36 3 38 5 3 10 N ((((x + N) + 3) * 2) + ((2 ^^^ N) - ((2 + N) + 3))) [10, 20, 1, 50, 11, 20, 1] f (sX3_runs_80_4_3_f3_f7 x f L) := by
  unfold sX3_runs_80_4_3_f3_f7; (repeat first | rw [spl_d] | rw [spl2_d])
  exact acP.two (ac_sX3_does_4_1_3_f3_f7 x N f L h hn) (ac_sX3_does_7_2_3_f6_f7 2 N (sX3_does_4_1_3_f3_f7 x f L).2 L (ac_sX3_does_4_1_3_f3_f7 x N f L h hn).2.1 (ac_sX3_does_4_1_3_f3_f7 x N f L h hn).2.2.1) rfl rfl (fun z1 z2 => by rw [z1, z2])
theorem ac_sX3_does_7_1_2_f2_f7 (x N : Int32) (f : sg_F) (L : sg_L) (h : f 36 3 = 2) (hn : f 36 5 = N) : acP 36 3 38 5 2 10 N ((((x + N) + 3) * 2) + ((2 ^^^ N) - ((2 + N) + 3))) [80, 10, 20, 1, 50, 11, 20, 1] f (sX3_does_7_1_2_f2_f7 x f L) := by
  unfold sX3_does_7_1_2_f2_f7 sX3_does_7_1_2_f2_f7_b53; (repeat first | rw [spl_d] | rw [spl2_d]); rw [pr_eta]
  exact acP.cons (by decide) (ac_sX3_runs_80_4_3_f3_f7 x N (acB 36 3 38 2 80 f) L (acB.r (by decide) h (by decide)) (acB.n (by decide) (by decide) hn))
theorem ac_sX3_does_1_2_3_f11_f7 (x N : Int32) (f : sg_F) (L : sg_L) (h : f 36 3 = 11) (hn : f 36 5 = N) : acP 36 3 38 5 11 12 N (x ^^^ N) [11] f (sX3_does_1_2_3_f11_f7 x f L) := by
  unfold sX3_does_1_2_3_f11_f7 sX3_does_1_2_3_f11_f7_b53 sX3_runs_11_m1_4_f12_f7; (repeat first | rw [spl_d] | rw [spl2_d])
  exact acP.leaf (by decide) (by decide) (by decide) h (by decide) hn (by show x ^^^ acB 36 3 38 11 11 f 36 5 = (x ^^^ N); rw [acB.n (by decide) (by decide) hn])
theorem ac_sX3_does_0_0_4_f13_f7 (x N : Int32) (f : sg_F) (L : sg_L) (h : f 36 3 = 13) (hn : f 36 5 = N) : acP 36 3 38 5 13 14 N (x + N) [1] f (sX3_does_0_0_4_f13_f7 x f L) := by
  unfold sX3_does_0_0_4_f13_f7 sX3_does_0_0_4_f13_f7_b53 sX3_runs_1_m1_5_f14_f7; (repeat first | rw [spl_d] | rw [spl2_d])
  exact acP.leaf (by decide) (by decide) (by decide) h (by decide) hn (by show x + acB 36 3 38 13 1 f 36 5 = (x + N); rw [acB.n (by decide) (by decide) hn])
theorem ac_sX3_runs_20_0_4_f13_f7 (x N : Int32) (f : sg_F) (L : sg_L) (h : f 36 3 = 13) (hn : f 36 5 = N) : acP 36 3 38 5 13 14 N ((x + N) + 3) [1] f (sX3_runs_20_0_4_f13_f7 x f L) := by
  unfold sX3_runs_20_0_4_f13_f7; (repeat first | rw [spl_d] | rw [spl2_d])
  exact acP.map (ac_sX3_does_0_0_4_f13_f7 x N f L h hn) (fun z => by rw [z])
theorem ac_sX3_does_7_0_3_f12_f7 (x N : Int32) (f : sg_F) (L : sg_L) (h : f 36 3 = 12) (hn : f 36 5 = N) : acP 36 3 38 5 12 14 N ((x + N) + 3) [20, 1] f (sX3_does_7_0_3_f12_f7 x f L) := by
  unfold sX3_does_7_0_3_f12_f7 sX3_does_7_0_3_f12_f7_b53; (repeat first | rw [spl_d] | rw [spl2_d]); rw [pr_eta]
  exact acP.cons (by decide) (ac_sX3_runs_20_0_4_f13_f7 x N (acB 36 3 38 12 20 f) L (acB.r (by decide) h (by decide)) (acB.n (by decide) (by decide) hn))
theorem ac_sX3_runs_50_1_3_f11_f7 (x N : Int32) (f : sg_F) (L : sg_L) (h : f 36 3 = 11) (hn : f 36 5 = N) : acP 36 3 38 5 11 14 N ((x ^^^ N) - ((2 + N) + 3)) [11, 20, 1] f (sX3_runs_50_1_3_f11_f7 x f L) := by
  unfold sX3_runs_50_1_3_f11_f7; (repeat first | rw [spl_d] | rw [spl2_d])
  exact acP.two (ac_sX3_does_1_2_3_f11_f7 x N f L h hn) (ac_sX3_does_7_0_3_f12_f7 2 N (sX3_does_1_2_3_f11_f7 x f L).2 L (ac_sX3_does_1_2_3_f11_f7 x N f L h hn).2.1 (ac_sX3_does_1_2_3_f11_f7 x N f L h hn).2.2.1) rfl rfl (fun z1 z2 => by rw [z1, z2])
theorem ac_sX3_does_7_2_2_f10_f7 (x N : Int32) (f : sg_F) (L : sg_L) (h : f 36 3 = 10) (hn : f 36 5 = N) : acP 36 3 38 5 10 14 N ((x ^^^ N) - ((2 + N) + 3)) [50, 11, 20, 1] f (sX3_does_7_2_2_f10_f7 x f L) := by
  unfold sX3_does_7_2_2_f10_f7 sX3_does_7_2_2_f10_f7_b53; (repeat first | rw [spl_d] | rw [spl2_d]); rw [pr_eta]
  exact acP.cons (by decide) (ac_sX3_runs_50_1_3_f11_f7 x N (acB 36 3 38 10 50 f) L (acB.r (by decide) h (by decide)) (acB.n (by decide) (by decide) hn))
theorem ac_sX3_runs_2_m1_2_f2_f7 (x N : Int32) (f : sg_F) (L : sg_L) (h : f 36 3 = 2) (hn : f 36 5 = N) : acP 36 3 38 5 2 14 N (((((x + N) + 3) * 2) + ((2 ^^^ N) - ((2 + N) + 3))) - ((1 ^^^ N) - ((2 + N) + 3))) [80, 10, 20, 1, 50, 11, 20, 1, 50, 11, 20, 1] f (sX3_runs_2_m1_2_f2_f7 x f L) := by
  unfold sX3_runs_2_m1_2_f2_f7; (repeat first | rw [spl_d] | rw [spl2_d])
  exact acP.two (ac_sX3_does_7_1_2_f2_f7 x N f L h hn) (ac_sX3_does_7_2_2_f10_f7 1 N (sX3_does_7_1_2_f2_f7 x f L).2 L (ac_sX3_does_7_1_2_f2_f7 x N f L h hn).2.1 (ac_sX3_does_7_1_2_f2_f7 x N f L h hn).2.2.1) rfl rfl (fun z1 z2 => by rw [z1, z2])
theorem ac_sX3_does_4_3_1_f1_f7 (x N : Int32) (f : sg_F) (L : sg_L) (h : f 36 3 = 1) (hn : f 36 5 = N) : acP 36 3 38 5 1 14 N (((((x + N) + 3) * 2) + ((2 ^^^ N) - ((2 + N) + 3))) - ((1 ^^^ N) - ((2 + N) + 3))) [2, 80, 10, 20, 1, 50, 11, 20, 1, 50, 11, 20, 1] f (sX3_does_4_3_1_f1_f7 x f L) := by
  unfold sX3_does_4_3_1_f1_f7 sX3_does_4_3_1_f1_f7_b53; (repeat first | rw [spl_d] | rw [spl2_d]); rw [pr_eta]
  exact acP.cons (by decide) (ac_sX3_runs_2_m1_2_f2_f7 x N (acB 36 3 38 1 2 f) L (acB.r (by decide) h (by decide)) (acB.n (by decide) (by decide) hn))
theorem ac_sX3_runs_81_4_1_f1_f7 (x N : Int32) (f : sg_F) (L : sg_L) (h : f 36 3 = 1) (hn : f 36 5 = N) : acP 36 3 38 5 1 14 N ((((((x + N) + 3) * 2) + ((2 ^^^ N) - ((2 + N) + 3))) - ((1 ^^^ N) - ((2 + N) + 3))) - 1) [2, 80, 10, 20, 1, 50, 11, 20, 1, 50, 11, 20, 1] f (sX3_runs_81_4_1_f1_f7 x f L) := by
  unfold sX3_runs_81_4_1_f1_f7; (repeat first | rw [spl_d] | rw [spl2_d])
  exact acP.map (ac_sX3_does_4_3_1_f1_f7 x N f L h hn) (fun z => by rw [z])
theorem ac_sX3_does_7_3_0_f0_f7 (x N : Int32) (f : sg_F) (L : sg_L) (h : f 36 3 = 0) (hn : f 36 5 = N) : acP 36 3 38 5 0 14 N ((((((x + N) + 3) * 2) + ((2 ^^^ N) - ((2 + N) + 3))) - ((1 ^^^ N) - ((2 + N) + 3))) - 1) [81, 2, 80, 10, 20, 1, 50, 11, 20, 1, 50, 11, 20, 1] f (sX3_does_7_3_0_f0_f7 x f L) := by
  unfold sX3_does_7_3_0_f0_f7 sX3_does_7_3_0_f0_f7_b53; (repeat first | rw [spl_d] | rw [spl2_d]); rw [pr_eta]
  exact acP.cons (by decide) (ac_sX3_runs_81_4_1_f1_f7 x N (acB 36 3 38 0 81 f) L (acB.r (by decide) h (by decide)) (acB.n (by decide) (by decide) hn))
theorem ac_sX12_setsAs_0_f0_f0 (x N : Int32) (f : sg_F) (L : sg_L) (h : f 0 48 = 0) (hn : f 0 50 = N) : acP 0 48 21 50 0 1 N (x + N) [1] f (sX12_setsAs_0_f0_f0 x f L) := by
  unfold sX12_setsAs_0_f0_f0 sX12_begins_1_f0 sX12_begins_1_f0_b19; (repeat first | rw [spl_d] | rw [spl2_d])
  exact acP.leaf (by decide) (by decide) (by decide) h (by decide) hn (by show x + acB 0 48 21 0 1 f 0 50 = (x + N); rw [acB.n (by decide) (by decide) hn])
theorem ac_sX12_setsAs_0_f1_f0 (x N : Int32) (f : sg_F) (L : sg_L) (h : f 0 48 = 1) (hn : f 0 50 = N) : acP 0 48 21 50 1 2 N (x + N) [1] f (sX12_setsAs_0_f1_f0 x f L) := by
  unfold sX12_setsAs_0_f1_f0 sX12_begins_1_f1 sX12_begins_1_f1_b19; (repeat first | rw [spl_d] | rw [spl2_d])
  exact acP.leaf (by decide) (by decide) (by decide) h (by decide) hn (by show x + acB 0 48 21 1 1 f 0 50 = (x + N); rw [acB.n (by decide) (by decide) hn])
theorem ac_sX12_sitsAs_0_f0_f0 (x N : Int32) (f : sg_F) (L : sg_L) (h : f 0 48 = 0) (hn : f 0 50 = N) : acP 0 48 21 50 0 2 N ((x + N) * 2) [10, 1] f (sX12_sitsAs_0_f0_f0 x f L) := by
  unfold sX12_sitsAs_0_f0_f0 sX12_begins_10_f0 sX12_begins_10_f0_b19; (repeat first | rw [spl_d] | rw [spl2_d])
  exact acP.cons (by decide) (acP.map (ac_sX12_setsAs_0_f1_f0 x N (acB 0 48 21 0 10 f) L (acB.r (by decide) h (by decide)) (acB.n (by decide) (by decide) hn)) (fun z => by rw [z]))
theorem ac_sX12_slipsAs_0_f0_f0 (x N : Int32) (f : sg_F) (L : sg_L) (h : f 0 48 = 0) (hn : f 0 50 = N) : acP 0 48 21 50 0 1 N (x ^^^ N) [11] f (sX12_slipsAs_0_f0_f0 x f L) := by
  unfold sX12_slipsAs_0_f0_f0 sX12_begins_11_f0 sX12_begins_11_f0_b19; (repeat first | rw [spl_d] | rw [spl2_d])
  exact acP.leaf (by decide) (by decide) (by decide) h (by decide) hn (by show x ^^^ acB 0 48 21 0 11 f 0 50 = (x ^^^ N); rw [acB.n (by decide) (by decide) hn])
theorem ac_sX12_setsAs_0_f2_f0 (x N : Int32) (f : sg_F) (L : sg_L) (h : f 0 48 = 2) (hn : f 0 50 = N) : acP 0 48 21 50 2 3 N (x + N) [1] f (sX12_setsAs_0_f2_f0 x f L) := by
  unfold sX12_setsAs_0_f2_f0 sX12_begins_1_f2 sX12_begins_1_f2_b19; (repeat first | rw [spl_d] | rw [spl2_d])
  exact acP.leaf (by decide) (by decide) (by decide) h (by decide) hn (by show x + acB 0 48 21 2 1 f 0 50 = (x + N); rw [acB.n (by decide) (by decide) hn])
theorem ac_sX12_sitsAs_0_f1_f0 (x N : Int32) (f : sg_F) (L : sg_L) (h : f 0 48 = 1) (hn : f 0 50 = N) : acP 0 48 21 50 1 3 N ((x + N) * 2) [10, 1] f (sX12_sitsAs_0_f1_f0 x f L) := by
  unfold sX12_sitsAs_0_f1_f0 sX12_begins_10_f1 sX12_begins_10_f1_b19; (repeat first | rw [spl_d] | rw [spl2_d])
  exact acP.cons (by decide) (acP.map (ac_sX12_setsAs_0_f2_f0 x N (acB 0 48 21 1 10 f) L (acB.r (by decide) h (by decide)) (acB.n (by decide) (by decide) hn)) (fun z => by rw [z]))
theorem ac_sX12_slipsAs_0_f3_f0 (x N : Int32) (f : sg_F) (L : sg_L) (h : f 0 48 = 3) (hn : f 0 50 = N) : acP 0 48 21 50 3 4 N (x ^^^ N) [11] f (sX12_slipsAs_0_f3_f0 x f L) := by
  unfold sX12_slipsAs_0_f3_f0 sX12_begins_11_f3 sX12_begins_11_f3_b19; (repeat first | rw [spl_d] | rw [spl2_d])
  exact acP.leaf (by decide) (by decide) (by decide) h (by decide) hn (by show x ^^^ acB 0 48 21 3 11 f 0 50 = (x ^^^ N); rw [acB.n (by decide) (by decide) hn])
theorem ac_sX12_tellsAs_0_f0_f0 (x N : Int32) (f : sg_F) (L : sg_L) (h : f 0 48 = 0) (hn : f 0 50 = N) : acP 0 48 21 50 0 4 N (((x + N) * 2) - (1 ^^^ N)) [2, 10, 1, 11] f (sX12_tellsAs_0_f0_f0 x f L) := by
  unfold sX12_tellsAs_0_f0_f0 sX12_begins_2_f0 sX12_begins_2_f0_b19; (repeat first | rw [spl_d] | rw [spl2_d])
  exact acP.cons (by decide) (acP.two (ac_sX12_sitsAs_0_f1_f0 x N (acB 0 48 21 0 2 f) L (acB.r (by decide) h (by decide)) (acB.n (by decide) (by decide) hn)) (ac_sX12_slipsAs_0_f3_f0 1 N (sX12_sitsAs_0_f1_f0 x (acB 0 48 21 0 2 f) L).2 L (ac_sX12_sitsAs_0_f1_f0 x N (acB 0 48 21 0 2 f) L (acB.r (by decide) h (by decide)) (acB.n (by decide) (by decide) hn)).2.1 (ac_sX12_sitsAs_0_f1_f0 x N (acB 0 48 21 0 2 f) L (acB.r (by decide) h (by decide)) (acB.n (by decide) (by decide) hn)).2.2.1) rfl rfl (fun z1 z2 => by rw [z1, z2]))
theorem ac_sX12_setsAs_0_f1_f1 (x N : Int32) (f : sg_F) (L : sg_L) (h : f 0 48 = 1) (hn : f 0 50 = N) : acP 0 48 21 50 1 2 N (x + N) [1] f (sX12_setsAs_0_f1_f1 x f L) := by
  unfold sX12_setsAs_0_f1_f1 sX12_begins_1_f1 sX12_begins_1_f1_b19; (repeat first | rw [spl_d] | rw [spl2_d])
  exact acP.leaf (by decide) (by decide) (by decide) h (by decide) hn (by show x + acB 0 48 21 1 1 f 0 50 = (x + N); rw [acB.n (by decide) (by decide) hn])
theorem ac_sX12_setsAs_1_f0_f1 (x N : Int32) (f : sg_F) (L : sg_L) (h : f 0 48 = 0) (hn : f 0 50 = N) : acP 0 48 21 50 0 2 N ((x + N) + 3) [20, 1] f (sX12_setsAs_1_f0_f1 x f L) := by
  unfold sX12_setsAs_1_f0_f1 sX12_setsAs_1_f0_f1_b16 sX12_begins_20_f0 sX12_begins_20_f0_b19; (repeat first | rw [spl_d] | rw [spl2_d])
  exact acP.cons (by decide) (acP.map (ac_sX12_setsAs_0_f1_f1 x N (acB 0 48 21 0 20 f) L (acB.r (by decide) h (by decide)) (acB.n (by decide) (by decide) hn)) (fun z => by rw [z]))
theorem ac_sX12_setsAs_0_f2_f1 (x N : Int32) (f : sg_F) (L : sg_L) (h : f 0 48 = 2) (hn : f 0 50 = N) : acP 0 48 21 50 2 3 N (x + N) [1] f (sX12_setsAs_0_f2_f1 x f L) := by
  unfold sX12_setsAs_0_f2_f1 sX12_begins_1_f2 sX12_begins_1_f2_b19; (repeat first | rw [spl_d] | rw [spl2_d])
  exact acP.leaf (by decide) (by decide) (by decide) h (by decide) hn (by show x + acB 0 48 21 2 1 f 0 50 = (x + N); rw [acB.n (by decide) (by decide) hn])
theorem ac_sX12_setsAs_1_f1_f1 (x N : Int32) (f : sg_F) (L : sg_L) (h : f 0 48 = 1) (hn : f 0 50 = N) : acP 0 48 21 50 1 3 N ((x + N) + 3) [20, 1] f (sX12_setsAs_1_f1_f1 x f L) := by
  unfold sX12_setsAs_1_f1_f1 sX12_setsAs_1_f1_f1_b16 sX12_begins_20_f1 sX12_begins_20_f1_b19; (repeat first | rw [spl_d] | rw [spl2_d])
  exact acP.cons (by decide) (acP.map (ac_sX12_setsAs_0_f2_f1 x N (acB 0 48 21 1 20 f) L (acB.r (by decide) h (by decide)) (acB.n (by decide) (by decide) hn)) (fun z => by rw [z]))
theorem ac_sX12_sitsAs_1_f0_f1 (x N : Int32) (f : sg_F) (L : sg_L) (h : f 0 48 = 0) (hn : f 0 50 = N) : acP 0 48 21 50 0 3 N (((x + N) + 3) * 2) [10, 20, 1] f (sX12_sitsAs_1_f0_f1 x f L) := by
  unfold sX12_sitsAs_1_f0_f1 sX12_begins_10_f0 sX12_begins_10_f0_b19; (repeat first | rw [spl_d] | rw [spl2_d])
  exact acP.cons (by decide) (acP.map (ac_sX12_setsAs_1_f1_f1 x N (acB 0 48 21 0 10 f) L (acB.r (by decide) h (by decide)) (acB.n (by decide) (by decide) hn)) (fun z => by rw [z]))
theorem ac_sX12_slipsAs_1_f0_f1 (x N : Int32) (f : sg_F) (L : sg_L) (h : f 0 48 = 0) (hn : f 0 50 = N) : acP 0 48 21 50 0 1 N (x ^^^ N) [11] f (sX12_slipsAs_1_f0_f1 x f L) := by
  unfold sX12_slipsAs_1_f0_f1 sX12_begins_11_f0 sX12_begins_11_f0_b19; (repeat first | rw [spl_d] | rw [spl2_d])
  exact acP.leaf (by decide) (by decide) (by decide) h (by decide) hn (by show x ^^^ acB 0 48 21 0 11 f 0 50 = (x ^^^ N); rw [acB.n (by decide) (by decide) hn])
theorem ac_sX12_setsAs_0_f3_f1 (x N : Int32) (f : sg_F) (L : sg_L) (h : f 0 48 = 3) (hn : f 0 50 = N) : acP 0 48 21 50 3 4 N (x + N) [1] f (sX12_setsAs_0_f3_f1 x f L) := by
  unfold sX12_setsAs_0_f3_f1 sX12_begins_1_f3 sX12_begins_1_f3_b19; (repeat first | rw [spl_d] | rw [spl2_d])
  exact acP.leaf (by decide) (by decide) (by decide) h (by decide) hn (by show x + acB 0 48 21 3 1 f 0 50 = (x + N); rw [acB.n (by decide) (by decide) hn])
theorem ac_sX12_setsAs_1_f2_f1 (x N : Int32) (f : sg_F) (L : sg_L) (h : f 0 48 = 2) (hn : f 0 50 = N) : acP 0 48 21 50 2 4 N ((x + N) + 3) [20, 1] f (sX12_setsAs_1_f2_f1 x f L) := by
  unfold sX12_setsAs_1_f2_f1 sX12_setsAs_1_f2_f1_b16 sX12_begins_20_f2 sX12_begins_20_f2_b19; (repeat first | rw [spl_d] | rw [spl2_d])
  exact acP.cons (by decide) (acP.map (ac_sX12_setsAs_0_f3_f1 x N (acB 0 48 21 2 20 f) L (acB.r (by decide) h (by decide)) (acB.n (by decide) (by decide) hn)) (fun z => by rw [z]))
theorem ac_sX12_sitsAs_1_f1_f1 (x N : Int32) (f : sg_F) (L : sg_L) (h : f 0 48 = 1) (hn : f 0 50 = N) : acP 0 48 21 50 1 4 N (((x + N) + 3) * 2) [10, 20, 1] f (sX12_sitsAs_1_f1_f1 x f L) := by
  unfold sX12_sitsAs_1_f1_f1 sX12_begins_10_f1 sX12_begins_10_f1_b19; (repeat first | rw [spl_d] | rw [spl2_d])
  exact acP.cons (by decide) (acP.map (ac_sX12_setsAs_1_f2_f1 x N (acB 0 48 21 1 10 f) L (acB.r (by decide) h (by decide)) (acB.n (by decide) (by decide) hn)) (fun z => by rw [z]))
theorem ac_sX12_slipsAs_1_f4_f1 (x N : Int32) (f : sg_F) (L : sg_L) (h : f 0 48 = 4) (hn : f 0 50 = N) : acP 0 48 21 50 4 5 N (x ^^^ N) [11] f (sX12_slipsAs_1_f4_f1 x f L) := by
  unfold sX12_slipsAs_1_f4_f1 sX12_begins_11_f4 sX12_begins_11_f4_b19; (repeat first | rw [spl_d] | rw [spl2_d])
  exact acP.leaf (by decide) (by decide) (by decide) h (by decide) hn (by show x ^^^ acB 0 48 21 4 11 f 0 50 = (x ^^^ N); rw [acB.n (by decide) (by decide) hn])
theorem ac_sX12_tellsAs_1_f0_f1 (x N : Int32) (f : sg_F) (L : sg_L) (h : f 0 48 = 0) (hn : f 0 50 = N) : acP 0 48 21 50 0 5 N ((((x + N) + 3) * 2) - (1 ^^^ N)) [2, 10, 20, 1, 11] f (sX12_tellsAs_1_f0_f1 x f L) := by
  unfold sX12_tellsAs_1_f0_f1 sX12_begins_2_f0 sX12_begins_2_f0_b19; (repeat first | rw [spl_d] | rw [spl2_d])
  exact acP.cons (by decide) (acP.two (ac_sX12_sitsAs_1_f1_f1 x N (acB 0 48 21 0 2 f) L (acB.r (by decide) h (by decide)) (acB.n (by decide) (by decide) hn)) (ac_sX12_slipsAs_1_f4_f1 1 N (sX12_sitsAs_1_f1_f1 x (acB 0 48 21 0 2 f) L).2 L (ac_sX12_sitsAs_1_f1_f1 x N (acB 0 48 21 0 2 f) L (acB.r (by decide) h (by decide)) (acB.n (by decide) (by decide) hn)).2.1 (ac_sX12_sitsAs_1_f1_f1 x N (acB 0 48 21 0 2 f) L (acB.r (by decide) h (by decide)) (acB.n (by decide) (by decide) hn)).2.2.1) rfl rfl (fun z1 z2 => by rw [z1, z2]))
theorem ac_sX12_setsAs_2_f0_f2 (x N : Int32) (f : sg_F) (L : sg_L) (h : f 0 48 = 0) (hn : f 0 50 = N) : acP 0 48 21 50 0 1 N (x + N) [1] f (sX12_setsAs_2_f0_f2 x f L) := by
  unfold sX12_setsAs_2_f0_f2 sX12_begins_1_f0 sX12_begins_1_f0_b19; (repeat first | rw [spl_d] | rw [spl2_d])
  exact acP.leaf (by decide) (by decide) (by decide) h (by decide) hn (by show x + acB 0 48 21 0 1 f 0 50 = (x + N); rw [acB.n (by decide) (by decide) hn])
theorem ac_sX12_setsAs_2_f2_f2 (x N : Int32) (f : sg_F) (L : sg_L) (h : f 0 48 = 2) (hn : f 0 50 = N) : acP 0 48 21 50 2 3 N (x + N) [1] f (sX12_setsAs_2_f2_f2 x f L) := by
  unfold sX12_setsAs_2_f2_f2 sX12_begins_1_f2 sX12_begins_1_f2_b19; (repeat first | rw [spl_d] | rw [spl2_d])
  exact acP.leaf (by decide) (by decide) (by decide) h (by decide) hn (by show x + acB 0 48 21 2 1 f 0 50 = (x + N); rw [acB.n (by decide) (by decide) hn])
theorem ac_sX12_sitsAs_0_f1_f2 (x N : Int32) (f : sg_F) (L : sg_L) (h : f 0 48 = 1) (hn : f 0 50 = N) : acP 0 48 21 50 1 3 N ((x + N) * 2) [10, 1] f (sX12_sitsAs_0_f1_f2 x f L) := by
  unfold sX12_sitsAs_0_f1_f2 sX12_begins_10_f1 sX12_begins_10_f1_b19; (repeat first | rw [spl_d] | rw [spl2_d])
  exact acP.cons (by decide) (acP.map (ac_sX12_setsAs_2_f2_f2 x N (acB 0 48 21 1 10 f) L (acB.r (by decide) h (by decide)) (acB.n (by decide) (by decide) hn)) (fun z => by rw [z]))
theorem ac_sX12_sitsAs_2_f0_f2 (x N : Int32) (f : sg_F) (L : sg_L) (h : f 0 48 = 0) (hn : f 0 50 = N) : acP 0 48 21 50 0 3 N (-((x + N) * 2)) [30, 10, 1] f (sX12_sitsAs_2_f0_f2 x f L) := by
  unfold sX12_sitsAs_2_f0_f2 sX12_begins_30_f0 sX12_begins_30_f0_b19; (repeat first | rw [spl_d] | rw [spl2_d])
  exact acP.cons (by decide) (acP.map (ac_sX12_sitsAs_0_f1_f2 x N (acB 0 48 21 0 30 f) L (acB.r (by decide) h (by decide)) (acB.n (by decide) (by decide) hn)) (fun z => by rw [z]))
theorem ac_sX12_slipsAs_2_f0_f2 (x N : Int32) (f : sg_F) (L : sg_L) (h : f 0 48 = 0) (hn : f 0 50 = N) : acP 0 48 21 50 0 1 N (x ^^^ N) [11] f (sX12_slipsAs_2_f0_f2 x f L) := by
  unfold sX12_slipsAs_2_f0_f2 sX12_begins_11_f0 sX12_begins_11_f0_b19; (repeat first | rw [spl_d] | rw [spl2_d])
  exact acP.leaf (by decide) (by decide) (by decide) h (by decide) hn (by show x ^^^ acB 0 48 21 0 11 f 0 50 = (x ^^^ N); rw [acB.n (by decide) (by decide) hn])
theorem ac_sX12_setsAs_2_f3_f2 (x N : Int32) (f : sg_F) (L : sg_L) (h : f 0 48 = 3) (hn : f 0 50 = N) : acP 0 48 21 50 3 4 N (x + N) [1] f (sX12_setsAs_2_f3_f2 x f L) := by
  unfold sX12_setsAs_2_f3_f2 sX12_begins_1_f3 sX12_begins_1_f3_b19; (repeat first | rw [spl_d] | rw [spl2_d])
  exact acP.leaf (by decide) (by decide) (by decide) h (by decide) hn (by show x + acB 0 48 21 3 1 f 0 50 = (x + N); rw [acB.n (by decide) (by decide) hn])
theorem ac_sX12_sitsAs_0_f2_f2 (x N : Int32) (f : sg_F) (L : sg_L) (h : f 0 48 = 2) (hn : f 0 50 = N) : acP 0 48 21 50 2 4 N ((x + N) * 2) [10, 1] f (sX12_sitsAs_0_f2_f2 x f L) := by
  unfold sX12_sitsAs_0_f2_f2 sX12_begins_10_f2 sX12_begins_10_f2_b19; (repeat first | rw [spl_d] | rw [spl2_d])
  exact acP.cons (by decide) (acP.map (ac_sX12_setsAs_2_f3_f2 x N (acB 0 48 21 2 10 f) L (acB.r (by decide) h (by decide)) (acB.n (by decide) (by decide) hn)) (fun z => by rw [z]))
theorem ac_sX12_sitsAs_2_f1_f2 (x N : Int32) (f : sg_F) (L : sg_L) (h : f 0 48 = 1) (hn : f 0 50 = N) : acP 0 48 21 50 1 4 N (-((x + N) * 2)) [30, 10, 1] f (sX12_sitsAs_2_f1_f2 x f L) := by
  unfold sX12_sitsAs_2_f1_f2 sX12_begins_30_f1 sX12_begins_30_f1_b19; (repeat first | rw [spl_d] | rw [spl2_d])
  exact acP.cons (by decide) (acP.map (ac_sX12_sitsAs_0_f2_f2 x N (acB 0 48 21 1 30 f) L (acB.r (by decide) h (by decide)) (acB.n (by decide) (by decide) hn)) (fun z => by rw [z]))
theorem ac_sX12_slipsAs_2_f4_f2 (x N : Int32) (f : sg_F) (L : sg_L) (h : f 0 48 = 4) (hn : f 0 50 = N) : acP 0 48 21 50 4 5 N (x ^^^ N) [11] f (sX12_slipsAs_2_f4_f2 x f L) := by
  unfold sX12_slipsAs_2_f4_f2 sX12_begins_11_f4 sX12_begins_11_f4_b19; (repeat first | rw [spl_d] | rw [spl2_d])
  exact acP.leaf (by decide) (by decide) (by decide) h (by decide) hn (by show x ^^^ acB 0 48 21 4 11 f 0 50 = (x ^^^ N); rw [acB.n (by decide) (by decide) hn])
theorem ac_sX12_tellsAs_2_f0_f2 (x N : Int32) (f : sg_F) (L : sg_L) (h : f 0 48 = 0) (hn : f 0 50 = N) : acP 0 48 21 50 0 5 N ((-((x + N) * 2)) - (1 ^^^ N)) [2, 30, 10, 1, 11] f (sX12_tellsAs_2_f0_f2 x f L) := by
  unfold sX12_tellsAs_2_f0_f2 sX12_begins_2_f0 sX12_begins_2_f0_b19; (repeat first | rw [spl_d] | rw [spl2_d])
  exact acP.cons (by decide) (acP.two (ac_sX12_sitsAs_2_f1_f2 x N (acB 0 48 21 0 2 f) L (acB.r (by decide) h (by decide)) (acB.n (by decide) (by decide) hn)) (ac_sX12_slipsAs_2_f4_f2 1 N (sX12_sitsAs_2_f1_f2 x (acB 0 48 21 0 2 f) L).2 L (ac_sX12_sitsAs_2_f1_f2 x N (acB 0 48 21 0 2 f) L (acB.r (by decide) h (by decide)) (acB.n (by decide) (by decide) hn)).2.1 (ac_sX12_sitsAs_2_f1_f2 x N (acB 0 48 21 0 2 f) L (acB.r (by decide) h (by decide)) (acB.n (by decide) (by decide) hn)).2.2.1) rfl rfl (fun z1 z2 => by rw [z1, z2]))
theorem ac_sX12_setsAs_3_f0_f3 (x N : Int32) (f : sg_F) (L : sg_L) (h : f 0 48 = 0) (hn : f 0 50 = N) : acP 0 48 21 50 0 1 N (x + N) [1] f (sX12_setsAs_3_f0_f3 x f L) := by
  unfold sX12_setsAs_3_f0_f3 sX12_begins_1_f0 sX12_begins_1_f0_b19; (repeat first | rw [spl_d] | rw [spl2_d])
  exact acP.leaf (by decide) (by decide) (by decide) h (by decide) hn (by show x + acB 0 48 21 0 1 f 0 50 = (x + N); rw [acB.n (by decide) (by decide) hn])
theorem ac_sX12_setsAs_3_f3_f3 (x N : Int32) (f : sg_F) (L : sg_L) (h : f 0 48 = 3) (hn : f 0 50 = N) : acP 0 48 21 50 3 4 N (x + N) [1] f (sX12_setsAs_3_f3_f3 x f L) := by
  unfold sX12_setsAs_3_f3_f3 sX12_begins_1_f3 sX12_begins_1_f3_b19; (repeat first | rw [spl_d] | rw [spl2_d])
  exact acP.leaf (by decide) (by decide) (by decide) h (by decide) hn (by show x + acB 0 48 21 3 1 f 0 50 = (x + N); rw [acB.n (by decide) (by decide) hn])
theorem ac_sX12_sitsAs_0_f2_f3 (x N : Int32) (f : sg_F) (L : sg_L) (h : f 0 48 = 2) (hn : f 0 50 = N) : acP 0 48 21 50 2 4 N ((x + N) * 2) [10, 1] f (sX12_sitsAs_0_f2_f3 x f L) := by
  unfold sX12_sitsAs_0_f2_f3 sX12_begins_10_f2 sX12_begins_10_f2_b19; (repeat first | rw [spl_d] | rw [spl2_d])
  exact acP.cons (by decide) (acP.map (ac_sX12_setsAs_3_f3_f3 x N (acB 0 48 21 2 10 f) L (acB.r (by decide) h (by decide)) (acB.n (by decide) (by decide) hn)) (fun z => by rw [z]))
theorem ac_sX12_sitsAs_2_f1_f3 (x N : Int32) (f : sg_F) (L : sg_L) (h : f 0 48 = 1) (hn : f 0 50 = N) : acP 0 48 21 50 1 4 N (-((x + N) * 2)) [30, 10, 1] f (sX12_sitsAs_2_f1_f3 x f L) := by
  unfold sX12_sitsAs_2_f1_f3 sX12_begins_30_f1 sX12_begins_30_f1_b19; (repeat first | rw [spl_d] | rw [spl2_d])
  exact acP.cons (by decide) (acP.map (ac_sX12_sitsAs_0_f2_f3 x N (acB 0 48 21 1 30 f) L (acB.r (by decide) h (by decide)) (acB.n (by decide) (by decide) hn)) (fun z => by rw [z]))
theorem ac_sX12_sitsAs_3_f0_f3 (x N : Int32) (f : sg_F) (L : sg_L) (h : f 0 48 = 0) (hn : f 0 50 = N) : acP 0 48 21 50 0 4 N (-(((x + 1) + N) * 2)) [41, 30, 10, 1] f (sX12_sitsAs_3_f0_f3 x f L) := by
  unfold sX12_sitsAs_3_f0_f3 sX12_sitsAs_3_f0_f3_b10 sX12_begins_41_f0 sX12_begins_41_f0_b19; (repeat first | rw [spl_d] | rw [spl2_d])
  exact acP.cons (by decide) (acP.map (ac_sX12_sitsAs_2_f1_f3 (x + 1) N (acB 0 48 21 0 41 f) L (acB.r (by decide) h (by decide)) (acB.n (by decide) (by decide) hn)) (fun z => z))
theorem ac_sX12_slipsAs_2_f1_f3 (x N : Int32) (f : sg_F) (L : sg_L) (h : f 0 48 = 1) (hn : f 0 50 = N) : acP 0 48 21 50 1 2 N (x ^^^ N) [11] f (sX12_slipsAs_2_f1_f3 x f L) := by
  unfold sX12_slipsAs_2_f1_f3 sX12_begins_11_f1 sX12_begins_11_f1_b19; (repeat first | rw [spl_d] | rw [spl2_d])
  exact acP.leaf (by decide) (by decide) (by decide) h (by decide) hn (by show x ^^^ acB 0 48 21 1 11 f 0 50 = (x ^^^ N); rw [acB.n (by decide) (by decide) hn])
theorem ac_sX12_slipsAs_3_f0_f3 (x N : Int32) (f : sg_F) (L : sg_L) (h : f 0 48 = 0) (hn : f 0 50 = N) : acP 0 48 21 50 0 2 N ((x ^^^ N) * 3) [40, 11] f (sX12_slipsAs_3_f0_f3 x f L) := by
  unfold sX12_slipsAs_3_f0_f3 sX12_slipsAs_3_f0_f3_b10 sX12_begins_40_f0 sX12_begins_40_f0_b19; (repeat first | rw [spl_d] | rw [spl2_d])
  exact acP.cons (by decide) (acP.map (ac_sX12_slipsAs_2_f1_f3 x N (acB 0 48 21 0 40 f) L (acB.r (by decide) h (by decide)) (acB.n (by decide) (by decide) hn)) (fun z => by rw [z]))
theorem ac_sX12_setsAs_3_f4_f3 (x N : Int32) (f : sg_F) (L : sg_L) (h : f 0 48 = 4) (hn : f 0 50 = N) : acP 0 48 21 50 4 5 N (x + N) [1] f (sX12_setsAs_3_f4_f3 x f L) := by
  unfold sX12_setsAs_3_f4_f3 sX12_begins_1_f4 sX12_begins_1_f4_b19; (repeat first | rw [spl_d] | rw [spl2_d])
  exact acP.leaf (by decide) (by decide) (by decide) h (by decide) hn (by show x + acB 0 48 21 4 1 f 0 50 = (x + N); rw [acB.n (by decide) (by decide) hn])
theorem ac_sX12_sitsAs_0_f3_f3 (x N : Int32) (f : sg_F) (L : sg_L) (h : f 0 48 = 3) (hn : f 0 50 = N) : acP 0 48 21 50 3 5 N ((x + N) * 2) [10, 1] f (sX12_sitsAs_0_f3_f3 x f L) := by
  unfold sX12_sitsAs_0_f3_f3 sX12_begins_10_f3 sX12_begins_10_f3_b19; (repeat first | rw [spl_d] | rw [spl2_d])
  exact acP.cons (by decide) (acP.map (ac_sX12_setsAs_3_f4_f3 x N (acB 0 48 21 3 10 f) L (acB.r (by decide) h (by decide)) (acB.n (by decide) (by decide) hn)) (fun z => by rw [z]))
theorem ac_sX12_sitsAs_2_f2_f3 (x N : Int32) (f : sg_F) (L : sg_L) (h : f 0 48 = 2) (hn : f 0 50 = N) : acP 0 48 21 50 2 5 N (-((x + N) * 2)) [30, 10, 1] f (sX12_sitsAs_2_f2_f3 x f L) := by
  unfold sX12_sitsAs_2_f2_f3 sX12_begins_30_f2 sX12_begins_30_f2_b19; (repeat first | rw [spl_d] | rw [spl2_d])
  exact acP.cons (by decide) (acP.map (ac_sX12_sitsAs_0_f3_f3 x N (acB 0 48 21 2 30 f) L (acB.r (by decide) h (by decide)) (acB.n (by decide) (by decide) hn)) (fun z => by rw [z]))
theorem ac_sX12_sitsAs_3_f1_f3 (x N : Int32) (f : sg_F) (L : sg_L) (h : f 0 48 = 1) (hn : f 0 50 = N) : acP 0 48 21 50 1 5 N (-(((x + 1) + N) * 2)) [41, 30, 10, 1] f (sX12_sitsAs_3_f1_f3 x f L) := by
  unfold sX12_sitsAs_3_f1_f3 sX12_sitsAs_3_f1_f3_b10 sX12_begins_41_f1 sX12_begins_41_f1_b19; (repeat first | rw [spl_d] | rw [spl2_d])
  exact acP.cons (by decide) (acP.map (ac_sX12_sitsAs_2_f2_f3 (x + 1) N (acB 0 48 21 1 41 f) L (acB.r (by decide) h (by decide)) (acB.n (by decide) (by decide) hn)) (fun z => z))
theorem ac_sX12_slipsAs_2_f6_f3 (x N : Int32) (f : sg_F) (L : sg_L) (h : f 0 48 = 6) (hn : f 0 50 = N) : acP 0 48 21 50 6 7 N (x ^^^ N) [11] f (sX12_slipsAs_2_f6_f3 x f L) := by
  unfold sX12_slipsAs_2_f6_f3 sX12_begins_11_f6 sX12_begins_11_f6_b19; (repeat first | rw [spl_d] | rw [spl2_d])
  exact acP.leaf (by decide) (by decide) (by decide) h (by decide) hn (by show x ^^^ acB 0 48 21 6 11 f 0 50 = (x ^^^ N); rw [acB.n (by decide) (by decide) hn])
theorem ac_sX12_slipsAs_3_f5_f3 (x N : Int32) (f : sg_F) (L : sg_L) (h : f 0 48 = 5) (hn : f 0 50 = N) : acP 0 48 21 50 5 7 N ((x ^^^ N) * 3) [40, 11] f (sX12_slipsAs_3_f5_f3 x f L) := by
  unfold sX12_slipsAs_3_f5_f3 sX12_slipsAs_3_f5_f3_b10 sX12_begins_40_f5 sX12_begins_40_f5_b19; (repeat first | rw [spl_d] | rw [spl2_d])
  exact acP.cons (by decide) (acP.map (ac_sX12_slipsAs_2_f6_f3 x N (acB 0 48 21 5 40 f) L (acB.r (by decide) h (by decide)) (acB.n (by decide) (by decide) hn)) (fun z => by rw [z]))
theorem ac_sX12_tellsAs_3_f0_f3 (x N : Int32) (f : sg_F) (L : sg_L) (h : f 0 48 = 0) (hn : f 0 50 = N) : acP 0 48 21 50 0 7 N ((-(((x + 1) + N) * 2)) - ((1 ^^^ N) * 3)) [2, 41, 30, 10, 1, 40, 11] f (sX12_tellsAs_3_f0_f3 x f L) := by
  unfold sX12_tellsAs_3_f0_f3 sX12_begins_2_f0 sX12_begins_2_f0_b19; (repeat first | rw [spl_d] | rw [spl2_d])
  exact acP.cons (by decide) (acP.two (ac_sX12_sitsAs_3_f1_f3 x N (acB 0 48 21 0 2 f) L (acB.r (by decide) h (by decide)) (acB.n (by decide) (by decide) hn)) (ac_sX12_slipsAs_3_f5_f3 1 N (sX12_sitsAs_3_f1_f3 x (acB 0 48 21 0 2 f) L).2 L (ac_sX12_sitsAs_3_f1_f3 x N (acB 0 48 21 0 2 f) L (acB.r (by decide) h (by decide)) (acB.n (by decide) (by decide) hn)).2.1 (ac_sX12_sitsAs_3_f1_f3 x N (acB 0 48 21 0 2 f) L (acB.r (by decide) h (by decide)) (acB.n (by decide) (by decide) hn)).2.2.1) rfl rfl (fun z1 z2 => by rw [z1, z2]))
theorem ac_sX12_setsAs_0_f1_f4 (x N : Int32) (f : sg_F) (L : sg_L) (h : f 0 48 = 1) (hn : f 0 50 = N) : acP 0 48 21 50 1 2 N (x + N) [1] f (sX12_setsAs_0_f1_f4 x f L) := by
  unfold sX12_setsAs_0_f1_f4 sX12_begins_1_f1 sX12_begins_1_f1_b19; (repeat first | rw [spl_d] | rw [spl2_d])
  exact acP.leaf (by decide) (by decide) (by decide) h (by decide) hn (by show x + acB 0 48 21 1 1 f 0 50 = (x + N); rw [acB.n (by decide) (by decide) hn])
theorem ac_sX12_setsAs_4_f0_f4 (x N : Int32) (f : sg_F) (L : sg_L) (h : f 0 48 = 0) (hn : f 0 50 = N) : acP 0 48 21 50 0 2 N ((x + N) + 3) [20, 1] f (sX12_setsAs_4_f0_f4 x f L) := by
  unfold sX12_setsAs_4_f0_f4 sX12_setsAs_4_f0_f4_b16 sX12_begins_20_f0 sX12_begins_20_f0_b19; (repeat first | rw [spl_d] | rw [spl2_d])
  exact acP.cons (by decide) (acP.map (ac_sX12_setsAs_0_f1_f4 x N (acB 0 48 21 0 20 f) L (acB.r (by decide) h (by decide)) (acB.n (by decide) (by decide) hn)) (fun z => by rw [z]))
theorem ac_sX12_setsAs_0_f2_f4 (x N : Int32) (f : sg_F) (L : sg_L) (h : f 0 48 = 2) (hn : f 0 50 = N) : acP 0 48 21 50 2 3 N (x + N) [1] f (sX12_setsAs_0_f2_f4 x f L) := by
  unfold sX12_setsAs_0_f2_f4 sX12_begins_1_f2 sX12_begins_1_f2_b19; (repeat first | rw [spl_d] | rw [spl2_d])
  exact acP.leaf (by decide) (by decide) (by decide) h (by decide) hn (by show x + acB 0 48 21 2 1 f 0 50 = (x + N); rw [acB.n (by decide) (by decide) hn])
theorem ac_sX12_setsAs_4_f1_f4 (x N : Int32) (f : sg_F) (L : sg_L) (h : f 0 48 = 1) (hn : f 0 50 = N) : acP 0 48 21 50 1 3 N ((x + N) + 3) [20, 1] f (sX12_setsAs_4_f1_f4 x f L) := by
  unfold sX12_setsAs_4_f1_f4 sX12_setsAs_4_f1_f4_b16 sX12_begins_20_f1 sX12_begins_20_f1_b19; (repeat first | rw [spl_d] | rw [spl2_d])
  exact acP.cons (by decide) (acP.map (ac_sX12_setsAs_0_f2_f4 x N (acB 0 48 21 1 20 f) L (acB.r (by decide) h (by decide)) (acB.n (by decide) (by decide) hn)) (fun z => by rw [z]))
theorem ac_sX12_sitsAs_4_f0_f4 (x N : Int32) (f : sg_F) (L : sg_L) (h : f 0 48 = 0) (hn : f 0 50 = N) : acP 0 48 21 50 0 3 N (((x + N) + 3) * 2) [10, 20, 1] f (sX12_sitsAs_4_f0_f4 x f L) := by
  unfold sX12_sitsAs_4_f0_f4 sX12_begins_10_f0 sX12_begins_10_f0_b19; (repeat first | rw [spl_d] | rw [spl2_d])
  exact acP.cons (by decide) (acP.map (ac_sX12_setsAs_4_f1_f4 x N (acB 0 48 21 0 10 f) L (acB.r (by decide) h (by decide)) (acB.n (by decide) (by decide) hn)) (fun z => by rw [z]))
theorem ac_sX12_slipsAs_1_f1_f4 (x N : Int32) (f : sg_F) (L : sg_L) (h : f 0 48 = 1) (hn : f 0 50 = N) : acP 0 48 21 50 1 2 N (x ^^^ N) [11] f (sX12_slipsAs_1_f1_f4 x f L) := by
  unfold sX12_slipsAs_1_f1_f4 sX12_begins_11_f1 sX12_begins_11_f1_b19; (repeat first | rw [spl_d] | rw [spl2_d])
  exact acP.leaf (by decide) (by decide) (by decide) h (by decide) hn (by show x ^^^ acB 0 48 21 1 11 f 0 50 = (x ^^^ N); rw [acB.n (by decide) (by decide) hn])
theorem ac_sX12_setsAs_0_f3_f4 (x N : Int32) (f : sg_F) (L : sg_L) (h : f 0 48 = 3) (hn : f 0 50 = N) : acP 0 48 21 50 3 4 N (x + N) [1] f (sX12_setsAs_0_f3_f4 x f L) := by
  unfold sX12_setsAs_0_f3_f4 sX12_begins_1_f3 sX12_begins_1_f3_b19; (repeat first | rw [spl_d] | rw [spl2_d])
  exact acP.leaf (by decide) (by decide) (by decide) h (by decide) hn (by show x + acB 0 48 21 3 1 f 0 50 = (x + N); rw [acB.n (by decide) (by decide) hn])
theorem ac_sX12_setsAs_4_f2_f4 (x N : Int32) (f : sg_F) (L : sg_L) (h : f 0 48 = 2) (hn : f 0 50 = N) : acP 0 48 21 50 2 4 N ((x + N) + 3) [20, 1] f (sX12_setsAs_4_f2_f4 x f L) := by
  unfold sX12_setsAs_4_f2_f4 sX12_setsAs_4_f2_f4_b16 sX12_begins_20_f2 sX12_begins_20_f2_b19; (repeat first | rw [spl_d] | rw [spl2_d])
  exact acP.cons (by decide) (acP.map (ac_sX12_setsAs_0_f3_f4 x N (acB 0 48 21 2 20 f) L (acB.r (by decide) h (by decide)) (acB.n (by decide) (by decide) hn)) (fun z => by rw [z]))
theorem ac_sX12_slipsAs_4_f0_f4 (x N : Int32) (f : sg_F) (L : sg_L) (h : f 0 48 = 0) (hn : f 0 50 = N) : acP 0 48 21 50 0 4 N ((x ^^^ N) - ((2 + N) + 3)) [50, 11, 20, 1] f (sX12_slipsAs_4_f0_f4 x f L) := by
  unfold sX12_slipsAs_4_f0_f4 sX12_slipsAs_4_f0_f4_b36 sX12_begins_50_f0 sX12_begins_50_f0_b19; (repeat first | rw [spl_d] | rw [spl2_d])
  exact acP.cons (by decide) (acP.two (ac_sX12_slipsAs_1_f1_f4 x N (acB 0 48 21 0 50 f) L (acB.r (by decide) h (by decide)) (acB.n (by decide) (by decide) hn)) (ac_sX12_setsAs_4_f2_f4 2 N (sX12_slipsAs_1_f1_f4 x (acB 0 48 21 0 50 f) L).2 L (ac_sX12_slipsAs_1_f1_f4 x N (acB 0 48 21 0 50 f) L (acB.r (by decide) h (by decide)) (acB.n (by decide) (by decide) hn)).2.1 (ac_sX12_slipsAs_1_f1_f4 x N (acB 0 48 21 0 50 f) L (acB.r (by decide) h (by decide)) (acB.n (by decide) (by decide) hn)).2.2.1) rfl rfl (fun z1 z2 => by rw [z1, z2]))
theorem ac_sX12_sitsAs_4_f1_f4 (x N : Int32) (f : sg_F) (L : sg_L) (h : f 0 48 = 1) (hn : f 0 50 = N) : acP 0 48 21 50 1 4 N (((x + N) + 3) * 2) [10, 20, 1] f (sX12_sitsAs_4_f1_f4 x f L) := by
  unfold sX12_sitsAs_4_f1_f4 sX12_begins_10_f1 sX12_begins_10_f1_b19; (repeat first | rw [spl_d] | rw [spl2_d])
  exact acP.cons (by decide) (acP.map (ac_sX12_setsAs_4_f2_f4 x N (acB 0 48 21 1 10 f) L (acB.r (by decide) h (by decide)) (acB.n (by decide) (by decide) hn)) (fun z => by rw [z]))
theorem ac_sX12_slipsAs_1_f5_f4 (x N : Int32) (f : sg_F) (L : sg_L) (h : f 0 48 = 5) (hn : f 0 50 = N) : acP 0 48 21 50 5 6 N (x ^^^ N) [11] f (sX12_slipsAs_1_f5_f4 x f L) := by
  unfold sX12_slipsAs_1_f5_f4 sX12_begins_11_f5 sX12_begins_11_f5_b19; (repeat first | rw [spl_d] | rw [spl2_d])
  exact acP.leaf (by decide) (by decide) (by decide) h (by decide) hn (by show x ^^^ acB 0 48 21 5 11 f 0 50 = (x ^^^ N); rw [acB.n (by decide) (by decide) hn])
theorem ac_sX12_setsAs_0_f7_f4 (x N : Int32) (f : sg_F) (L : sg_L) (h : f 0 48 = 7) (hn : f 0 50 = N) : acP 0 48 21 50 7 8 N (x + N) [1] f (sX12_setsAs_0_f7_f4 x f L) := by
  unfold sX12_setsAs_0_f7_f4 sX12_begins_1_f7 sX12_begins_1_f7_b19; (repeat first | rw [spl_d] | rw [spl2_d])
  exact acP.leaf (by decide) (by decide) (by decide) h (by decide) hn (by show x + acB 0 48 21 7 1 f 0 50 = (x + N); rw [acB.n (by decide) (by decide) hn])
theorem ac_sX12_setsAs_4_f6_f4 (x N : Int32) (f : sg_F) (L : sg_L) (h : f 0 48 = 6) (hn : f 0 50 = N) : acP 0 48 21 50 6 8 N ((x + N) + 3) [20, 1] f (sX12_setsAs_4_f6_f4 x f L) := by
  unfold sX12_setsAs_4_f6_f4 sX12_setsAs_4_f6_f4_b16 sX12_begins_20_f6 sX12_begins_20_f6_b19; (repeat first | rw [spl_d] | rw [spl2_d])
  exact acP.cons (by decide) (acP.map (ac_sX12_setsAs_0_f7_f4 x N (acB 0 48 21 6 20 f) L (acB.r (by decide) h (by decide)) (acB.n (by decide) (by decide) hn)) (fun z => by rw [z]))
theorem ac_sX12_slipsAs_4_f4_f4 (x N : Int32) (f : sg_F) (L : sg_L) (h : f 0 48 = 4) (hn : f 0 50 = N) : acP 0 48 21 50 4 8 N ((x ^^^ N) - ((2 + N) + 3)) [50, 11, 20, 1] f (sX12_slipsAs_4_f4_f4 x f L) := by
  unfold sX12_slipsAs_4_f4_f4 sX12_slipsAs_4_f4_f4_b36 sX12_begins_50_f4 sX12_begins_50_f4_b19; (repeat first | rw [spl_d] | rw [spl2_d])
  exact acP.cons (by decide) (acP.two (ac_sX12_slipsAs_1_f5_f4 x N (acB 0 48 21 4 50 f) L (acB.r (by decide) h (by decide)) (acB.n (by decide) (by decide) hn)) (ac_sX12_setsAs_4_f6_f4 2 N (sX12_slipsAs_1_f5_f4 x (acB 0 48 21 4 50 f) L).2 L (ac_sX12_slipsAs_1_f5_f4 x N (acB 0 48 21 4 50 f) L (acB.r (by decide) h (by decide)) (acB.n (by decide) (by decide) hn)).2.1 (ac_sX12_slipsAs_1_f5_f4 x N (acB 0 48 21 4 50 f) L (acB.r (by decide) h (by decide)) (acB.n (by decide) (by decide) hn)).2.2.1) rfl rfl (fun z1 z2 => by rw [z1, z2]))
theorem ac_sX12_tellsAs_4_f0_f4 (x N : Int32) (f : sg_F) (L : sg_L) (h : f 0 48 = 0) (hn : f 0 50 = N) : acP 0 48 21 50 0 8 N ((((x + N) + 3) * 2) - ((1 ^^^ N) - ((2 + N) + 3))) [2, 10, 20, 1, 50, 11, 20, 1] f (sX12_tellsAs_4_f0_f4 x f L) := by
  unfold sX12_tellsAs_4_f0_f4 sX12_begins_2_f0 sX12_begins_2_f0_b19; (repeat first | rw [spl_d] | rw [spl2_d])
  exact acP.cons (by decide) (acP.two (ac_sX12_sitsAs_4_f1_f4 x N (acB 0 48 21 0 2 f) L (acB.r (by decide) h (by decide)) (acB.n (by decide) (by decide) hn)) (ac_sX12_slipsAs_4_f4_f4 1 N (sX12_sitsAs_4_f1_f4 x (acB 0 48 21 0 2 f) L).2 L (ac_sX12_sitsAs_4_f1_f4 x N (acB 0 48 21 0 2 f) L (acB.r (by decide) h (by decide)) (acB.n (by decide) (by decide) hn)).2.1 (ac_sX12_sitsAs_4_f1_f4 x N (acB 0 48 21 0 2 f) L (acB.r (by decide) h (by decide)) (acB.n (by decide) (by decide) hn)).2.2.1) rfl rfl (fun z1 z2 => by rw [z1, z2]))
theorem ac_sX12_setsAs_5_f0_f5 (x N : Int32) (f : sg_F) (L : sg_L) (h : f 0 48 = 0) (hn : f 0 50 = N) : acP 0 48 21 50 0 1 N (x + N) [1] f (sX12_setsAs_5_f0_f5 x f L) := by
  unfold sX12_setsAs_5_f0_f5 sX12_begins_1_f0 sX12_begins_1_f0_b19; (repeat first | rw [spl_d] | rw [spl2_d])
  exact acP.leaf (by decide) (by decide) (by decide) h (by decide) hn (by show x + acB 0 48 21 0 1 f 0 50 = (x + N); rw [acB.n (by decide) (by decide) hn])
theorem ac_sX12_setsAs_5_f3_f5 (x N : Int32) (f : sg_F) (L : sg_L) (h : f 0 48 = 3) (hn : f 0 50 = N) : acP 0 48 21 50 3 4 N (x + N) [1] f (sX12_setsAs_5_f3_f5 x f L) := by
  unfold sX12_setsAs_5_f3_f5 sX12_begins_1_f3 sX12_begins_1_f3_b19; (repeat first | rw [spl_d] | rw [spl2_d])
  exact acP.leaf (by decide) (by decide) (by decide) h (by decide) hn (by show x + acB 0 48 21 3 1 f 0 50 = (x + N); rw [acB.n (by decide) (by decide) hn])
theorem ac_sX12_sitsAs_0_f2_f5 (x N : Int32) (f : sg_F) (L : sg_L) (h : f 0 48 = 2) (hn : f 0 50 = N) : acP 0 48 21 50 2 4 N ((x + N) * 2) [10, 1] f (sX12_sitsAs_0_f2_f5 x f L) := by
  unfold sX12_sitsAs_0_f2_f5 sX12_begins_10_f2 sX12_begins_10_f2_b19; (repeat first | rw [spl_d] | rw [spl2_d])
  exact acP.cons (by decide) (acP.map (ac_sX12_setsAs_5_f3_f5 x N (acB 0 48 21 2 10 f) L (acB.r (by decide) h (by decide)) (acB.n (by decide) (by decide) hn)) (fun z => by rw [z]))
theorem ac_sX12_sitsAs_2_f1_f5 (x N : Int32) (f : sg_F) (L : sg_L) (h : f 0 48 = 1) (hn : f 0 50 = N) : acP 0 48 21 50 1 4 N (-((x + N) * 2)) [30, 10, 1] f (sX12_sitsAs_2_f1_f5 x f L) := by
  unfold sX12_sitsAs_2_f1_f5 sX12_begins_30_f1 sX12_begins_30_f1_b19; (repeat first | rw [spl_d] | rw [spl2_d])
  exact acP.cons (by decide) (acP.map (ac_sX12_sitsAs_0_f2_f5 x N (acB 0 48 21 1 30 f) L (acB.r (by decide) h (by decide)) (acB.n (by decide) (by decide) hn)) (fun z => by rw [z]))
theorem ac_sX12_sitsAs_5_f0_f5 (x N : Int32) (f : sg_F) (L : sg_L) (h : f 0 48 = 0) (hn : f 0 50 = N) : acP 0 48 21 50 0 4 N (-(((x + 1) + N) * 2)) [41, 30, 10, 1] f (sX12_sitsAs_5_f0_f5 x f L) := by
  unfold sX12_sitsAs_5_f0_f5 sX12_sitsAs_5_f0_f5_b10 sX12_begins_41_f0 sX12_begins_41_f0_b19; (repeat first | rw [spl_d] | rw [spl2_d])
  exact acP.cons (by decide) (acP.map (ac_sX12_sitsAs_2_f1_f5 (x + 1) N (acB 0 48 21 0 41 f) L (acB.r (by decide) h (by decide)) (acB.n (by decide) (by decide) hn)) (fun z => z))
theorem ac_sX12_slipsAs_2_f1_f5 (x N : Int32) (f : sg_F) (L : sg_L) (h : f 0 48 = 1) (hn : f 0 50 = N) : acP 0 48 21 50 1 2 N (x ^^^ N) [11] f (sX12_slipsAs_2_f1_f5 x f L) := by
  unfold sX12_slipsAs_2_f1_f5 sX12_begins_11_f1 sX12_begins_11_f1_b19; (repeat first | rw [spl_d] | rw [spl2_d])
  exact acP.leaf (by decide) (by decide) (by decide) h (by decide) hn (by show x ^^^ acB 0 48 21 1 11 f 0 50 = (x ^^^ N); rw [acB.n (by decide) (by decide) hn])
theorem ac_sX12_slipsAs_5_f0_f5 (x N : Int32) (f : sg_F) (L : sg_L) (h : f 0 48 = 0) (hn : f 0 50 = N) : acP 0 48 21 50 0 2 N ((x ^^^ N) * 3) [40, 11] f (sX12_slipsAs_5_f0_f5 x f L) := by
  unfold sX12_slipsAs_5_f0_f5 sX12_slipsAs_5_f0_f5_b10 sX12_begins_40_f0 sX12_begins_40_f0_b19; (repeat first | rw [spl_d] | rw [spl2_d])
  exact acP.cons (by decide) (acP.map (ac_sX12_slipsAs_2_f1_f5 x N (acB 0 48 21 0 40 f) L (acB.r (by decide) h (by decide)) (acB.n (by decide) (by decide) hn)) (fun z => by rw [z]))
theorem ac_sX12_setsAs_5_f5_f5 (x N : Int32) (f : sg_F) (L : sg_L) (h : f 0 48 = 5) (hn : f 0 50 = N) : acP 0 48 21 50 5 6 N (x + N) [1] f (sX12_setsAs_5_f5_f5 x f L) := by
  unfold sX12_setsAs_5_f5_f5 sX12_begins_1_f5 sX12_begins_1_f5_b19; (repeat first | rw [spl_d] | rw [spl2_d])
  exact acP.leaf (by decide) (by decide) (by decide) h (by decide) hn (by show x + acB 0 48 21 5 1 f 0 50 = (x + N); rw [acB.n (by decide) (by decide) hn])
theorem ac_sX12_sitsAs_0_f4_f5 (x N : Int32) (f : sg_F) (L : sg_L) (h : f 0 48 = 4) (hn : f 0 50 = N) : acP 0 48 21 50 4 6 N ((x + N) * 2) [10, 1] f (sX12_sitsAs_0_f4_f5 x f L) := by
  unfold sX12_sitsAs_0_f4_f5 sX12_begins_10_f4 sX12_begins_10_f4_b19; (repeat first | rw [spl_d] | rw [spl2_d])
  exact acP.cons (by decide) (acP.map (ac_sX12_setsAs_5_f5_f5 x N (acB 0 48 21 4 10 f) L (acB.r (by decide) h (by decide)) (acB.n (by decide) (by decide) hn)) (fun z => by rw [z]))
theorem ac_sX12_sitsAs_2_f3_f5 (x N : Int32) (f : sg_F) (L : sg_L) (h : f 0 48 = 3) (hn : f 0 50 = N) : acP 0 48 21 50 3 6 N (-((x + N) * 2)) [30, 10, 1] f (sX12_sitsAs_2_f3_f5 x f L) := by
  unfold sX12_sitsAs_2_f3_f5 sX12_begins_30_f3 sX12_begins_30_f3_b19; (repeat first | rw [spl_d] | rw [spl2_d])
  exact acP.cons (by decide) (acP.map (ac_sX12_sitsAs_0_f4_f5 x N (acB 0 48 21 3 30 f) L (acB.r (by decide) h (by decide)) (acB.n (by decide) (by decide) hn)) (fun z => by rw [z]))
theorem ac_sX12_sitsAs_5_f2_f5 (x N : Int32) (f : sg_F) (L : sg_L) (h : f 0 48 = 2) (hn : f 0 50 = N) : acP 0 48 21 50 2 6 N (-(((x + 1) + N) * 2)) [41, 30, 10, 1] f (sX12_sitsAs_5_f2_f5 x f L) := by
  unfold sX12_sitsAs_5_f2_f5 sX12_sitsAs_5_f2_f5_b10 sX12_begins_41_f2 sX12_begins_41_f2_b19; (repeat first | rw [spl_d] | rw [spl2_d])
  exact acP.cons (by decide) (acP.map (ac_sX12_sitsAs_2_f3_f5 (x + 1) N (acB 0 48 21 2 41 f) L (acB.r (by decide) h (by decide)) (acB.n (by decide) (by decide) hn)) (fun z => z))
theorem ac_sX12_slipsAs_2_f7_f5 (x N : Int32) (f : sg_F) (L : sg_L) (h : f 0 48 = 7) (hn : f 0 50 = N) : acP 0 48 21 50 7 8 N (x ^^^ N) [11] f (sX12_slipsAs_2_f7_f5 x f L) := by
  unfold sX12_slipsAs_2_f7_f5 sX12_begins_11_f7 sX12_begins_11_f7_b19; (repeat first | rw [spl_d] | rw [spl2_d])
  exact acP.leaf (by decide) (by decide) (by decide) h (by decide) hn (by show x ^^^ acB 0 48 21 7 11 f 0 50 = (x ^^^ N); rw [acB.n (by decide) (by decide) hn])
theorem ac_sX12_slipsAs_5_f6_f5 (x N : Int32) (f : sg_F) (L : sg_L) (h : f 0 48 = 6) (hn : f 0 50 = N) : acP 0 48 21 50 6 8 N ((x ^^^ N) * 3) [40, 11] f (sX12_slipsAs_5_f6_f5 x f L) := by
  unfold sX12_slipsAs_5_f6_f5 sX12_slipsAs_5_f6_f5_b10 sX12_begins_40_f6 sX12_begins_40_f6_b19; (repeat first | rw [spl_d] | rw [spl2_d])
  exact acP.cons (by decide) (acP.map (ac_sX12_slipsAs_2_f7_f5 x N (acB 0 48 21 6 40 f) L (acB.r (by decide) h (by decide)) (acB.n (by decide) (by decide) hn)) (fun z => by rw [z]))
theorem ac_sX12_tellsAs_3_f1_f5 (x N : Int32) (f : sg_F) (L : sg_L) (h : f 0 48 = 1) (hn : f 0 50 = N) : acP 0 48 21 50 1 8 N ((-(((x + 1) + N) * 2)) - ((1 ^^^ N) * 3)) [2, 41, 30, 10, 1, 40, 11] f (sX12_tellsAs_3_f1_f5 x f L) := by
  unfold sX12_tellsAs_3_f1_f5 sX12_begins_2_f1 sX12_begins_2_f1_b19; (repeat first | rw [spl_d] | rw [spl2_d])
  exact acP.cons (by decide) (acP.two (ac_sX12_sitsAs_5_f2_f5 x N (acB 0 48 21 1 2 f) L (acB.r (by decide) h (by decide)) (acB.n (by decide) (by decide) hn)) (ac_sX12_slipsAs_5_f6_f5 1 N (sX12_sitsAs_5_f2_f5 x (acB 0 48 21 1 2 f) L).2 L (ac_sX12_sitsAs_5_f2_f5 x N (acB 0 48 21 1 2 f) L (acB.r (by decide) h (by decide)) (acB.n (by decide) (by decide) hn)).2.1 (ac_sX12_sitsAs_5_f2_f5 x N (acB 0 48 21 1 2 f) L (acB.r (by decide) h (by decide)) (acB.n (by decide) (by decide) hn)).2.2.1) rfl rfl (fun z1 z2 => by rw [z1, z2]))
theorem ac_sX12_tellsAs_5_f0_f5 (x N : Int32) (f : sg_F) (L : sg_L) (h : f 0 48 = 0) (hn : f 0 50 = N) : acP 0 48 21 50 0 8 N (((-(((x + 1) + N) * 2)) - ((1 ^^^ N) * 3)) ^^^ 5) [60, 2, 41, 30, 10, 1, 40, 11] f (sX12_tellsAs_5_f0_f5 x f L) := by
  unfold sX12_tellsAs_5_f0_f5 sX12_begins_60_f0 sX12_begins_60_f0_b19; (repeat first | rw [spl_d] | rw [spl2_d])
  exact acP.cons (by decide) (acP.map (ac_sX12_tellsAs_3_f1_f5 x N (acB 0 48 21 0 60 f) L (acB.r (by decide) h (by decide)) (acB.n (by decide) (by decide) hn)) (fun z => by rw [z]))
theorem ac_sX12_setsAs_0_f1_f6 (x N : Int32) (f : sg_F) (L : sg_L) (h : f 0 48 = 1) (hn : f 0 50 = N) : acP 0 48 21 50 1 2 N (x + N) [1] f (sX12_setsAs_0_f1_f6 x f L) := by
  unfold sX12_setsAs_0_f1_f6 sX12_begins_1_f1 sX12_begins_1_f1_b19; (repeat first | rw [spl_d] | rw [spl2_d])
  exact acP.leaf (by decide) (by decide) (by decide) h (by decide) hn (by show x + acB 0 48 21 1 1 f 0 50 = (x + N); rw [acB.n (by decide) (by decide) hn])
theorem ac_sX12_setsAs_6_f0_f6 (x N : Int32) (f : sg_F) (L : sg_L) (h : f 0 48 = 0) (hn : f 0 50 = N) : acP 0 48 21 50 0 2 N ((x + N) * 2) [70, 1] f (sX12_setsAs_6_f0_f6 x f L) := by
  unfold sX12_setsAs_6_f0_f6 sX12_begins_70_f0 sX12_begins_70_f0_b19; (repeat first | rw [spl_d] | rw [spl2_d])
  exact acP.cons (by decide) (acP.map (ac_sX12_setsAs_0_f1_f6 x N (acB 0 48 21 0 70 f) L (acB.r (by decide) h (by decide)) (acB.n (by decide) (by decide) hn)) (fun z => by rw [z]))
theorem ac_sX12_setsAs_0_f2_f6 (x N : Int32) (f : sg_F) (L : sg_L) (h : f 0 48 = 2) (hn : f 0 50 = N) : acP 0 48 21 50 2 3 N (x + N) [1] f (sX12_setsAs_0_f2_f6 x f L) := by
  unfold sX12_setsAs_0_f2_f6 sX12_begins_1_f2 sX12_begins_1_f2_b19; (repeat first | rw [spl_d] | rw [spl2_d])
  exact acP.leaf (by decide) (by decide) (by decide) h (by decide) hn (by show x + acB 0 48 21 2 1 f 0 50 = (x + N); rw [acB.n (by decide) (by decide) hn])
theorem ac_sX12_setsAs_6_f1_f6 (x N : Int32) (f : sg_F) (L : sg_L) (h : f 0 48 = 1) (hn : f 0 50 = N) : acP 0 48 21 50 1 3 N ((x + N) * 2) [70, 1] f (sX12_setsAs_6_f1_f6 x f L) := by
  unfold sX12_setsAs_6_f1_f6 sX12_begins_70_f1 sX12_begins_70_f1_b19; (repeat first | rw [spl_d] | rw [spl2_d])
  exact acP.cons (by decide) (acP.map (ac_sX12_setsAs_0_f2_f6 x N (acB 0 48 21 1 70 f) L (acB.r (by decide) h (by decide)) (acB.n (by decide) (by decide) hn)) (fun z => by rw [z]))
theorem ac_sX12_sitsAs_6_f0_f6 (x N : Int32) (f : sg_F) (L : sg_L) (h : f 0 48 = 0) (hn : f 0 50 = N) : acP 0 48 21 50 0 3 N (((x + N) * 2) * 2) [10, 70, 1] f (sX12_sitsAs_6_f0_f6 x f L) := by
  unfold sX12_sitsAs_6_f0_f6 sX12_begins_10_f0 sX12_begins_10_f0_b19; (repeat first | rw [spl_d] | rw [spl2_d])
  exact acP.cons (by decide) (acP.map (ac_sX12_setsAs_6_f1_f6 x N (acB 0 48 21 0 10 f) L (acB.r (by decide) h (by decide)) (acB.n (by decide) (by decide) hn)) (fun z => by rw [z]))
theorem ac_sX12_slipsAs_6_f0_f6 (x N : Int32) (f : sg_F) (L : sg_L) (h : f 0 48 = 0) (hn : f 0 50 = N) : acP 0 48 21 50 0 1 N (x ^^^ N) [11] f (sX12_slipsAs_6_f0_f6 x f L) := by
  unfold sX12_slipsAs_6_f0_f6 sX12_begins_11_f0 sX12_begins_11_f0_b19; (repeat first | rw [spl_d] | rw [spl2_d])
  exact acP.leaf (by decide) (by decide) (by decide) h (by decide) hn (by show x ^^^ acB 0 48 21 0 11 f 0 50 = (x ^^^ N); rw [acB.n (by decide) (by decide) hn])
theorem ac_sX12_setsAs_0_f3_f6 (x N : Int32) (f : sg_F) (L : sg_L) (h : f 0 48 = 3) (hn : f 0 50 = N) : acP 0 48 21 50 3 4 N (x + N) [1] f (sX12_setsAs_0_f3_f6 x f L) := by
  unfold sX12_setsAs_0_f3_f6 sX12_begins_1_f3 sX12_begins_1_f3_b19; (repeat first | rw [spl_d] | rw [spl2_d])
  exact acP.leaf (by decide) (by decide) (by decide) h (by decide) hn (by show x + acB 0 48 21 3 1 f 0 50 = (x + N); rw [acB.n (by decide) (by decide) hn])
theorem ac_sX12_setsAs_6_f2_f6 (x N : Int32) (f : sg_F) (L : sg_L) (h : f 0 48 = 2) (hn : f 0 50 = N) : acP 0 48 21 50 2 4 N ((x + N) * 2) [70, 1] f (sX12_setsAs_6_f2_f6 x f L) := by
  unfold sX12_setsAs_6_f2_f6 sX12_begins_70_f2 sX12_begins_70_f2_b19; (repeat first | rw [spl_d] | rw [spl2_d])
  exact acP.cons (by decide) (acP.map (ac_sX12_setsAs_0_f3_f6 x N (acB 0 48 21 2 70 f) L (acB.r (by decide) h (by decide)) (acB.n (by decide) (by decide) hn)) (fun z => by rw [z]))
theorem ac_sX12_sitsAs_6_f1_f6 (x N : Int32) (f : sg_F) (L : sg_L) (h : f 0 48 = 1) (hn : f 0 50 = N) : acP 0 48 21 50 1 4 N (((x + N) * 2) * 2) [10, 70, 1] f (sX12_sitsAs_6_f1_f6 x f L) := by
  unfold sX12_sitsAs_6_f1_f6 sX12_begins_10_f1 sX12_begins_10_f1_b19; (repeat first | rw [spl_d] | rw [spl2_d])
  exact acP.cons (by decide) (acP.map (ac_sX12_setsAs_6_f2_f6 x N (acB 0 48 21 1 10 f) L (acB.r (by decide) h (by decide)) (acB.n (by decide) (by decide) hn)) (fun z => by rw [z]))
theorem ac_sX12_slipsAs_6_f4_f6 (x N : Int32) (f : sg_F) (L : sg_L) (h : f 0 48 = 4) (hn : f 0 50 = N) : acP 0 48 21 50 4 5 N (x ^^^ N) [11] f (sX12_slipsAs_6_f4_f6 x f L) := by
  unfold sX12_slipsAs_6_f4_f6 sX12_begins_11_f4 sX12_begins_11_f4_b19; (repeat first | rw [spl_d] | rw [spl2_d])
  exact acP.leaf (by decide) (by decide) (by decide) h (by decide) hn (by show x ^^^ acB 0 48 21 4 11 f 0 50 = (x ^^^ N); rw [acB.n (by decide) (by decide) hn])
theorem ac_sX12_tellsAs_6_f0_f6 (x N : Int32) (f : sg_F) (L : sg_L) (h : f 0 48 = 0) (hn : f 0 50 = N) : acP 0 48 21 50 0 5 N ((((x + N) * 2) * 2) - (1 ^^^ N)) [2, 10, 70, 1, 11] f (sX12_tellsAs_6_f0_f6 x f L) := by
  unfold sX12_tellsAs_6_f0_f6 sX12_begins_2_f0 sX12_begins_2_f0_b19; (repeat first | rw [spl_d] | rw [spl2_d])
  exact acP.cons (by decide) (acP.two (ac_sX12_sitsAs_6_f1_f6 x N (acB 0 48 21 0 2 f) L (acB.r (by decide) h (by decide)) (acB.n (by decide) (by decide) hn)) (ac_sX12_slipsAs_6_f4_f6 1 N (sX12_sitsAs_6_f1_f6 x (acB 0 48 21 0 2 f) L).2 L (ac_sX12_sitsAs_6_f1_f6 x N (acB 0 48 21 0 2 f) L (acB.r (by decide) h (by decide)) (acB.n (by decide) (by decide) hn)).2.1 (ac_sX12_sitsAs_6_f1_f6 x N (acB 0 48 21 0 2 f) L (acB.r (by decide) h (by decide)) (acB.n (by decide) (by decide) hn)).2.2.1) rfl rfl (fun z1 z2 => by rw [z1, z2]))
theorem ac_sX12_setsAs_0_f1_f7 (x N : Int32) (f : sg_F) (L : sg_L) (h : f 0 48 = 1) (hn : f 0 50 = N) : acP 0 48 21 50 1 2 N (x + N) [1] f (sX12_setsAs_0_f1_f7 x f L) := by
  unfold sX12_setsAs_0_f1_f7 sX12_begins_1_f1 sX12_begins_1_f1_b19; (repeat first | rw [spl_d] | rw [spl2_d])
  exact acP.leaf (by decide) (by decide) (by decide) h (by decide) hn (by show x + acB 0 48 21 1 1 f 0 50 = (x + N); rw [acB.n (by decide) (by decide) hn])
theorem ac_sX12_setsAs_7_f0_f7 (x N : Int32) (f : sg_F) (L : sg_L) (h : f 0 48 = 0) (hn : f 0 50 = N) : acP 0 48 21 50 0 2 N ((x + N) + 3) [20, 1] f (sX12_setsAs_7_f0_f7 x f L) := by
  unfold sX12_setsAs_7_f0_f7 sX12_setsAs_7_f0_f7_b16 sX12_begins_20_f0 sX12_begins_20_f0_b19; (repeat first | rw [spl_d] | rw [spl2_d])
  exact acP.cons (by decide) (acP.map (ac_sX12_setsAs_0_f1_f7 x N (acB 0 48 21 0 20 f) L (acB.r (by decide) h (by decide)) (acB.n (by decide) (by decide) hn)) (fun z => by rw [z]))
theorem ac_sX12_setsAs_0_f3_f7 (x N : Int32) (f : sg_F) (L : sg_L) (h : f 0 48 = 3) (hn : f 0 50 = N) : acP 0 48 21 50 3 4 N (x + N) [1] f (sX12_setsAs_0_f3_f7 x f L) := by
  unfold sX12_setsAs_0_f3_f7 sX12_begins_1_f3 sX12_begins_1_f3_b19; (repeat first | rw [spl_d] | rw [spl2_d])
  exact acP.leaf (by decide) (by decide) (by decide) h (by decide) hn (by show x + acB 0 48 21 3 1 f 0 50 = (x + N); rw [acB.n (by decide) (by decide) hn])
theorem ac_sX12_setsAs_7_f2_f7 (x N : Int32) (f : sg_F) (L : sg_L) (h : f 0 48 = 2) (hn : f 0 50 = N) : acP 0 48 21 50 2 4 N ((x + N) + 3) [20, 1] f (sX12_setsAs_7_f2_f7 x f L) := by
  unfold sX12_setsAs_7_f2_f7 sX12_setsAs_7_f2_f7_b16 sX12_begins_20_f2 sX12_begins_20_f2_b19; (repeat first | rw [spl_d] | rw [spl2_d])
  exact acP.cons (by decide) (acP.map (ac_sX12_setsAs_0_f3_f7 x N (acB 0 48 21 2 20 f) L (acB.r (by decide) h (by decide)) (acB.n (by decide) (by decide) hn)) (fun z => by rw [z]))
theorem ac_sX12_sitsAs_4_f1_f7 (x N : Int32) (f : sg_F) (L : sg_L) (h : f 0 48 = 1) (hn : f 0 50 = N) : acP 0 48 21 50 1 4 N (((x + N) + 3) * 2) [10, 20, 1] f (sX12_sitsAs_4_f1_f7 x f L) := by
  unfold sX12_sitsAs_4_f1_f7 sX12_begins_10_f1 sX12_begins_10_f1_b19; (repeat first | rw [spl_d] | rw [spl2_d])
  exact acP.cons (by decide) (acP.map (ac_sX12_setsAs_7_f2_f7 x N (acB 0 48 21 1 10 f) L (acB.r (by decide) h (by decide)) (acB.n (by decide) (by decide) hn)) (fun z => by rw [z]))
theorem ac_sX12_slipsAs_1_f5_f7 (x N : Int32) (f : sg_F) (L : sg_L) (h : f 0 48 = 5) (hn : f 0 50 = N) : acP 0 48 21 50 5 6 N (x ^^^ N) [11] f (sX12_slipsAs_1_f5_f7 x f L) := by
  unfold sX12_slipsAs_1_f5_f7 sX12_begins_11_f5 sX12_begins_11_f5_b19; (repeat first | rw [spl_d] | rw [spl2_d])
  exact acP.leaf (by decide) (by decide) (by decide) h (by decide) hn (by show x ^^^ acB 0 48 21 5 11 f 0 50 = (x ^^^ N); rw [acB.n (by decide) (by decide) hn])
theorem ac_sX12_setsAs_0_f7_f7 (x N : Int32) (f : sg_F) (L : sg_L) (h : f 0 48 = 7) (hn : f 0 50 = N) : acP 0 48 21 50 7 8 N (x + N) [1] f (sX12_setsAs_0_f7_f7 x f L) := by
  unfold sX12_setsAs_0_f7_f7 sX12_begins_1_f7 sX12_begins_1_f7_b19; (repeat first | rw [spl_d] | rw [spl2_d])
  exact acP.leaf (by decide) (by decide) (by decide) h (by decide) hn (by show x + acB 0 48 21 7 1 f 0 50 = (x + N); rw [acB.n (by decide) (by decide) hn])
theorem ac_sX12_setsAs_7_f6_f7 (x N : Int32) (f : sg_F) (L : sg_L) (h : f 0 48 = 6) (hn : f 0 50 = N) : acP 0 48 21 50 6 8 N ((x + N) + 3) [20, 1] f (sX12_setsAs_7_f6_f7 x f L) := by
  unfold sX12_setsAs_7_f6_f7 sX12_setsAs_7_f6_f7_b16 sX12_begins_20_f6 sX12_begins_20_f6_b19; (repeat first | rw [spl_d] | rw [spl2_d])
  exact acP.cons (by decide) (acP.map (ac_sX12_setsAs_0_f7_f7 x N (acB 0 48 21 6 20 f) L (acB.r (by decide) h (by decide)) (acB.n (by decide) (by decide) hn)) (fun z => by rw [z]))
theorem ac_sX12_slipsAs_7_f4_f7 (x N : Int32) (f : sg_F) (L : sg_L) (h : f 0 48 = 4) (hn : f 0 50 = N) : acP 0 48 21 50 4 8 N ((x ^^^ N) - ((2 + N) + 3)) [50, 11, 20, 1] f (sX12_slipsAs_7_f4_f7 x f L) := by
  unfold sX12_slipsAs_7_f4_f7 sX12_slipsAs_7_f4_f7_b36 sX12_begins_50_f4 sX12_begins_50_f4_b19; (repeat first | rw [spl_d] | rw [spl2_d])
  exact acP.cons (by decide) (acP.two (ac_sX12_slipsAs_1_f5_f7 x N (acB 0 48 21 4 50 f) L (acB.r (by decide) h (by decide)) (acB.n (by decide) (by decide) hn)) (ac_sX12_setsAs_7_f6_f7 2 N (sX12_slipsAs_1_f5_f7 x (acB 0 48 21 4 50 f) L).2 L (ac_sX12_slipsAs_1_f5_f7 x N (acB 0 48 21 4 50 f) L (acB.r (by decide) h (by decide)) (acB.n (by decide) (by decide) hn)).2.1 (ac_sX12_slipsAs_1_f5_f7 x N (acB 0 48 21 4 50 f) L (acB.r (by decide) h (by decide)) (acB.n (by decide) (by decide) hn)).2.2.1) rfl rfl (fun z1 z2 => by rw [z1, z2]))
theorem ac_sX12_sitsAs_7_f0_f7 (x N : Int32) (f : sg_F) (L : sg_L) (h : f 0 48 = 0) (hn : f 0 50 = N) : acP 0 48 21 50 0 8 N ((((x + N) + 3) * 2) + ((2 ^^^ N) - ((2 + N) + 3))) [80, 10, 20, 1, 50, 11, 20, 1] f (sX12_sitsAs_7_f0_f7 x f L) := by
  unfold sX12_sitsAs_7_f0_f7 sX12_begins_80_f0 sX12_begins_80_f0_b19; (repeat first | rw [spl_d] | rw [spl2_d])
  exact acP.cons (by decide) (acP.two (ac_sX12_sitsAs_4_f1_f7 x N (acB 0 48 21 0 80 f) L (acB.r (by decide) h (by decide)) (acB.n (by decide) (by decide) hn)) (ac_sX12_slipsAs_7_f4_f7 2 N (sX12_sitsAs_4_f1_f7 x (acB 0 48 21 0 80 f) L).2 L (ac_sX12_sitsAs_4_f1_f7 x N (acB 0 48 21 0 80 f) L (acB.r (by decide) h (by decide)) (acB.n (by decide) (by decide) hn)).2.1 (ac_sX12_sitsAs_4_f1_f7 x N (acB 0 48 21 0 80 f) L (acB.r (by decide) h (by decide)) (acB.n (by decide) (by decide) hn)).2.2.1) rfl rfl (fun z1 z2 => by rw [z1, z2]))
theorem ac_sX12_slipsAs_1_f1_f7 (x N : Int32) (f : sg_F) (L : sg_L) (h : f 0 48 = 1) (hn : f 0 50 = N) : acP 0 48 21 50 1 2 N (x ^^^ N) [11] f (sX12_slipsAs_1_f1_f7 x f L) := by
  unfold sX12_slipsAs_1_f1_f7 sX12_begins_11_f1 sX12_begins_11_f1_b19; (repeat first | rw [spl_d] | rw [spl2_d])
  exact acP.leaf (by decide) (by decide) (by decide) h (by decide) hn (by show x ^^^ acB 0 48 21 1 11 f 0 50 = (x ^^^ N); rw [acB.n (by decide) (by decide) hn])
theorem ac_sX12_slipsAs_7_f0_f7 (x N : Int32) (f : sg_F) (L : sg_L) (h : f 0 48 = 0) (hn : f 0 50 = N) : acP 0 48 21 50 0 4 N ((x ^^^ N) - ((2 + N) + 3)) [50, 11, 20, 1] f (sX12_slipsAs_7_f0_f7 x f L) := by
  unfold sX12_slipsAs_7_f0_f7 sX12_slipsAs_7_f0_f7_b36 sX12_begins_50_f0 sX12_begins_50_f0_b19; (repeat first | rw [spl_d] | rw [spl2_d])
  exact acP.cons (by decide) (acP.two (ac_sX12_slipsAs_1_f1_f7 x N (acB 0 48 21 0 50 f) L (acB.r (by decide) h (by decide)) (acB.n (by decide) (by decide) hn)) (ac_sX12_setsAs_7_f2_f7 2 N (sX12_slipsAs_1_f1_f7 x (acB 0 48 21 0 50 f) L).2 L (ac_sX12_slipsAs_1_f1_f7 x N (acB 0 48 21 0 50 f) L (acB.r (by decide) h (by decide)) (acB.n (by decide) (by decide) hn)).2.1 (ac_sX12_slipsAs_1_f1_f7 x N (acB 0 48 21 0 50 f) L (acB.r (by decide) h (by decide)) (acB.n (by decide) (by decide) hn)).2.2.1) rfl rfl (fun z1 z2 => by rw [z1, z2]))
theorem ac_sX12_setsAs_0_f5_f7 (x N : Int32) (f : sg_F) (L : sg_L) (h : f 0 48 = 5) (hn : f 0 50 = N) : acP 0 48 21 50 5 6 N (x + N) [1] f (sX12_setsAs_0_f5_f7 x f L) := by
  unfold sX12_setsAs_0_f5_f7 sX12_begins_1_f5 sX12_begins_1_f5_b19; (repeat first | rw [spl_d] | rw [spl2_d])
  exact acP.leaf (by decide) (by decide) (by decide) h (by decide) hn (by show x + acB 0 48 21 5 1 f 0 50 = (x + N); rw [acB.n (by decide) (by decide) hn])
theorem ac_sX12_setsAs_7_f4_f7 (x N : Int32) (f : sg_F) (L : sg_L) (h : f 0 48 = 4) (hn : f 0 50 = N) : acP 0 48 21 50 4 6 N ((x + N) + 3) [20, 1] f (sX12_setsAs_7_f4_f7 x f L) := by
  unfold sX12_setsAs_7_f4_f7 sX12_setsAs_7_f4_f7_b16 sX12_begins_20_f4 sX12_begins_20_f4_b19; (repeat first | rw [spl_d] | rw [spl2_d])
  exact acP.cons (by decide) (acP.map (ac_sX12_setsAs_0_f5_f7 x N (acB 0 48 21 4 20 f) L (acB.r (by decide) h (by decide)) (acB.n (by decide) (by decide) hn)) (fun z => by rw [z]))
theorem ac_sX12_sitsAs_4_f3_f7 (x N : Int32) (f : sg_F) (L : sg_L) (h : f 0 48 = 3) (hn : f 0 50 = N) : acP 0 48 21 50 3 6 N (((x + N) + 3) * 2) [10, 20, 1] f (sX12_sitsAs_4_f3_f7 x f L) := by
  unfold sX12_sitsAs_4_f3_f7 sX12_begins_10_f3 sX12_begins_10_f3_b19; (repeat first | rw [spl_d] | rw [spl2_d])
  exact acP.cons (by decide) (acP.map (ac_sX12_setsAs_7_f4_f7 x N (acB 0 48 21 3 10 f) L (acB.r (by decide) h (by decide)) (acB.n (by decide) (by decide) hn)) (fun z => by rw [z]))
theorem ac_sX12_slipsAs_1_f7_f7 (x N : Int32) (f : sg_F) (L : sg_L) (h : f 0 48 = 7) (hn : f 0 50 = N) : acP 0 48 21 50 7 8 N (x ^^^ N) [11] f (sX12_slipsAs_1_f7_f7 x f L) := by
  unfold sX12_slipsAs_1_f7_f7 sX12_begins_11_f7 sX12_begins_11_f7_b19; (repeat first | rw [spl_d] | rw [spl2_d])
  exact acP.leaf (by decide) (by decide) (by decide) h (by decide) hn (by show x ^^^ acB 0 48 21 7 11 f 0 50 = (x ^^^ N); rw [acB.n (by decide) (by decide) hn])
theorem ac_sX12_setsAs_0_f9_f7 (x N : Int32) (f : sg_F) (L : sg_L) (h : f 0 48 = 9) (hn : f 0 50 = N) : acP 0 48 21 50 9 10 N (x + N) [1] f (sX12_setsAs_0_f9_f7 x f L) := by
  unfold sX12_setsAs_0_f9_f7 sX12_begins_1_f9 sX12_begins_1_f9_b19; (repeat first | rw [spl_d] | rw [spl2_d])
  exact acP.leaf (by decide) (by decide) (by decide) h (by decide) hn (by show x + acB 0 48 21 9 1 f 0 50 = (x + N); rw [acB.n (by decide) (by decide) hn])
theorem ac_sX12_setsAs_7_f8_f7 (x N : Int32) (f : sg_F) (L : sg_L) (h : f 0 48 = 8) (hn : f 0 50 = N) : acP 0 48 21 50 8 10 N ((x + N) + 3) [20, 1] f (sX12_setsAs_7_f8_f7 x f L) := by
  unfold sX12_setsAs_7_f8_f7 sX12_setsAs_7_f8_f7_b16 sX12_begins_20_f8 sX12_begins_20_f8_b19; (repeat first | rw [spl_d] | rw [spl2_d])
  exact acP.cons (by decide) (acP.map (ac_sX12_setsAs_0_f9_f7 x N (acB 0 48 21 8 20 f) L (acB.r (by decide) h (by decide)) (acB.n (by decide) (by decide) hn)) (fun z => by rw [z]))
theorem ac_sX12_slipsAs_7_f6_f7 (x N : Int32) (f : sg_F) (L : sg_L) (h : f 0 48 = 6) (hn : f 0 50 = N) : acP 0 48 21 50 6 10 N ((x ^^^ N) - ((2 + N) + 3)) [50, 11, 20, 1] f (sX12_slipsAs_7_f6_f7 x f L) := by
  unfold sX12_slipsAs_7_f6_f7 sX12_slipsAs_7_f6_f7_b36 sX12_begins_50_f6 sX12_begins_50_f6_b19; (repeat first | rw [spl_d] | rw [spl2_d])
  exact acP.cons (by decide) (acP.two (ac_sX12_slipsAs_1_f7_f7 x N (acB 0 48 21 6 50 f) L (acB.r (by decide) h (by decide)) (acB.n (by decide) (by decide) hn)) (ac_sX12_setsAs_7_f8_f7 2 N (sX12_slipsAs_1_f7_f7 x (acB 0 48 21 6 50 f) L).2 L (ac_sX12_slipsAs_1_f7_f7 x N (acB 0 48 21 6 50 f) L (acB.r (by decide) h (by decide)) (acB.n (by decide) (by decide) hn)).2.1 (ac_sX12_slipsAs_1_f7_f7 x N (acB 0 48 21 6 50 f) L (acB.r (by decide) h (by decide)) (acB.n (by decide) (by decide) hn)).2.2.1) rfl rfl (fun z1 z2 => by rw [z1, z2]))
theorem ac_sX12_sitsAs_7_f2_f7 (x N : Int32) (f : sg_F) (L : sg_L) (h : f 0 48 = 2) (hn : f 0 50 = N) : acP 0 48 21 50 2 10 N ((((x + N) + 3) * 2) + ((2 ^^^ N) - ((2 + N) + 3))) [80, 10, 20, 1, 50, 11, 20, 1] f (sX12_sitsAs_7_f2_f7 x f L) := by
  unfold sX12_sitsAs_7_f2_f7 sX12_begins_80_f2 sX12_begins_80_f2_b19; (repeat first | rw [spl_d] | rw [spl2_d])
  exact acP.cons (by decide) (acP.two (ac_sX12_sitsAs_4_f3_f7 x N (acB 0 48 21 2 80 f) L (acB.r (by decide) h (by decide)) (acB.n (by decide) (by decide) hn)) (ac_sX12_slipsAs_7_f6_f7 2 N (sX12_sitsAs_4_f3_f7 x (acB 0 48 21 2 80 f) L).2 L (ac_sX12_sitsAs_4_f3_f7 x N (acB 0 48 21 2 80 f) L (acB.r (by decide) h (by decide)) (acB.n (by decide) (by decide) hn)).2.1 (ac_sX12_sitsAs_4_f3_f7 x N (acB 0 48 21 2 80 f) L (acB.r (by decide) h (by decide)) (acB.n (by decide) (by decide) hn)).2.2.1) rfl rfl (fun z1 z2 => by rw [z1, z2]))
theorem ac_sX12_slipsAs_1_f11_f7 (x N : Int32) (f : sg_F) (L : sg_L) (h : f 0 48 = 11) (hn : f 0 50 = N) : acP 0 48 21 50 11 12 N (x ^^^ N) [11] f (sX12_slipsAs_1_f11_f7 x f L) := by
  unfold sX12_slipsAs_1_f11_f7 sX12_begins_11_f11 sX12_begins_11_f11_b19; (repeat first | rw [spl_d] | rw [spl2_d])
  exact acP.leaf (by decide) (by decide) (by decide) h (by decide) hn (by show x ^^^ acB 0 48 21 11 11 f 0 50 = (x ^^^ N); rw [acB.n (by decide) (by decide) hn])
theorem ac_sX12_setsAs_0_f13_f7 (x N : Int32) (f : sg_F) (L : sg_L) (h : f 0 48 = 13) (hn : f 0 50 = N) : acP 0 48 21 50 13 14 N (x + N) [1] f (sX12_setsAs_0_f13_f7 x f L) := by
  unfold sX12_setsAs_0_f13_f7 sX12_begins_1_f13 sX12_begins_1_f13_b19; (repeat first | rw [spl_d] | rw [spl2_d])
  exact acP.leaf (by decide) (by decide) (by decide) h (by decide) hn (by show x + acB 0 48 21 13 1 f 0 50 = (x + N); rw [acB.n (by decide) (by decide) hn])
theorem ac_sX12_setsAs_7_f12_f7 (x N : Int32) (f : sg_F) (L : sg_L) (h : f 0 48 = 12) (hn : f 0 50 = N) : acP 0 48 21 50 12 14 N ((x + N) + 3) [20, 1] f (sX12_setsAs_7_f12_f7 x f L) := by
  unfold sX12_setsAs_7_f12_f7 sX12_setsAs_7_f12_f7_b16 sX12_begins_20_f12 sX12_begins_20_f12_b19; (repeat first | rw [spl_d] | rw [spl2_d])
  exact acP.cons (by decide) (acP.map (ac_sX12_setsAs_0_f13_f7 x N (acB 0 48 21 12 20 f) L (acB.r (by decide) h (by decide)) (acB.n (by decide) (by decide) hn)) (fun z => by rw [z]))
theorem ac_sX12_slipsAs_7_f10_f7 (x N : Int32) (f : sg_F) (L : sg_L) (h : f 0 48 = 10) (hn : f 0 50 = N) : acP 0 48 21 50 10 14 N ((x ^^^ N) - ((2 + N) + 3)) [50, 11, 20, 1] f (sX12_slipsAs_7_f10_f7 x f L) := by
  unfold sX12_slipsAs_7_f10_f7 sX12_slipsAs_7_f10_f7_b36 sX12_begins_50_f10 sX12_begins_50_f10_b19; (repeat first | rw [spl_d] | rw [spl2_d])
  exact acP.cons (by decide) (acP.two (ac_sX12_slipsAs_1_f11_f7 x N (acB 0 48 21 10 50 f) L (acB.r (by decide) h (by decide)) (acB.n (by decide) (by decide) hn)) (ac_sX12_setsAs_7_f12_f7 2 N (sX12_slipsAs_1_f11_f7 x (acB 0 48 21 10 50 f) L).2 L (ac_sX12_slipsAs_1_f11_f7 x N (acB 0 48 21 10 50 f) L (acB.r (by decide) h (by decide)) (acB.n (by decide) (by decide) hn)).2.1 (ac_sX12_slipsAs_1_f11_f7 x N (acB 0 48 21 10 50 f) L (acB.r (by decide) h (by decide)) (acB.n (by decide) (by decide) hn)).2.2.1) rfl rfl (fun z1 z2 => by rw [z1, z2]))
theorem ac_sX12_tellsAs_4_f1_f7 (x N : Int32) (f : sg_F) (L : sg_L) (h : f 0 48 = 1) (hn : f 0 50 = N) : acP 0 48 21 50 1 14 N (((((x + N) + 3) * 2) + ((2 ^^^ N) - ((2 + N) + 3))) - ((1 ^^^ N) - ((2 + N) + 3))) [2, 80, 10, 20, 1, 50, 11, 20, 1, 50, 11, 20, 1] f (sX12_tellsAs_4_f1_f7 x f L) := by
  unfold sX12_tellsAs_4_f1_f7 sX12_begins_2_f1 sX12_begins_2_f1_b19; (repeat first | rw [spl_d] | rw [spl2_d])
  exact acP.cons (by decide) (acP.two (ac_sX12_sitsAs_7_f2_f7 x N (acB 0 48 21 1 2 f) L (acB.r (by decide) h (by decide)) (acB.n (by decide) (by decide) hn)) (ac_sX12_slipsAs_7_f10_f7 1 N (sX12_sitsAs_7_f2_f7 x (acB 0 48 21 1 2 f) L).2 L (ac_sX12_sitsAs_7_f2_f7 x N (acB 0 48 21 1 2 f) L (acB.r (by decide) h (by decide)) (acB.n (by decide) (by decide) hn)).2.1 (ac_sX12_sitsAs_7_f2_f7 x N (acB 0 48 21 1 2 f) L (acB.r (by decide) h (by decide)) (acB.n (by decide) (by decide) hn)).2.2.1) rfl rfl (fun z1 z2 => by rw [z1, z2]))
theorem ac_sX12_tellsAs_7_f0_f7 (x N : Int32) (f : sg_F) (L : sg_L) (h : f 0 48 = 0) (hn : f 0 50 = N) : acP 0 48 21 50 0 14 N ((((((x + N) + 3) * 2) + ((2 ^^^ N) - ((2 + N) + 3))) - ((1 ^^^ N) - ((2 + N) + 3))) - 1) [81, 2, 80, 10, 20, 1, 50, 11, 20, 1, 50, 11, 20, 1] f (sX12_tellsAs_7_f0_f7 x f L) := by
  unfold sX12_tellsAs_7_f0_f7 sX12_begins_81_f0 sX12_begins_81_f0_b19; (repeat first | rw [spl_d] | rw [spl2_d])
  exact acP.cons (by decide) (acP.map (ac_sX12_tellsAs_4_f1_f7 x N (acB 0 48 21 0 81 f) L (acB.r (by decide) h (by decide)) (acB.n (by decide) (by decide) hn)) (fun z => by rw [z]))
set_option maxHeartbeats 4000000 in
set_option maxRecDepth 100000 in
theorem acX_act (x0 x1 x2 : Int32) (f : sg_F) (L : sg_L) (hk : 0 ≤ (f 37 x0.toNatClampNeg).toInt ∧ (f 37 x0.toNatClampNeg).toInt ≤ 7) : (0 ≤ x0.toInt ∧ x0.toInt < (f 36 2).toInt ∧ 0 ≤ x1.toInt ∧ x1.toInt ≤ 3 ∧ acO 36 3 38 (f 37 x0.toNatClampNeg).toNatClampNeg x1.toNatClampNeg x2 x0 (sX11_act x0 x1 x2 f L)) ∨ (¬ (0 ≤ x0.toInt ∧ x0.toInt < (f 36 2).toInt ∧ 0 ≤ x1.toInt ∧ x1.toInt ≤ 3) ∧ (sX11_act x0 x1 x2 f L).1 = 0 ∧ ((sX11_act x0 x1 x2 f L).2 36 3).toInt = 0) := by
  have e1 : (sg_up f 36 (sgu (f 36) 3 0)) 36 2 = f 36 2 := by rw [sg_up_s, sgu_n (by decide)]
  have e2 : (sg_up f 36 (sgu (f 36) 3 0)) 37 = f 37 := sg_up_n (by decide)
  have ea : sX11_act x0 x1 x2 f L = sX3_acts x0 x1 x2 f L := rfl
  rw [ea]
  unfold sX3_acts; (repeat first | rw [spl_d] | rw [spl2_d])
  rw [e1, e2]
  by_cases c1 : x0.toInt < 0
  · rw [if_pos c1]; exact Or.inr ⟨by omega, rfl, by show (0 : Int32).toInt = 0; decide⟩
  by_cases c2 : x0.toInt < (f 36 2).toInt
  case neg => rw [if_neg c1, if_neg c2]; exact Or.inr ⟨by omega, rfl, by show (0 : Int32).toInt = 0; decide⟩
  by_cases c3 : x1.toInt < 0
  · rw [if_neg c1, if_pos c2, if_pos c3]; exact Or.inr ⟨by omega, rfl, by show (0 : Int32).toInt = 0; decide⟩
  by_cases c4 : x1.toInt < 4
  case neg => rw [if_neg c1, if_pos c2, if_neg c3, if_neg c4]; exact Or.inr ⟨by omega, rfl, by show (0 : Int32).toInt = 0; decide⟩
  rw [if_neg c1, if_pos c2, if_neg c3, if_pos c4]
  refine Or.inl ⟨by omega, c2, by omega, by omega, ?_⟩
  rcases (show x1.toInt = 0 ∨ x1.toInt = 1 ∨ x1.toInt = 2 ∨ x1.toInt = 3 from by omega) with w | w | w | w <;> rcases (show (f 37 x0.toNatClampNeg).toInt = 0 ∨ (f 37 x0.toNatClampNeg).toInt = 1 ∨ (f 37 x0.toNatClampNeg).toInt = 2 ∨ (f 37 x0.toNatClampNeg).toInt = 3 ∨ (f 37 x0.toNatClampNeg).toInt = 4 ∨ (f 37 x0.toNatClampNeg).toInt = 5 ∨ (f 37 x0.toNatClampNeg).toInt = 6 ∨ (f 37 x0.toNatClampNeg).toInt = 7 from by omega) with k | k | k | k | k | k | k | k
  · rw [show (f 37 x0.toNatClampNeg).toNatClampNeg = 0 from by show (f 37 x0.toNatClampNeg).toInt.toNat = 0; omega, show x1.toNatClampNeg = 0 from by show x1.toInt.toNat = 0; omega, if_pos w, if_pos k, pr_eta]; exact (ac_sX3_does_0_0_0_f0_f0 x2 x0 _ L (by rw [sg_up_s, sgu_n (by decide), sg_up_s, sgu_n (by decide), sg_up_s, sgu_s]) (by rw [sg_up_s, sgu_s])).O rfl (by decide) rfl
  · rw [show (f 37 x0.toNatClampNeg).toNatClampNeg = 1 from by show (f 37 x0.toNatClampNeg).toInt.toNat = 1; omega, show x1.toNatClampNeg = 0 from by show x1.toInt.toNat = 0; omega, if_pos w, if_neg (show ¬ (f 37 x0.toNatClampNeg).toInt = 0 from by omega), if_pos k, pr_eta]; exact (ac_sX3_does_1_0_0_f0_f1 x2 x0 _ L (by rw [sg_up_s, sgu_n (by decide), sg_up_s, sgu_n (by decide), sg_up_s, sgu_s]) (by rw [sg_up_s, sgu_s])).O rfl (by decide) rfl
  · rw [show (f 37 x0.toNatClampNeg).toNatClampNeg = 2 from by show (f 37 x0.toNatClampNeg).toInt.toNat = 2; omega, show x1.toNatClampNeg = 0 from by show x1.toInt.toNat = 0; omega, if_pos w, if_neg (show ¬ (f 37 x0.toNatClampNeg).toInt = 0 from by omega), if_neg (show ¬ (f 37 x0.toNatClampNeg).toInt = 1 from by omega), if_pos k, pr_eta]; exact (ac_sX3_does_2_0_0_f0_f2 x2 x0 _ L (by rw [sg_up_s, sgu_n (by decide), sg_up_s, sgu_n (by decide), sg_up_s, sgu_s]) (by rw [sg_up_s, sgu_s])).O rfl (by decide) rfl
  · rw [show (f 37 x0.toNatClampNeg).toNatClampNeg = 3 from by show (f 37 x0.toNatClampNeg).toInt.toNat = 3; omega, show x1.toNatClampNeg = 0 from by show x1.toInt.toNat = 0; omega, if_pos w, if_neg (show ¬ (f 37 x0.toNatClampNeg).toInt = 0 from by omega), if_neg (show ¬ (f 37 x0.toNatClampNeg).toInt = 1 from by omega), if_neg (show ¬ (f 37 x0.toNatClampNeg).toInt = 2 from by omega), if_pos k, pr_eta]; exact (ac_sX3_does_3_0_0_f0_f3 x2 x0 _ L (by rw [sg_up_s, sgu_n (by decide), sg_up_s, sgu_n (by decide), sg_up_s, sgu_s]) (by rw [sg_up_s, sgu_s])).O rfl (by decide) rfl
  · rw [show (f 37 x0.toNatClampNeg).toNatClampNeg = 4 from by show (f 37 x0.toNatClampNeg).toInt.toNat = 4; omega, show x1.toNatClampNeg = 0 from by show x1.toInt.toNat = 0; omega, if_pos w, if_neg (show ¬ (f 37 x0.toNatClampNeg).toInt = 0 from by omega), if_neg (show ¬ (f 37 x0.toNatClampNeg).toInt = 1 from by omega), if_neg (show ¬ (f 37 x0.toNatClampNeg).toInt = 2 from by omega), if_neg (show ¬ (f 37 x0.toNatClampNeg).toInt = 3 from by omega), if_pos k, pr_eta]; exact (ac_sX3_does_4_0_0_f0_f4 x2 x0 _ L (by rw [sg_up_s, sgu_n (by decide), sg_up_s, sgu_n (by decide), sg_up_s, sgu_s]) (by rw [sg_up_s, sgu_s])).O rfl (by decide) rfl
  · rw [show (f 37 x0.toNatClampNeg).toNatClampNeg = 5 from by show (f 37 x0.toNatClampNeg).toInt.toNat = 5; omega, show x1.toNatClampNeg = 0 from by show x1.toInt.toNat = 0; omega, if_pos w, if_neg (show ¬ (f 37 x0.toNatClampNeg).toInt = 0 from by omega), if_neg (show ¬ (f 37 x0.toNatClampNeg).toInt = 1 from by omega), if_neg (show ¬ (f 37 x0.toNatClampNeg).toInt = 2 from by omega), if_neg (show ¬ (f 37 x0.toNatClampNeg).toInt = 3 from by omega), if_neg (show ¬ (f 37 x0.toNatClampNeg).toInt = 4 from by omega), if_pos k, pr_eta]; exact (ac_sX3_does_5_0_0_f0_f5 x2 x0 _ L (by rw [sg_up_s, sgu_n (by decide), sg_up_s, sgu_n (by decide), sg_up_s, sgu_s]) (by rw [sg_up_s, sgu_s])).O rfl (by decide) rfl
  · rw [show (f 37 x0.toNatClampNeg).toNatClampNeg = 6 from by show (f 37 x0.toNatClampNeg).toInt.toNat = 6; omega, show x1.toNatClampNeg = 0 from by show x1.toInt.toNat = 0; omega, if_pos w, if_neg (show ¬ (f 37 x0.toNatClampNeg).toInt = 0 from by omega), if_neg (show ¬ (f 37 x0.toNatClampNeg).toInt = 1 from by omega), if_neg (show ¬ (f 37 x0.toNatClampNeg).toInt = 2 from by omega), if_neg (show ¬ (f 37 x0.toNatClampNeg).toInt = 3 from by omega), if_neg (show ¬ (f 37 x0.toNatClampNeg).toInt = 4 from by omega), if_neg (show ¬ (f 37 x0.toNatClampNeg).toInt = 5 from by omega), if_pos k, pr_eta]; exact (ac_sX3_does_6_0_0_f0_f6 x2 x0 _ L (by rw [sg_up_s, sgu_n (by decide), sg_up_s, sgu_n (by decide), sg_up_s, sgu_s]) (by rw [sg_up_s, sgu_s])).O rfl (by decide) rfl
  · rw [show (f 37 x0.toNatClampNeg).toNatClampNeg = 7 from by show (f 37 x0.toNatClampNeg).toInt.toNat = 7; omega, show x1.toNatClampNeg = 0 from by show x1.toInt.toNat = 0; omega, if_pos w, if_neg (show ¬ (f 37 x0.toNatClampNeg).toInt = 0 from by omega), if_neg (show ¬ (f 37 x0.toNatClampNeg).toInt = 1 from by omega), if_neg (show ¬ (f 37 x0.toNatClampNeg).toInt = 2 from by omega), if_neg (show ¬ (f 37 x0.toNatClampNeg).toInt = 3 from by omega), if_neg (show ¬ (f 37 x0.toNatClampNeg).toInt = 4 from by omega), if_neg (show ¬ (f 37 x0.toNatClampNeg).toInt = 5 from by omega), if_neg (show ¬ (f 37 x0.toNatClampNeg).toInt = 6 from by omega), pr_eta]; exact (ac_sX3_does_7_0_0_f0_f7 x2 x0 _ L (by rw [sg_up_s, sgu_n (by decide), sg_up_s, sgu_n (by decide), sg_up_s, sgu_s]) (by rw [sg_up_s, sgu_s])).O rfl (by decide) rfl
  · rw [show (f 37 x0.toNatClampNeg).toNatClampNeg = 0 from by show (f 37 x0.toNatClampNeg).toInt.toNat = 0; omega, show x1.toNatClampNeg = 1 from by show x1.toInt.toNat = 1; omega, if_neg (show ¬ x1.toInt = 0 from by omega), if_pos w, if_pos k, pr_eta]; exact (ac_sX3_does_0_1_0_f0_f0 x2 x0 _ L (by rw [sg_up_s, sgu_n (by decide), sg_up_s, sgu_n (by decide), sg_up_s, sgu_s]) (by rw [sg_up_s, sgu_s])).O rfl (by decide) rfl
  · rw [show (f 37 x0.toNatClampNeg).toNatClampNeg = 1 from by show (f 37 x0.toNatClampNeg).toInt.toNat = 1; omega, show x1.toNatClampNeg = 1 from by show x1.toInt.toNat = 1; omega, if_neg (show ¬ x1.toInt = 0 from by omega), if_pos w, if_neg (show ¬ (f 37 x0.toNatClampNeg).toInt = 0 from by omega), if_pos k, pr_eta]; exact (ac_sX3_does_1_1_0_f0_f1 x2 x0 _ L (by rw [sg_up_s, sgu_n (by decide), sg_up_s, sgu_n (by decide), sg_up_s, sgu_s]) (by rw [sg_up_s, sgu_s])).O rfl (by decide) rfl
  · rw [show (f 37 x0.toNatClampNeg).toNatClampNeg = 2 from by show (f 37 x0.toNatClampNeg).toInt.toNat = 2; omega, show x1.toNatClampNeg = 1 from by show x1.toInt.toNat = 1; omega, if_neg (show ¬ x1.toInt = 0 from by omega), if_pos w, if_neg (show ¬ (f 37 x0.toNatClampNeg).toInt = 0 from by omega), if_neg (show ¬ (f 37 x0.toNatClampNeg).toInt = 1 from by omega), if_pos k, pr_eta]; exact (ac_sX3_does_2_1_0_f0_f2 x2 x0 _ L (by rw [sg_up_s, sgu_n (by decide), sg_up_s, sgu_n (by decide), sg_up_s, sgu_s]) (by rw [sg_up_s, sgu_s])).O rfl (by decide) rfl
  · rw [show (f 37 x0.toNatClampNeg).toNatClampNeg = 3 from by show (f 37 x0.toNatClampNeg).toInt.toNat = 3; omega, show x1.toNatClampNeg = 1 from by show x1.toInt.toNat = 1; omega, if_neg (show ¬ x1.toInt = 0 from by omega), if_pos w, if_neg (show ¬ (f 37 x0.toNatClampNeg).toInt = 0 from by omega), if_neg (show ¬ (f 37 x0.toNatClampNeg).toInt = 1 from by omega), if_neg (show ¬ (f 37 x0.toNatClampNeg).toInt = 2 from by omega), if_pos k, pr_eta]; exact (ac_sX3_does_3_1_0_f0_f3 x2 x0 _ L (by rw [sg_up_s, sgu_n (by decide), sg_up_s, sgu_n (by decide), sg_up_s, sgu_s]) (by rw [sg_up_s, sgu_s])).O rfl (by decide) rfl
  · rw [show (f 37 x0.toNatClampNeg).toNatClampNeg = 4 from by show (f 37 x0.toNatClampNeg).toInt.toNat = 4; omega, show x1.toNatClampNeg = 1 from by show x1.toInt.toNat = 1; omega, if_neg (show ¬ x1.toInt = 0 from by omega), if_pos w, if_neg (show ¬ (f 37 x0.toNatClampNeg).toInt = 0 from by omega), if_neg (show ¬ (f 37 x0.toNatClampNeg).toInt = 1 from by omega), if_neg (show ¬ (f 37 x0.toNatClampNeg).toInt = 2 from by omega), if_neg (show ¬ (f 37 x0.toNatClampNeg).toInt = 3 from by omega), if_pos k, pr_eta]; exact (ac_sX3_does_4_1_0_f0_f4 x2 x0 _ L (by rw [sg_up_s, sgu_n (by decide), sg_up_s, sgu_n (by decide), sg_up_s, sgu_s]) (by rw [sg_up_s, sgu_s])).O rfl (by decide) rfl
  · rw [show (f 37 x0.toNatClampNeg).toNatClampNeg = 5 from by show (f 37 x0.toNatClampNeg).toInt.toNat = 5; omega, show x1.toNatClampNeg = 1 from by show x1.toInt.toNat = 1; omega, if_neg (show ¬ x1.toInt = 0 from by omega), if_pos w, if_neg (show ¬ (f 37 x0.toNatClampNeg).toInt = 0 from by omega), if_neg (show ¬ (f 37 x0.toNatClampNeg).toInt = 1 from by omega), if_neg (show ¬ (f 37 x0.toNatClampNeg).toInt = 2 from by omega), if_neg (show ¬ (f 37 x0.toNatClampNeg).toInt = 3 from by omega), if_neg (show ¬ (f 37 x0.toNatClampNeg).toInt = 4 from by omega), if_pos k, pr_eta]; exact (ac_sX3_does_5_1_0_f0_f5 x2 x0 _ L (by rw [sg_up_s, sgu_n (by decide), sg_up_s, sgu_n (by decide), sg_up_s, sgu_s]) (by rw [sg_up_s, sgu_s])).O rfl (by decide) rfl
  · rw [show (f 37 x0.toNatClampNeg).toNatClampNeg = 6 from by show (f 37 x0.toNatClampNeg).toInt.toNat = 6; omega, show x1.toNatClampNeg = 1 from by show x1.toInt.toNat = 1; omega, if_neg (show ¬ x1.toInt = 0 from by omega), if_pos w, if_neg (show ¬ (f 37 x0.toNatClampNeg).toInt = 0 from by omega), if_neg (show ¬ (f 37 x0.toNatClampNeg).toInt = 1 from by omega), if_neg (show ¬ (f 37 x0.toNatClampNeg).toInt = 2 from by omega), if_neg (show ¬ (f 37 x0.toNatClampNeg).toInt = 3 from by omega), if_neg (show ¬ (f 37 x0.toNatClampNeg).toInt = 4 from by omega), if_neg (show ¬ (f 37 x0.toNatClampNeg).toInt = 5 from by omega), if_pos k, pr_eta]; exact (ac_sX3_does_6_1_0_f0_f6 x2 x0 _ L (by rw [sg_up_s, sgu_n (by decide), sg_up_s, sgu_n (by decide), sg_up_s, sgu_s]) (by rw [sg_up_s, sgu_s])).O rfl (by decide) rfl
  · rw [show (f 37 x0.toNatClampNeg).toNatClampNeg = 7 from by show (f 37 x0.toNatClampNeg).toInt.toNat = 7; omega, show x1.toNatClampNeg = 1 from by show x1.toInt.toNat = 1; omega, if_neg (show ¬ x1.toInt = 0 from by omega), if_pos w, if_neg (show ¬ (f 37 x0.toNatClampNeg).toInt = 0 from by omega), if_neg (show ¬ (f 37 x0.toNatClampNeg).toInt = 1 from by omega), if_neg (show ¬ (f 37 x0.toNatClampNeg).toInt = 2 from by omega), if_neg (show ¬ (f 37 x0.toNatClampNeg).toInt = 3 from by omega), if_neg (show ¬ (f 37 x0.toNatClampNeg).toInt = 4 from by omega), if_neg (show ¬ (f 37 x0.toNatClampNeg).toInt = 5 from by omega), if_neg (show ¬ (f 37 x0.toNatClampNeg).toInt = 6 from by omega), pr_eta]; exact (ac_sX3_does_7_1_0_f0_f7 x2 x0 _ L (by rw [sg_up_s, sgu_n (by decide), sg_up_s, sgu_n (by decide), sg_up_s, sgu_s]) (by rw [sg_up_s, sgu_s])).O rfl (by decide) rfl
  · rw [show (f 37 x0.toNatClampNeg).toNatClampNeg = 0 from by show (f 37 x0.toNatClampNeg).toInt.toNat = 0; omega, show x1.toNatClampNeg = 2 from by show x1.toInt.toNat = 2; omega, if_neg (show ¬ x1.toInt = 0 from by omega), if_neg (show ¬ x1.toInt = 1 from by omega), if_pos w, if_pos k, pr_eta]; exact (ac_sX3_does_0_2_0_f0_f0 x2 x0 _ L (by rw [sg_up_s, sgu_n (by decide), sg_up_s, sgu_n (by decide), sg_up_s, sgu_s]) (by rw [sg_up_s, sgu_s])).O rfl (by decide) rfl
  · rw [show (f 37 x0.toNatClampNeg).toNatClampNeg = 1 from by show (f 37 x0.toNatClampNeg).toInt.toNat = 1; omega, show x1.toNatClampNeg = 2 from by show x1.toInt.toNat = 2; omega, if_neg (show ¬ x1.toInt = 0 from by omega), if_neg (show ¬ x1.toInt = 1 from by omega), if_pos w, if_neg (show ¬ (f 37 x0.toNatClampNeg).toInt = 0 from by omega), if_pos k, pr_eta]; exact (ac_sX3_does_1_2_0_f0_f1 x2 x0 _ L (by rw [sg_up_s, sgu_n (by decide), sg_up_s, sgu_n (by decide), sg_up_s, sgu_s]) (by rw [sg_up_s, sgu_s])).O rfl (by decide) rfl
  · rw [show (f 37 x0.toNatClampNeg).toNatClampNeg = 2 from by show (f 37 x0.toNatClampNeg).toInt.toNat = 2; omega, show x1.toNatClampNeg = 2 from by show x1.toInt.toNat = 2; omega, if_neg (show ¬ x1.toInt = 0 from by omega), if_neg (show ¬ x1.toInt = 1 from by omega), if_pos w, if_neg (show ¬ (f 37 x0.toNatClampNeg).toInt = 0 from by omega), if_neg (show ¬ (f 37 x0.toNatClampNeg).toInt = 1 from by omega), if_pos k, pr_eta]; exact (ac_sX3_does_2_2_0_f0_f2 x2 x0 _ L (by rw [sg_up_s, sgu_n (by decide), sg_up_s, sgu_n (by decide), sg_up_s, sgu_s]) (by rw [sg_up_s, sgu_s])).O rfl (by decide) rfl
  · rw [show (f 37 x0.toNatClampNeg).toNatClampNeg = 3 from by show (f 37 x0.toNatClampNeg).toInt.toNat = 3; omega, show x1.toNatClampNeg = 2 from by show x1.toInt.toNat = 2; omega, if_neg (show ¬ x1.toInt = 0 from by omega), if_neg (show ¬ x1.toInt = 1 from by omega), if_pos w, if_neg (show ¬ (f 37 x0.toNatClampNeg).toInt = 0 from by omega), if_neg (show ¬ (f 37 x0.toNatClampNeg).toInt = 1 from by omega), if_neg (show ¬ (f 37 x0.toNatClampNeg).toInt = 2 from by omega), if_pos k, pr_eta]; exact (ac_sX3_does_3_2_0_f0_f3 x2 x0 _ L (by rw [sg_up_s, sgu_n (by decide), sg_up_s, sgu_n (by decide), sg_up_s, sgu_s]) (by rw [sg_up_s, sgu_s])).O rfl (by decide) rfl
  · rw [show (f 37 x0.toNatClampNeg).toNatClampNeg = 4 from by show (f 37 x0.toNatClampNeg).toInt.toNat = 4; omega, show x1.toNatClampNeg = 2 from by show x1.toInt.toNat = 2; omega, if_neg (show ¬ x1.toInt = 0 from by omega), if_neg (show ¬ x1.toInt = 1 from by omega), if_pos w, if_neg (show ¬ (f 37 x0.toNatClampNeg).toInt = 0 from by omega), if_neg (show ¬ (f 37 x0.toNatClampNeg).toInt = 1 from by omega), if_neg (show ¬ (f 37 x0.toNatClampNeg).toInt = 2 from by omega), if_neg (show ¬ (f 37 x0.toNatClampNeg).toInt = 3 from by omega), if_pos k, pr_eta]; exact (ac_sX3_does_4_2_0_f0_f4 x2 x0 _ L (by rw [sg_up_s, sgu_n (by decide), sg_up_s, sgu_n (by decide), sg_up_s, sgu_s]) (by rw [sg_up_s, sgu_s])).O rfl (by decide) rfl
  · rw [show (f 37 x0.toNatClampNeg).toNatClampNeg = 5 from by show (f 37 x0.toNatClampNeg).toInt.toNat = 5; omega, show x1.toNatClampNeg = 2 from by show x1.toInt.toNat = 2; omega, if_neg (show ¬ x1.toInt = 0 from by omega), if_neg (show ¬ x1.toInt = 1 from by omega), if_pos w, if_neg (show ¬ (f 37 x0.toNatClampNeg).toInt = 0 from by omega), if_neg (show ¬ (f 37 x0.toNatClampNeg).toInt = 1 from by omega), if_neg (show ¬ (f 37 x0.toNatClampNeg).toInt = 2 from by omega), if_neg (show ¬ (f 37 x0.toNatClampNeg).toInt = 3 from by omega), if_neg (show ¬ (f 37 x0.toNatClampNeg).toInt = 4 from by omega), if_pos k, pr_eta]; exact (ac_sX3_does_5_2_0_f0_f5 x2 x0 _ L (by rw [sg_up_s, sgu_n (by decide), sg_up_s, sgu_n (by decide), sg_up_s, sgu_s]) (by rw [sg_up_s, sgu_s])).O rfl (by decide) rfl
  · rw [show (f 37 x0.toNatClampNeg).toNatClampNeg = 6 from by show (f 37 x0.toNatClampNeg).toInt.toNat = 6; omega, show x1.toNatClampNeg = 2 from by show x1.toInt.toNat = 2; omega, if_neg (show ¬ x1.toInt = 0 from by omega), if_neg (show ¬ x1.toInt = 1 from by omega), if_pos w, if_neg (show ¬ (f 37 x0.toNatClampNeg).toInt = 0 from by omega), if_neg (show ¬ (f 37 x0.toNatClampNeg).toInt = 1 from by omega), if_neg (show ¬ (f 37 x0.toNatClampNeg).toInt = 2 from by omega), if_neg (show ¬ (f 37 x0.toNatClampNeg).toInt = 3 from by omega), if_neg (show ¬ (f 37 x0.toNatClampNeg).toInt = 4 from by omega), if_neg (show ¬ (f 37 x0.toNatClampNeg).toInt = 5 from by omega), if_pos k, pr_eta]; exact (ac_sX3_does_6_2_0_f0_f6 x2 x0 _ L (by rw [sg_up_s, sgu_n (by decide), sg_up_s, sgu_n (by decide), sg_up_s, sgu_s]) (by rw [sg_up_s, sgu_s])).O rfl (by decide) rfl
  · rw [show (f 37 x0.toNatClampNeg).toNatClampNeg = 7 from by show (f 37 x0.toNatClampNeg).toInt.toNat = 7; omega, show x1.toNatClampNeg = 2 from by show x1.toInt.toNat = 2; omega, if_neg (show ¬ x1.toInt = 0 from by omega), if_neg (show ¬ x1.toInt = 1 from by omega), if_pos w, if_neg (show ¬ (f 37 x0.toNatClampNeg).toInt = 0 from by omega), if_neg (show ¬ (f 37 x0.toNatClampNeg).toInt = 1 from by omega), if_neg (show ¬ (f 37 x0.toNatClampNeg).toInt = 2 from by omega), if_neg (show ¬ (f 37 x0.toNatClampNeg).toInt = 3 from by omega), if_neg (show ¬ (f 37 x0.toNatClampNeg).toInt = 4 from by omega), if_neg (show ¬ (f 37 x0.toNatClampNeg).toInt = 5 from by omega), if_neg (show ¬ (f 37 x0.toNatClampNeg).toInt = 6 from by omega), pr_eta]; exact (ac_sX3_does_7_2_0_f0_f7 x2 x0 _ L (by rw [sg_up_s, sgu_n (by decide), sg_up_s, sgu_n (by decide), sg_up_s, sgu_s]) (by rw [sg_up_s, sgu_s])).O rfl (by decide) rfl
  · rw [show (f 37 x0.toNatClampNeg).toNatClampNeg = 0 from by show (f 37 x0.toNatClampNeg).toInt.toNat = 0; omega, show x1.toNatClampNeg = 3 from by show x1.toInt.toNat = 3; omega, if_neg (show ¬ x1.toInt = 0 from by omega), if_neg (show ¬ x1.toInt = 1 from by omega), if_neg (show ¬ x1.toInt = 2 from by omega), if_pos k, pr_eta]; exact (ac_sX3_does_0_3_0_f0_f0 x2 x0 _ L (by rw [sg_up_s, sgu_n (by decide), sg_up_s, sgu_n (by decide), sg_up_s, sgu_s]) (by rw [sg_up_s, sgu_s])).O rfl (by decide) rfl
  · rw [show (f 37 x0.toNatClampNeg).toNatClampNeg = 1 from by show (f 37 x0.toNatClampNeg).toInt.toNat = 1; omega, show x1.toNatClampNeg = 3 from by show x1.toInt.toNat = 3; omega, if_neg (show ¬ x1.toInt = 0 from by omega), if_neg (show ¬ x1.toInt = 1 from by omega), if_neg (show ¬ x1.toInt = 2 from by omega), if_neg (show ¬ (f 37 x0.toNatClampNeg).toInt = 0 from by omega), if_pos k, pr_eta]; exact (ac_sX3_does_1_3_0_f0_f1 x2 x0 _ L (by rw [sg_up_s, sgu_n (by decide), sg_up_s, sgu_n (by decide), sg_up_s, sgu_s]) (by rw [sg_up_s, sgu_s])).O rfl (by decide) rfl
  · rw [show (f 37 x0.toNatClampNeg).toNatClampNeg = 2 from by show (f 37 x0.toNatClampNeg).toInt.toNat = 2; omega, show x1.toNatClampNeg = 3 from by show x1.toInt.toNat = 3; omega, if_neg (show ¬ x1.toInt = 0 from by omega), if_neg (show ¬ x1.toInt = 1 from by omega), if_neg (show ¬ x1.toInt = 2 from by omega), if_neg (show ¬ (f 37 x0.toNatClampNeg).toInt = 0 from by omega), if_neg (show ¬ (f 37 x0.toNatClampNeg).toInt = 1 from by omega), if_pos k, pr_eta]; exact (ac_sX3_does_2_3_0_f0_f2 x2 x0 _ L (by rw [sg_up_s, sgu_n (by decide), sg_up_s, sgu_n (by decide), sg_up_s, sgu_s]) (by rw [sg_up_s, sgu_s])).O rfl (by decide) rfl
  · rw [show (f 37 x0.toNatClampNeg).toNatClampNeg = 3 from by show (f 37 x0.toNatClampNeg).toInt.toNat = 3; omega, show x1.toNatClampNeg = 3 from by show x1.toInt.toNat = 3; omega, if_neg (show ¬ x1.toInt = 0 from by omega), if_neg (show ¬ x1.toInt = 1 from by omega), if_neg (show ¬ x1.toInt = 2 from by omega), if_neg (show ¬ (f 37 x0.toNatClampNeg).toInt = 0 from by omega), if_neg (show ¬ (f 37 x0.toNatClampNeg).toInt = 1 from by omega), if_neg (show ¬ (f 37 x0.toNatClampNeg).toInt = 2 from by omega), if_pos k, pr_eta]; exact (ac_sX3_does_3_3_0_f0_f3 x2 x0 _ L (by rw [sg_up_s, sgu_n (by decide), sg_up_s, sgu_n (by decide), sg_up_s, sgu_s]) (by rw [sg_up_s, sgu_s])).O rfl (by decide) rfl
  · rw [show (f 37 x0.toNatClampNeg).toNatClampNeg = 4 from by show (f 37 x0.toNatClampNeg).toInt.toNat = 4; omega, show x1.toNatClampNeg = 3 from by show x1.toInt.toNat = 3; omega, if_neg (show ¬ x1.toInt = 0 from by omega), if_neg (show ¬ x1.toInt = 1 from by omega), if_neg (show ¬ x1.toInt = 2 from by omega), if_neg (show ¬ (f 37 x0.toNatClampNeg).toInt = 0 from by omega), if_neg (show ¬ (f 37 x0.toNatClampNeg).toInt = 1 from by omega), if_neg (show ¬ (f 37 x0.toNatClampNeg).toInt = 2 from by omega), if_neg (show ¬ (f 37 x0.toNatClampNeg).toInt = 3 from by omega), if_pos k, pr_eta]; exact (ac_sX3_does_4_3_0_f0_f4 x2 x0 _ L (by rw [sg_up_s, sgu_n (by decide), sg_up_s, sgu_n (by decide), sg_up_s, sgu_s]) (by rw [sg_up_s, sgu_s])).O rfl (by decide) rfl
  · rw [show (f 37 x0.toNatClampNeg).toNatClampNeg = 5 from by show (f 37 x0.toNatClampNeg).toInt.toNat = 5; omega, show x1.toNatClampNeg = 3 from by show x1.toInt.toNat = 3; omega, if_neg (show ¬ x1.toInt = 0 from by omega), if_neg (show ¬ x1.toInt = 1 from by omega), if_neg (show ¬ x1.toInt = 2 from by omega), if_neg (show ¬ (f 37 x0.toNatClampNeg).toInt = 0 from by omega), if_neg (show ¬ (f 37 x0.toNatClampNeg).toInt = 1 from by omega), if_neg (show ¬ (f 37 x0.toNatClampNeg).toInt = 2 from by omega), if_neg (show ¬ (f 37 x0.toNatClampNeg).toInt = 3 from by omega), if_neg (show ¬ (f 37 x0.toNatClampNeg).toInt = 4 from by omega), if_pos k, pr_eta]; exact (ac_sX3_does_5_3_0_f0_f5 x2 x0 _ L (by rw [sg_up_s, sgu_n (by decide), sg_up_s, sgu_n (by decide), sg_up_s, sgu_s]) (by rw [sg_up_s, sgu_s])).O rfl (by decide) rfl
  · rw [show (f 37 x0.toNatClampNeg).toNatClampNeg = 6 from by show (f 37 x0.toNatClampNeg).toInt.toNat = 6; omega, show x1.toNatClampNeg = 3 from by show x1.toInt.toNat = 3; omega, if_neg (show ¬ x1.toInt = 0 from by omega), if_neg (show ¬ x1.toInt = 1 from by omega), if_neg (show ¬ x1.toInt = 2 from by omega), if_neg (show ¬ (f 37 x0.toNatClampNeg).toInt = 0 from by omega), if_neg (show ¬ (f 37 x0.toNatClampNeg).toInt = 1 from by omega), if_neg (show ¬ (f 37 x0.toNatClampNeg).toInt = 2 from by omega), if_neg (show ¬ (f 37 x0.toNatClampNeg).toInt = 3 from by omega), if_neg (show ¬ (f 37 x0.toNatClampNeg).toInt = 4 from by omega), if_neg (show ¬ (f 37 x0.toNatClampNeg).toInt = 5 from by omega), if_pos k, pr_eta]; exact (ac_sX3_does_6_3_0_f0_f6 x2 x0 _ L (by rw [sg_up_s, sgu_n (by decide), sg_up_s, sgu_n (by decide), sg_up_s, sgu_s]) (by rw [sg_up_s, sgu_s])).O rfl (by decide) rfl
  · rw [show (f 37 x0.toNatClampNeg).toNatClampNeg = 7 from by show (f 37 x0.toNatClampNeg).toInt.toNat = 7; omega, show x1.toNatClampNeg = 3 from by show x1.toInt.toNat = 3; omega, if_neg (show ¬ x1.toInt = 0 from by omega), if_neg (show ¬ x1.toInt = 1 from by omega), if_neg (show ¬ x1.toInt = 2 from by omega), if_neg (show ¬ (f 37 x0.toNatClampNeg).toInt = 0 from by omega), if_neg (show ¬ (f 37 x0.toNatClampNeg).toInt = 1 from by omega), if_neg (show ¬ (f 37 x0.toNatClampNeg).toInt = 2 from by omega), if_neg (show ¬ (f 37 x0.toNatClampNeg).toInt = 3 from by omega), if_neg (show ¬ (f 37 x0.toNatClampNeg).toInt = 4 from by omega), if_neg (show ¬ (f 37 x0.toNatClampNeg).toInt = 5 from by omega), if_neg (show ¬ (f 37 x0.toNatClampNeg).toInt = 6 from by omega), pr_eta]; exact (ac_sX3_does_7_3_0_f0_f7 x2 x0 _ L (by rw [sg_up_s, sgu_n (by decide), sg_up_s, sgu_n (by decide), sg_up_s, sgu_s]) (by rw [sg_up_s, sgu_s])).O rfl (by decide) rfl
set_option maxHeartbeats 4000000 in
set_option maxRecDepth 100000 in
theorem acM_act (x0 x1 x2 : Int32) (f : sg_F) (L : sg_L) (hb : 0 ≤ (f 0 45).toInt ∧ (f 0 45).toInt ≤ 50) (hk : 0 ≤ (f 20 x0.toNatClampNeg).toInt ∧ (f 20 x0.toNatClampNeg).toInt ≤ 7) : (0 ≤ x0.toInt ∧ x0.toInt < (f 0 45).toInt ∧ 0 ≤ x1.toInt ∧ x1.toInt ≤ 3 ∧ acO 0 48 21 (f 20 x0.toNatClampNeg).toNatClampNeg x1.toNatClampNeg x2 x0 (sX12_act x0 x1 x2 f L)) ∨ (¬ (0 ≤ x0.toInt ∧ x0.toInt < (f 0 45).toInt ∧ 0 ≤ x1.toInt ∧ x1.toInt ≤ 3) ∧ (sX12_act x0 x1 x2 f L).1 = 0 ∧ ((sX12_act x0 x1 x2 f L).2 0 48).toInt = 0) := by
  have e1 : (sg_up f 0 (sgu (f 0) 48 0)) 0 45 = f 0 45 := by rw [sg_up_s, sgu_n (by decide)]
  have e2 : (sg_up f 0 (sgu (f 0) 48 0)) 20 = f 20 := sg_up_n (by decide)
  unfold sX12_act; (repeat first | rw [spl_d] | rw [spl2_d])
  rw [pM_isBody _ _ _ (by rw [e1]; exact hb), e1, e2]
  by_cases c1 : 0 ≤ x0.toInt ∧ x0.toInt < (f 0 45).toInt
  case neg => rw [if_neg c1, if_neg zk0]; exact Or.inr ⟨by omega, rfl, by show (0 : Int32).toInt = 0; decide⟩
  rw [if_pos c1, if_pos rfl]
  by_cases c4 : 0 ≤ x1.toInt ∧ x1.toInt ≤ 3
  case neg => rw [if_neg (show ¬ x1.toInt = 0 from by omega), if_neg (show ¬ x1.toInt = 1 from by omega), if_neg (show ¬ x1.toInt = 2 from by omega), if_neg (show ¬ x1.toInt = 3 from by omega)]; exact Or.inr ⟨by omega, rfl, by show (0 : Int32).toInt = 0; decide⟩
  refine Or.inl ⟨c1.1, c1.2, by omega, by omega, ?_⟩
  rcases (show x1.toInt = 0 ∨ x1.toInt = 1 ∨ x1.toInt = 2 ∨ x1.toInt = 3 from by omega) with w | w | w | w <;> rcases (show (f 20 x0.toNatClampNeg).toInt = 0 ∨ (f 20 x0.toNatClampNeg).toInt = 1 ∨ (f 20 x0.toNatClampNeg).toInt = 2 ∨ (f 20 x0.toNatClampNeg).toInt = 3 ∨ (f 20 x0.toNatClampNeg).toInt = 4 ∨ (f 20 x0.toNatClampNeg).toInt = 5 ∨ (f 20 x0.toNatClampNeg).toInt = 6 ∨ (f 20 x0.toNatClampNeg).toInt = 7 from by omega) with k | k | k | k | k | k | k | k
  · rw [show (f 20 x0.toNatClampNeg).toNatClampNeg = 0 from by show (f 20 x0.toNatClampNeg).toInt.toNat = 0; omega, show x1.toNatClampNeg = 0 from by show x1.toInt.toNat = 0; omega, if_pos w, if_pos k, pr_eta]; exact (ac_sX12_setsAs_0_f0_f0 x2 x0 _ L (by rw [sg_up_s, sgu_n (by decide), sg_up_s, sgu_n (by decide), sg_up_s, sgu_s]) (by rw [sg_up_s, sgu_s])).O rfl (by decide) rfl
  · rw [show (f 20 x0.toNatClampNeg).toNatClampNeg = 1 from by show (f 20 x0.toNatClampNeg).toInt.toNat = 1; omega, show x1.toNatClampNeg = 0 from by show x1.toInt.toNat = 0; omega, if_pos w, if_neg (show ¬ (f 20 x0.toNatClampNeg).toInt = 0 from by omega), if_pos k, pr_eta]; exact (ac_sX12_setsAs_1_f0_f1 x2 x0 _ L (by rw [sg_up_s, sgu_n (by decide), sg_up_s, sgu_n (by decide), sg_up_s, sgu_s]) (by rw [sg_up_s, sgu_s])).O rfl (by decide) rfl
  · rw [show (f 20 x0.toNatClampNeg).toNatClampNeg = 2 from by show (f 20 x0.toNatClampNeg).toInt.toNat = 2; omega, show x1.toNatClampNeg = 0 from by show x1.toInt.toNat = 0; omega, if_pos w, if_neg (show ¬ (f 20 x0.toNatClampNeg).toInt = 0 from by omega), if_neg (show ¬ (f 20 x0.toNatClampNeg).toInt = 1 from by omega), if_pos k, pr_eta]; exact (ac_sX12_setsAs_2_f0_f2 x2 x0 _ L (by rw [sg_up_s, sgu_n (by decide), sg_up_s, sgu_n (by decide), sg_up_s, sgu_s]) (by rw [sg_up_s, sgu_s])).O rfl (by decide) rfl
  · rw [show (f 20 x0.toNatClampNeg).toNatClampNeg = 3 from by show (f 20 x0.toNatClampNeg).toInt.toNat = 3; omega, show x1.toNatClampNeg = 0 from by show x1.toInt.toNat = 0; omega, if_pos w, if_neg (show ¬ (f 20 x0.toNatClampNeg).toInt = 0 from by omega), if_neg (show ¬ (f 20 x0.toNatClampNeg).toInt = 1 from by omega), if_neg (show ¬ (f 20 x0.toNatClampNeg).toInt = 2 from by omega), if_pos k, pr_eta]; exact (ac_sX12_setsAs_3_f0_f3 x2 x0 _ L (by rw [sg_up_s, sgu_n (by decide), sg_up_s, sgu_n (by decide), sg_up_s, sgu_s]) (by rw [sg_up_s, sgu_s])).O rfl (by decide) rfl
  · rw [show (f 20 x0.toNatClampNeg).toNatClampNeg = 4 from by show (f 20 x0.toNatClampNeg).toInt.toNat = 4; omega, show x1.toNatClampNeg = 0 from by show x1.toInt.toNat = 0; omega, if_pos w, if_neg (show ¬ (f 20 x0.toNatClampNeg).toInt = 0 from by omega), if_neg (show ¬ (f 20 x0.toNatClampNeg).toInt = 1 from by omega), if_neg (show ¬ (f 20 x0.toNatClampNeg).toInt = 2 from by omega), if_neg (show ¬ (f 20 x0.toNatClampNeg).toInt = 3 from by omega), if_pos k, pr_eta]; exact (ac_sX12_setsAs_4_f0_f4 x2 x0 _ L (by rw [sg_up_s, sgu_n (by decide), sg_up_s, sgu_n (by decide), sg_up_s, sgu_s]) (by rw [sg_up_s, sgu_s])).O rfl (by decide) rfl
  · rw [show (f 20 x0.toNatClampNeg).toNatClampNeg = 5 from by show (f 20 x0.toNatClampNeg).toInt.toNat = 5; omega, show x1.toNatClampNeg = 0 from by show x1.toInt.toNat = 0; omega, if_pos w, if_neg (show ¬ (f 20 x0.toNatClampNeg).toInt = 0 from by omega), if_neg (show ¬ (f 20 x0.toNatClampNeg).toInt = 1 from by omega), if_neg (show ¬ (f 20 x0.toNatClampNeg).toInt = 2 from by omega), if_neg (show ¬ (f 20 x0.toNatClampNeg).toInt = 3 from by omega), if_neg (show ¬ (f 20 x0.toNatClampNeg).toInt = 4 from by omega), if_pos k, pr_eta]; exact (ac_sX12_setsAs_5_f0_f5 x2 x0 _ L (by rw [sg_up_s, sgu_n (by decide), sg_up_s, sgu_n (by decide), sg_up_s, sgu_s]) (by rw [sg_up_s, sgu_s])).O rfl (by decide) rfl
  · rw [show (f 20 x0.toNatClampNeg).toNatClampNeg = 6 from by show (f 20 x0.toNatClampNeg).toInt.toNat = 6; omega, show x1.toNatClampNeg = 0 from by show x1.toInt.toNat = 0; omega, if_pos w, if_neg (show ¬ (f 20 x0.toNatClampNeg).toInt = 0 from by omega), if_neg (show ¬ (f 20 x0.toNatClampNeg).toInt = 1 from by omega), if_neg (show ¬ (f 20 x0.toNatClampNeg).toInt = 2 from by omega), if_neg (show ¬ (f 20 x0.toNatClampNeg).toInt = 3 from by omega), if_neg (show ¬ (f 20 x0.toNatClampNeg).toInt = 4 from by omega), if_neg (show ¬ (f 20 x0.toNatClampNeg).toInt = 5 from by omega), if_pos k, pr_eta]; exact (ac_sX12_setsAs_6_f0_f6 x2 x0 _ L (by rw [sg_up_s, sgu_n (by decide), sg_up_s, sgu_n (by decide), sg_up_s, sgu_s]) (by rw [sg_up_s, sgu_s])).O rfl (by decide) rfl
  · rw [show (f 20 x0.toNatClampNeg).toNatClampNeg = 7 from by show (f 20 x0.toNatClampNeg).toInt.toNat = 7; omega, show x1.toNatClampNeg = 0 from by show x1.toInt.toNat = 0; omega, if_pos w, if_neg (show ¬ (f 20 x0.toNatClampNeg).toInt = 0 from by omega), if_neg (show ¬ (f 20 x0.toNatClampNeg).toInt = 1 from by omega), if_neg (show ¬ (f 20 x0.toNatClampNeg).toInt = 2 from by omega), if_neg (show ¬ (f 20 x0.toNatClampNeg).toInt = 3 from by omega), if_neg (show ¬ (f 20 x0.toNatClampNeg).toInt = 4 from by omega), if_neg (show ¬ (f 20 x0.toNatClampNeg).toInt = 5 from by omega), if_neg (show ¬ (f 20 x0.toNatClampNeg).toInt = 6 from by omega), pr_eta]; exact (ac_sX12_setsAs_7_f0_f7 x2 x0 _ L (by rw [sg_up_s, sgu_n (by decide), sg_up_s, sgu_n (by decide), sg_up_s, sgu_s]) (by rw [sg_up_s, sgu_s])).O rfl (by decide) rfl
  · rw [show (f 20 x0.toNatClampNeg).toNatClampNeg = 0 from by show (f 20 x0.toNatClampNeg).toInt.toNat = 0; omega, show x1.toNatClampNeg = 1 from by show x1.toInt.toNat = 1; omega, if_neg (show ¬ x1.toInt = 0 from by omega), if_pos w, if_pos k, pr_eta]; exact (ac_sX12_sitsAs_0_f0_f0 x2 x0 _ L (by rw [sg_up_s, sgu_n (by decide), sg_up_s, sgu_n (by decide), sg_up_s, sgu_s]) (by rw [sg_up_s, sgu_s])).O rfl (by decide) rfl
  · rw [show (f 20 x0.toNatClampNeg).toNatClampNeg = 1 from by show (f 20 x0.toNatClampNeg).toInt.toNat = 1; omega, show x1.toNatClampNeg = 1 from by show x1.toInt.toNat = 1; omega, if_neg (show ¬ x1.toInt = 0 from by omega), if_pos w, if_neg (show ¬ (f 20 x0.toNatClampNeg).toInt = 0 from by omega), if_pos k, pr_eta]; exact (ac_sX12_sitsAs_1_f0_f1 x2 x0 _ L (by rw [sg_up_s, sgu_n (by decide), sg_up_s, sgu_n (by decide), sg_up_s, sgu_s]) (by rw [sg_up_s, sgu_s])).O rfl (by decide) rfl
  · rw [show (f 20 x0.toNatClampNeg).toNatClampNeg = 2 from by show (f 20 x0.toNatClampNeg).toInt.toNat = 2; omega, show x1.toNatClampNeg = 1 from by show x1.toInt.toNat = 1; omega, if_neg (show ¬ x1.toInt = 0 from by omega), if_pos w, if_neg (show ¬ (f 20 x0.toNatClampNeg).toInt = 0 from by omega), if_neg (show ¬ (f 20 x0.toNatClampNeg).toInt = 1 from by omega), if_pos k, pr_eta]; exact (ac_sX12_sitsAs_2_f0_f2 x2 x0 _ L (by rw [sg_up_s, sgu_n (by decide), sg_up_s, sgu_n (by decide), sg_up_s, sgu_s]) (by rw [sg_up_s, sgu_s])).O rfl (by decide) rfl
  · rw [show (f 20 x0.toNatClampNeg).toNatClampNeg = 3 from by show (f 20 x0.toNatClampNeg).toInt.toNat = 3; omega, show x1.toNatClampNeg = 1 from by show x1.toInt.toNat = 1; omega, if_neg (show ¬ x1.toInt = 0 from by omega), if_pos w, if_neg (show ¬ (f 20 x0.toNatClampNeg).toInt = 0 from by omega), if_neg (show ¬ (f 20 x0.toNatClampNeg).toInt = 1 from by omega), if_neg (show ¬ (f 20 x0.toNatClampNeg).toInt = 2 from by omega), if_pos k, pr_eta]; exact (ac_sX12_sitsAs_3_f0_f3 x2 x0 _ L (by rw [sg_up_s, sgu_n (by decide), sg_up_s, sgu_n (by decide), sg_up_s, sgu_s]) (by rw [sg_up_s, sgu_s])).O rfl (by decide) rfl
  · rw [show (f 20 x0.toNatClampNeg).toNatClampNeg = 4 from by show (f 20 x0.toNatClampNeg).toInt.toNat = 4; omega, show x1.toNatClampNeg = 1 from by show x1.toInt.toNat = 1; omega, if_neg (show ¬ x1.toInt = 0 from by omega), if_pos w, if_neg (show ¬ (f 20 x0.toNatClampNeg).toInt = 0 from by omega), if_neg (show ¬ (f 20 x0.toNatClampNeg).toInt = 1 from by omega), if_neg (show ¬ (f 20 x0.toNatClampNeg).toInt = 2 from by omega), if_neg (show ¬ (f 20 x0.toNatClampNeg).toInt = 3 from by omega), if_pos k, pr_eta]; exact (ac_sX12_sitsAs_4_f0_f4 x2 x0 _ L (by rw [sg_up_s, sgu_n (by decide), sg_up_s, sgu_n (by decide), sg_up_s, sgu_s]) (by rw [sg_up_s, sgu_s])).O rfl (by decide) rfl
  · rw [show (f 20 x0.toNatClampNeg).toNatClampNeg = 5 from by show (f 20 x0.toNatClampNeg).toInt.toNat = 5; omega, show x1.toNatClampNeg = 1 from by show x1.toInt.toNat = 1; omega, if_neg (show ¬ x1.toInt = 0 from by omega), if_pos w, if_neg (show ¬ (f 20 x0.toNatClampNeg).toInt = 0 from by omega), if_neg (show ¬ (f 20 x0.toNatClampNeg).toInt = 1 from by omega), if_neg (show ¬ (f 20 x0.toNatClampNeg).toInt = 2 from by omega), if_neg (show ¬ (f 20 x0.toNatClampNeg).toInt = 3 from by omega), if_neg (show ¬ (f 20 x0.toNatClampNeg).toInt = 4 from by omega), if_pos k, pr_eta]; exact (ac_sX12_sitsAs_5_f0_f5 x2 x0 _ L (by rw [sg_up_s, sgu_n (by decide), sg_up_s, sgu_n (by decide), sg_up_s, sgu_s]) (by rw [sg_up_s, sgu_s])).O rfl (by decide) rfl
  · rw [show (f 20 x0.toNatClampNeg).toNatClampNeg = 6 from by show (f 20 x0.toNatClampNeg).toInt.toNat = 6; omega, show x1.toNatClampNeg = 1 from by show x1.toInt.toNat = 1; omega, if_neg (show ¬ x1.toInt = 0 from by omega), if_pos w, if_neg (show ¬ (f 20 x0.toNatClampNeg).toInt = 0 from by omega), if_neg (show ¬ (f 20 x0.toNatClampNeg).toInt = 1 from by omega), if_neg (show ¬ (f 20 x0.toNatClampNeg).toInt = 2 from by omega), if_neg (show ¬ (f 20 x0.toNatClampNeg).toInt = 3 from by omega), if_neg (show ¬ (f 20 x0.toNatClampNeg).toInt = 4 from by omega), if_neg (show ¬ (f 20 x0.toNatClampNeg).toInt = 5 from by omega), if_pos k, pr_eta]; exact (ac_sX12_sitsAs_6_f0_f6 x2 x0 _ L (by rw [sg_up_s, sgu_n (by decide), sg_up_s, sgu_n (by decide), sg_up_s, sgu_s]) (by rw [sg_up_s, sgu_s])).O rfl (by decide) rfl
  · rw [show (f 20 x0.toNatClampNeg).toNatClampNeg = 7 from by show (f 20 x0.toNatClampNeg).toInt.toNat = 7; omega, show x1.toNatClampNeg = 1 from by show x1.toInt.toNat = 1; omega, if_neg (show ¬ x1.toInt = 0 from by omega), if_pos w, if_neg (show ¬ (f 20 x0.toNatClampNeg).toInt = 0 from by omega), if_neg (show ¬ (f 20 x0.toNatClampNeg).toInt = 1 from by omega), if_neg (show ¬ (f 20 x0.toNatClampNeg).toInt = 2 from by omega), if_neg (show ¬ (f 20 x0.toNatClampNeg).toInt = 3 from by omega), if_neg (show ¬ (f 20 x0.toNatClampNeg).toInt = 4 from by omega), if_neg (show ¬ (f 20 x0.toNatClampNeg).toInt = 5 from by omega), if_neg (show ¬ (f 20 x0.toNatClampNeg).toInt = 6 from by omega), pr_eta]; exact (ac_sX12_sitsAs_7_f0_f7 x2 x0 _ L (by rw [sg_up_s, sgu_n (by decide), sg_up_s, sgu_n (by decide), sg_up_s, sgu_s]) (by rw [sg_up_s, sgu_s])).O rfl (by decide) rfl
  · rw [show (f 20 x0.toNatClampNeg).toNatClampNeg = 0 from by show (f 20 x0.toNatClampNeg).toInt.toNat = 0; omega, show x1.toNatClampNeg = 2 from by show x1.toInt.toNat = 2; omega, if_neg (show ¬ x1.toInt = 0 from by omega), if_neg (show ¬ x1.toInt = 1 from by omega), if_pos w, if_pos k, pr_eta]; exact (ac_sX12_slipsAs_0_f0_f0 x2 x0 _ L (by rw [sg_up_s, sgu_n (by decide), sg_up_s, sgu_n (by decide), sg_up_s, sgu_s]) (by rw [sg_up_s, sgu_s])).O rfl (by decide) rfl
  · rw [show (f 20 x0.toNatClampNeg).toNatClampNeg = 1 from by show (f 20 x0.toNatClampNeg).toInt.toNat = 1; omega, show x1.toNatClampNeg = 2 from by show x1.toInt.toNat = 2; omega, if_neg (show ¬ x1.toInt = 0 from by omega), if_neg (show ¬ x1.toInt = 1 from by omega), if_pos w, if_neg (show ¬ (f 20 x0.toNatClampNeg).toInt = 0 from by omega), if_pos k, pr_eta]; exact (ac_sX12_slipsAs_1_f0_f1 x2 x0 _ L (by rw [sg_up_s, sgu_n (by decide), sg_up_s, sgu_n (by decide), sg_up_s, sgu_s]) (by rw [sg_up_s, sgu_s])).O rfl (by decide) rfl
  · rw [show (f 20 x0.toNatClampNeg).toNatClampNeg = 2 from by show (f 20 x0.toNatClampNeg).toInt.toNat = 2; omega, show x1.toNatClampNeg = 2 from by show x1.toInt.toNat = 2; omega, if_neg (show ¬ x1.toInt = 0 from by omega), if_neg (show ¬ x1.toInt = 1 from by omega), if_pos w, if_neg (show ¬ (f 20 x0.toNatClampNeg).toInt = 0 from by omega), if_neg (show ¬ (f 20 x0.toNatClampNeg).toInt = 1 from by omega), if_pos k, pr_eta]; exact (ac_sX12_slipsAs_2_f0_f2 x2 x0 _ L (by rw [sg_up_s, sgu_n (by decide), sg_up_s, sgu_n (by decide), sg_up_s, sgu_s]) (by rw [sg_up_s, sgu_s])).O rfl (by decide) rfl
  · rw [show (f 20 x0.toNatClampNeg).toNatClampNeg = 3 from by show (f 20 x0.toNatClampNeg).toInt.toNat = 3; omega, show x1.toNatClampNeg = 2 from by show x1.toInt.toNat = 2; omega, if_neg (show ¬ x1.toInt = 0 from by omega), if_neg (show ¬ x1.toInt = 1 from by omega), if_pos w, if_neg (show ¬ (f 20 x0.toNatClampNeg).toInt = 0 from by omega), if_neg (show ¬ (f 20 x0.toNatClampNeg).toInt = 1 from by omega), if_neg (show ¬ (f 20 x0.toNatClampNeg).toInt = 2 from by omega), if_pos k, pr_eta]; exact (ac_sX12_slipsAs_3_f0_f3 x2 x0 _ L (by rw [sg_up_s, sgu_n (by decide), sg_up_s, sgu_n (by decide), sg_up_s, sgu_s]) (by rw [sg_up_s, sgu_s])).O rfl (by decide) rfl
  · rw [show (f 20 x0.toNatClampNeg).toNatClampNeg = 4 from by show (f 20 x0.toNatClampNeg).toInt.toNat = 4; omega, show x1.toNatClampNeg = 2 from by show x1.toInt.toNat = 2; omega, if_neg (show ¬ x1.toInt = 0 from by omega), if_neg (show ¬ x1.toInt = 1 from by omega), if_pos w, if_neg (show ¬ (f 20 x0.toNatClampNeg).toInt = 0 from by omega), if_neg (show ¬ (f 20 x0.toNatClampNeg).toInt = 1 from by omega), if_neg (show ¬ (f 20 x0.toNatClampNeg).toInt = 2 from by omega), if_neg (show ¬ (f 20 x0.toNatClampNeg).toInt = 3 from by omega), if_pos k, pr_eta]; exact (ac_sX12_slipsAs_4_f0_f4 x2 x0 _ L (by rw [sg_up_s, sgu_n (by decide), sg_up_s, sgu_n (by decide), sg_up_s, sgu_s]) (by rw [sg_up_s, sgu_s])).O rfl (by decide) rfl
  · rw [show (f 20 x0.toNatClampNeg).toNatClampNeg = 5 from by show (f 20 x0.toNatClampNeg).toInt.toNat = 5; omega, show x1.toNatClampNeg = 2 from by show x1.toInt.toNat = 2; omega, if_neg (show ¬ x1.toInt = 0 from by omega), if_neg (show ¬ x1.toInt = 1 from by omega), if_pos w, if_neg (show ¬ (f 20 x0.toNatClampNeg).toInt = 0 from by omega), if_neg (show ¬ (f 20 x0.toNatClampNeg).toInt = 1 from by omega), if_neg (show ¬ (f 20 x0.toNatClampNeg).toInt = 2 from by omega), if_neg (show ¬ (f 20 x0.toNatClampNeg).toInt = 3 from by omega), if_neg (show ¬ (f 20 x0.toNatClampNeg).toInt = 4 from by omega), if_pos k, pr_eta]; exact (ac_sX12_slipsAs_5_f0_f5 x2 x0 _ L (by rw [sg_up_s, sgu_n (by decide), sg_up_s, sgu_n (by decide), sg_up_s, sgu_s]) (by rw [sg_up_s, sgu_s])).O rfl (by decide) rfl
  · rw [show (f 20 x0.toNatClampNeg).toNatClampNeg = 6 from by show (f 20 x0.toNatClampNeg).toInt.toNat = 6; omega, show x1.toNatClampNeg = 2 from by show x1.toInt.toNat = 2; omega, if_neg (show ¬ x1.toInt = 0 from by omega), if_neg (show ¬ x1.toInt = 1 from by omega), if_pos w, if_neg (show ¬ (f 20 x0.toNatClampNeg).toInt = 0 from by omega), if_neg (show ¬ (f 20 x0.toNatClampNeg).toInt = 1 from by omega), if_neg (show ¬ (f 20 x0.toNatClampNeg).toInt = 2 from by omega), if_neg (show ¬ (f 20 x0.toNatClampNeg).toInt = 3 from by omega), if_neg (show ¬ (f 20 x0.toNatClampNeg).toInt = 4 from by omega), if_neg (show ¬ (f 20 x0.toNatClampNeg).toInt = 5 from by omega), if_pos k, pr_eta]; exact (ac_sX12_slipsAs_6_f0_f6 x2 x0 _ L (by rw [sg_up_s, sgu_n (by decide), sg_up_s, sgu_n (by decide), sg_up_s, sgu_s]) (by rw [sg_up_s, sgu_s])).O rfl (by decide) rfl
  · rw [show (f 20 x0.toNatClampNeg).toNatClampNeg = 7 from by show (f 20 x0.toNatClampNeg).toInt.toNat = 7; omega, show x1.toNatClampNeg = 2 from by show x1.toInt.toNat = 2; omega, if_neg (show ¬ x1.toInt = 0 from by omega), if_neg (show ¬ x1.toInt = 1 from by omega), if_pos w, if_neg (show ¬ (f 20 x0.toNatClampNeg).toInt = 0 from by omega), if_neg (show ¬ (f 20 x0.toNatClampNeg).toInt = 1 from by omega), if_neg (show ¬ (f 20 x0.toNatClampNeg).toInt = 2 from by omega), if_neg (show ¬ (f 20 x0.toNatClampNeg).toInt = 3 from by omega), if_neg (show ¬ (f 20 x0.toNatClampNeg).toInt = 4 from by omega), if_neg (show ¬ (f 20 x0.toNatClampNeg).toInt = 5 from by omega), if_neg (show ¬ (f 20 x0.toNatClampNeg).toInt = 6 from by omega), pr_eta]; exact (ac_sX12_slipsAs_7_f0_f7 x2 x0 _ L (by rw [sg_up_s, sgu_n (by decide), sg_up_s, sgu_n (by decide), sg_up_s, sgu_s]) (by rw [sg_up_s, sgu_s])).O rfl (by decide) rfl
  · rw [show (f 20 x0.toNatClampNeg).toNatClampNeg = 0 from by show (f 20 x0.toNatClampNeg).toInt.toNat = 0; omega, show x1.toNatClampNeg = 3 from by show x1.toInt.toNat = 3; omega, if_neg (show ¬ x1.toInt = 0 from by omega), if_neg (show ¬ x1.toInt = 1 from by omega), if_neg (show ¬ x1.toInt = 2 from by omega), if_pos w, if_pos k, pr_eta]; exact (ac_sX12_tellsAs_0_f0_f0 x2 x0 _ L (by rw [sg_up_s, sgu_n (by decide), sg_up_s, sgu_n (by decide), sg_up_s, sgu_s]) (by rw [sg_up_s, sgu_s])).O rfl (by decide) rfl
  · rw [show (f 20 x0.toNatClampNeg).toNatClampNeg = 1 from by show (f 20 x0.toNatClampNeg).toInt.toNat = 1; omega, show x1.toNatClampNeg = 3 from by show x1.toInt.toNat = 3; omega, if_neg (show ¬ x1.toInt = 0 from by omega), if_neg (show ¬ x1.toInt = 1 from by omega), if_neg (show ¬ x1.toInt = 2 from by omega), if_pos w, if_neg (show ¬ (f 20 x0.toNatClampNeg).toInt = 0 from by omega), if_pos k, pr_eta]; exact (ac_sX12_tellsAs_1_f0_f1 x2 x0 _ L (by rw [sg_up_s, sgu_n (by decide), sg_up_s, sgu_n (by decide), sg_up_s, sgu_s]) (by rw [sg_up_s, sgu_s])).O rfl (by decide) rfl
  · rw [show (f 20 x0.toNatClampNeg).toNatClampNeg = 2 from by show (f 20 x0.toNatClampNeg).toInt.toNat = 2; omega, show x1.toNatClampNeg = 3 from by show x1.toInt.toNat = 3; omega, if_neg (show ¬ x1.toInt = 0 from by omega), if_neg (show ¬ x1.toInt = 1 from by omega), if_neg (show ¬ x1.toInt = 2 from by omega), if_pos w, if_neg (show ¬ (f 20 x0.toNatClampNeg).toInt = 0 from by omega), if_neg (show ¬ (f 20 x0.toNatClampNeg).toInt = 1 from by omega), if_pos k, pr_eta]; exact (ac_sX12_tellsAs_2_f0_f2 x2 x0 _ L (by rw [sg_up_s, sgu_n (by decide), sg_up_s, sgu_n (by decide), sg_up_s, sgu_s]) (by rw [sg_up_s, sgu_s])).O rfl (by decide) rfl
  · rw [show (f 20 x0.toNatClampNeg).toNatClampNeg = 3 from by show (f 20 x0.toNatClampNeg).toInt.toNat = 3; omega, show x1.toNatClampNeg = 3 from by show x1.toInt.toNat = 3; omega, if_neg (show ¬ x1.toInt = 0 from by omega), if_neg (show ¬ x1.toInt = 1 from by omega), if_neg (show ¬ x1.toInt = 2 from by omega), if_pos w, if_neg (show ¬ (f 20 x0.toNatClampNeg).toInt = 0 from by omega), if_neg (show ¬ (f 20 x0.toNatClampNeg).toInt = 1 from by omega), if_neg (show ¬ (f 20 x0.toNatClampNeg).toInt = 2 from by omega), if_pos k, pr_eta]; exact (ac_sX12_tellsAs_3_f0_f3 x2 x0 _ L (by rw [sg_up_s, sgu_n (by decide), sg_up_s, sgu_n (by decide), sg_up_s, sgu_s]) (by rw [sg_up_s, sgu_s])).O rfl (by decide) rfl
  · rw [show (f 20 x0.toNatClampNeg).toNatClampNeg = 4 from by show (f 20 x0.toNatClampNeg).toInt.toNat = 4; omega, show x1.toNatClampNeg = 3 from by show x1.toInt.toNat = 3; omega, if_neg (show ¬ x1.toInt = 0 from by omega), if_neg (show ¬ x1.toInt = 1 from by omega), if_neg (show ¬ x1.toInt = 2 from by omega), if_pos w, if_neg (show ¬ (f 20 x0.toNatClampNeg).toInt = 0 from by omega), if_neg (show ¬ (f 20 x0.toNatClampNeg).toInt = 1 from by omega), if_neg (show ¬ (f 20 x0.toNatClampNeg).toInt = 2 from by omega), if_neg (show ¬ (f 20 x0.toNatClampNeg).toInt = 3 from by omega), if_pos k, pr_eta]; exact (ac_sX12_tellsAs_4_f0_f4 x2 x0 _ L (by rw [sg_up_s, sgu_n (by decide), sg_up_s, sgu_n (by decide), sg_up_s, sgu_s]) (by rw [sg_up_s, sgu_s])).O rfl (by decide) rfl
  · rw [show (f 20 x0.toNatClampNeg).toNatClampNeg = 5 from by show (f 20 x0.toNatClampNeg).toInt.toNat = 5; omega, show x1.toNatClampNeg = 3 from by show x1.toInt.toNat = 3; omega, if_neg (show ¬ x1.toInt = 0 from by omega), if_neg (show ¬ x1.toInt = 1 from by omega), if_neg (show ¬ x1.toInt = 2 from by omega), if_pos w, if_neg (show ¬ (f 20 x0.toNatClampNeg).toInt = 0 from by omega), if_neg (show ¬ (f 20 x0.toNatClampNeg).toInt = 1 from by omega), if_neg (show ¬ (f 20 x0.toNatClampNeg).toInt = 2 from by omega), if_neg (show ¬ (f 20 x0.toNatClampNeg).toInt = 3 from by omega), if_neg (show ¬ (f 20 x0.toNatClampNeg).toInt = 4 from by omega), if_pos k, pr_eta]; exact (ac_sX12_tellsAs_5_f0_f5 x2 x0 _ L (by rw [sg_up_s, sgu_n (by decide), sg_up_s, sgu_n (by decide), sg_up_s, sgu_s]) (by rw [sg_up_s, sgu_s])).O rfl (by decide) rfl
  · rw [show (f 20 x0.toNatClampNeg).toNatClampNeg = 6 from by show (f 20 x0.toNatClampNeg).toInt.toNat = 6; omega, show x1.toNatClampNeg = 3 from by show x1.toInt.toNat = 3; omega, if_neg (show ¬ x1.toInt = 0 from by omega), if_neg (show ¬ x1.toInt = 1 from by omega), if_neg (show ¬ x1.toInt = 2 from by omega), if_pos w, if_neg (show ¬ (f 20 x0.toNatClampNeg).toInt = 0 from by omega), if_neg (show ¬ (f 20 x0.toNatClampNeg).toInt = 1 from by omega), if_neg (show ¬ (f 20 x0.toNatClampNeg).toInt = 2 from by omega), if_neg (show ¬ (f 20 x0.toNatClampNeg).toInt = 3 from by omega), if_neg (show ¬ (f 20 x0.toNatClampNeg).toInt = 4 from by omega), if_neg (show ¬ (f 20 x0.toNatClampNeg).toInt = 5 from by omega), if_pos k, pr_eta]; exact (ac_sX12_tellsAs_6_f0_f6 x2 x0 _ L (by rw [sg_up_s, sgu_n (by decide), sg_up_s, sgu_n (by decide), sg_up_s, sgu_s]) (by rw [sg_up_s, sgu_s])).O rfl (by decide) rfl
  · rw [show (f 20 x0.toNatClampNeg).toNatClampNeg = 7 from by show (f 20 x0.toNatClampNeg).toInt.toNat = 7; omega, show x1.toNatClampNeg = 3 from by show x1.toInt.toNat = 3; omega, if_neg (show ¬ x1.toInt = 0 from by omega), if_neg (show ¬ x1.toInt = 1 from by omega), if_neg (show ¬ x1.toInt = 2 from by omega), if_pos w, if_neg (show ¬ (f 20 x0.toNatClampNeg).toInt = 0 from by omega), if_neg (show ¬ (f 20 x0.toNatClampNeg).toInt = 1 from by omega), if_neg (show ¬ (f 20 x0.toNatClampNeg).toInt = 2 from by omega), if_neg (show ¬ (f 20 x0.toNatClampNeg).toInt = 3 from by omega), if_neg (show ¬ (f 20 x0.toNatClampNeg).toInt = 4 from by omega), if_neg (show ¬ (f 20 x0.toNatClampNeg).toInt = 5 from by omega), if_neg (show ¬ (f 20 x0.toNatClampNeg).toInt = 6 from by omega), pr_eta]; exact (ac_sX12_tellsAs_7_f0_f7 x2 x0 _ L (by rw [sg_up_s, sgu_n (by decide), sg_up_s, sgu_n (by decide), sg_up_s, sgu_s]) (by rw [sg_up_s, sgu_s])).O rfl (by decide) rfl

/-- the desks of both are the same -/
def rDesk (fX fM : sg_F) : Prop := (fX 36 2).toInt = (fM 0 45).toInt ∧ ∀ i : Nat, (i : Int) < (fX 36 2).toInt → fX 37 i = fM 20 i
theorem rDesk.zero : rDesk f0X f0M := ⟨by decide, fun i h => absurd h (by rw [show ((f0X 36 2).toInt) = 0 from by decide]; omega)⟩
theorem rDesk.fr {fX fX1 fM fM1 : sg_F} (h : rDesk fX fM) (a : fX1 36 2 = fX 36 2) (b : ∀ j : Nat, fX1 37 j = fX 37 j) (c : fM1 0 45 = fM 0 45) (d : ∀ j : Nat, fM1 20 j = fM 20 j) : rDesk fX1 fM1 := by
  refine ⟨by rw [a, c]; exact h.1, fun i hi => ?_⟩
  rw [b, d]
  rw [a] at hi
  exact h.2 i hi
theorem bX_body (x : Int32) (f : sg_F) (L : sg_L) : sX11_body x f L = if 0 ≤ x.toInt ∧ x.toInt ≤ 7 then (if (f 36 2).toInt < 50 then (f 36 2 + 1 - 1, sg_up (sg_up f 37 (sgu (f 37) (f 36 2).toNatClampNeg x)) 36 (sgu (f 36) 2 (f 36 2 + 1))) else (-3, f)) else (-1, f) := by
  unfold sX11_body; (repeat first | rw [spl_d] | rw [spl2_d])
  rw [pX_isKind]
  by_cases h : 0 ≤ x.toInt ∧ x.toInt ≤ 7
  · rw [if_pos h, if_pos h, if_pos rfl]
    show sX3_comes x f L = _
    unfold sX3_comes; (repeat first | rw [spl_d] | rw [spl2_d])
    by_cases g : (f 36 2).toInt < 50
    · rw [if_pos g, if_pos g, sg_up_n (by decide)]
    · rw [if_neg g, if_neg g]
  · rw [if_neg h, if_neg h, if_neg zk0]
theorem bM_body (x : Int32) (f : sg_F) (L : sg_L) (hb : (f 0 45).toInt ≤ 50) : sX12_body x f L = if 0 ≤ x.toInt ∧ x.toInt ≤ 7 then (if (f 0 45).toInt < 50 then (f 0 45 + 1 - 1, sg_up (sg_up f 20 (sgu (f 20) (f 0 45).toNatClampNeg x)) 0 (sgu (f 0) 45 (f 0 45 + 1))) else (-3, f)) else (-1, f) := by
  have k0 : (0 : Int64).toInt = 0 := by decide
  have k7 : (7 : Int64).toInt = 7 := by decide
  have e := Int32.toInt_toInt64 x
  unfold sX12_body; (repeat first | rw [spl_d] | rw [spl2_d])
  rw [pM_within, k0, k7, e]
  by_cases h : 0 ≤ x.toInt ∧ x.toInt ≤ 7
  · rw [if_pos h, if_pos h, if_pos rfl]
    by_cases g : (f 0 45).toInt < 50
    · rw [if_pos g, if_neg (show ¬ (f 0 45).toInt = 50 from by omega), sg_up_n (by decide)]
    · rw [if_neg g, if_pos (show (f 0 45).toInt = 50 from by omega)]
  · rw [if_neg h, if_neg h, if_neg zk0]
theorem rDesk.body {fX fX1 fM fM1 : sg_F} {LX LM : sg_L} {x r1 r2 : Int32} (h : rDesk fX fM) (hp : 0 ≤ (fX 36 2).toInt ∧ (fX 36 2).toInt ≤ 50) (e1 : (r1, fX1) = sX11_body x fX LX) (e2 : (r2, fM1) = sX12_body x fM LM) : r1 = r2 ∧ rDesk fX1 fM1 ∧ (fX 36 2).toInt ≤ (fX1 36 2).toInt := by
  have h1 := h.1
  rw [bX_body] at e1
  rw [bM_body _ _ _ (by omega)] at e2
  by_cases q : 0 ≤ x.toInt ∧ x.toInt ≤ 7
  · rw [if_pos q] at e1 e2
    by_cases g : (fX 36 2).toInt < 50
    · rw [if_pos g] at e1
      rw [if_pos (by rw [← h1]; exact g)] at e2
      obtain ⟨rfl, rfl⟩ := Prod.mk.inj e1
      obtain ⟨rfl, rfl⟩ := Prod.mk.inj e2
      have e : fX 36 2 = fM 0 45 := Int32.toInt_inj.mp h1
      have k1 : (1 : Int32).toInt = 1 := by decide
      have ea : (fX 36 2 + 1).toInt = (fX 36 2).toInt + 1 := (bn_addI (by omega) (by omega)).trans (by omega)
      refine ⟨by rw [e], ⟨?_, fun i hi => ?_⟩, ?_⟩
      · rw [sg_up_s, sg_up_s, sgu_s, sgu_s, e]
      · rw [sg_up_n (show (37 : Nat) ≠ 36 by decide), sg_up_s, sg_up_n (show (20 : Nat) ≠ 0 by decide), sg_up_s, ← e]
        rw [sg_up_s, sgu_s] at hi
        by_cases z : i = (fX 36 2).toNatClampNeg
        · rw [z, sgu_s, sgu_s]
        · rw [sgu_n z, sgu_n z]
          have z1 := bn_clI hp.1
          exact h.2 i (by omega)
      · rw [sg_up_s, sgu_s]; omega
    · rw [if_neg g] at e1
      rw [if_neg (by rw [← h1]; exact g)] at e2
      obtain ⟨rfl, rfl⟩ := Prod.mk.inj e1
      obtain ⟨rfl, rfl⟩ := Prod.mk.inj e2
      exact ⟨rfl, h, Int.le_refl _⟩
  · rw [if_neg q] at e1 e2
    obtain ⟨rfl, rfl⟩ := Prod.mk.inj e1
    obtain ⟨rfl, rfl⟩ := Prod.mk.inj e2
    exact ⟨rfl, h, Int.le_refl _⟩
/-- the traces of both are the same -/
def rTrace (fX fM : sg_F) : Prop := (fX 36 3).toInt = (fM 0 48).toInt ∧ ∀ i : Nat, (i : Int) < (fX 36 3).toInt → fX 38 i = fM 21 i
theorem rTrace.zero : rTrace f0X f0M := ⟨by decide, fun i h => absurd h (by rw [show ((f0X 36 3).toInt) = 0 from by decide]; omega)⟩
theorem rTrace.fr {fX fX1 fM fM1 : sg_F} (h : rTrace fX fM) (a : fX1 36 3 = fX 36 3) (b : ∀ j : Nat, fX1 38 j = fX 38 j) (c : fM1 0 48 = fM 0 48) (d : ∀ j : Nat, fM1 21 j = fM 21 j) : rTrace fX1 fM1 := by
  refine ⟨by rw [a, c]; exact h.1, fun i hi => ?_⟩
  rw [b, d]
  rw [a] at hi
  exact h.2 i hi
theorem rDesk.act {fX fX1 fM fM1 : sg_F} {LX LM : sg_L} {b a x r1 r2 : Int32} (h : rDesk fX fM) (hp : 0 ≤ (fX 36 2).toInt ∧ (fX 36 2).toInt ≤ 50) (hX : ∀ j : Nat, 0 ≤ (fX 37 j).toInt ∧ (fX 37 j).toInt ≤ 7) (hM : ∀ j : Nat, 0 ≤ (fM 20 j).toInt ∧ (fM 20 j).toInt ≤ 7) (e1 : (r1, fX1) = sX11_act b a x fX LX) (e2 : (r2, fM1) = sX12_act b a x fM LM) : r1 = r2 ∧ rTrace fX1 fM1 := by
  have e := h.1
  have h1 := acX_act b a x fX LX (hX _)
  have h2 := acM_act b a x fM LM (by omega) (hM _)
  rw [← e1] at h1
  rw [← e2] at h2
  rcases h1 with ⟨q1, q2, q3, q4, q5, q6, q7⟩ | ⟨q, q5, q6⟩ <;> rcases h2 with ⟨g1, g2, g3, g4, g5, g6, g7⟩ | ⟨g, g5, g6⟩
  · rw [← h.2 b.toNatClampNeg (by rw [bn_clI q1]; exact q2)] at g5 g6 g7
    have q5 : r1 = _ := q5
    have g5 : r2 = _ := g5
    have q6 : (fX1 36 3).toInt = _ := q6
    have g6 : (fM1 0 48).toInt = _ := g6
    refine ⟨by rw [q5, g5], by rw [q6, g6], fun i hi => ?_⟩
    rw [q6] at hi
    have hi : i < _ := Int.ofNat_lt.mp hi
    exact trL.eq _ 0 q7 g7 i (Nat.zero_le _) (by rw [Nat.zero_add]; exact hi)
  · exact absurd ⟨q1, by omega, q3, q4⟩ g
  · exact absurd ⟨g1, by omega, g3, g4⟩ q
  · have q5 : r1 = _ := q5
    have g5 : r2 = _ := g5
    have q6 : (fX1 36 3).toInt = 0 := q6
    have g6 : (fM1 0 48).toInt = 0 := g6
    exact ⟨by rw [q5, g5], by rw [q6, g6], fun i hi => absurd hi (by omega)⟩
theorem rTrace.same {fX fM : sg_F} {LX LM : sg_L} {x r1 r2 : Int32} (h : rTrace fX fM) (hr : (fX 36 3).toInt ≤ 24) (e1 : r1 = sX11_trace x fX LX) (e2 : r2 = sX12_trace x fM LM) : r1 = r2 := by
  have k : (24 : Int32).toInt = 24 := by decide
  have z := bn_minI 24 (fX 36 3)
  unfold sX11_trace at e1; (repeat first | rw [spl_d] at e1 | rw [spl2_d] at e1)
  unfold sX12_trace at e2; (repeat first | rw [spl_d] at e2 | rw [spl2_d] at e2)
  rw [← h.1] at e2
  rw [e1, e2]
  by_cases c : x.toInt < 0
  · rw [if_pos c, if_pos c]
  · rw [if_neg c, if_neg c]
    by_cases d : x.toInt < (fX 36 3).toInt
    · rw [if_pos d, if_pos (by omega)]
      exact h.2 _ (by rw [bn_clI (by omega)]; exact d)
    · rw [if_neg d, if_neg (by omega)]
/-! SHELVES -/
/-- refusals of a place on a shelf (z: none) -/
def rfX (f : sg_F) (d i : Int32) (z : Int) (r : Int32) : Prop := (¬ (0 ≤ d.toInt ∧ d.toInt ≤ 5) ∧ r.toInt = -1) ∨ ((0 ≤ d.toInt ∧ d.toInt ≤ 5) ∧ (((f (40 + 2 * d.toNatClampNeg) 1).toInt = -1 ∧ r.toInt = -11) ∨ ((f (40 + 2 * d.toNatClampNeg) 1).toInt = -2 ∧ r.toInt = -12) ∨ (0 ≤ (f (40 + 2 * d.toNatClampNeg) 1).toInt ∧ 0 ≤ i.toInt ∧ i.toInt < (f (40 + 2 * d.toNatClampNeg) 2).toInt ∧ r.toInt = z) ∨ (0 ≤ (f (40 + 2 * d.toNatClampNeg) 1).toInt ∧ ¬ (0 ≤ i.toInt ∧ i.toInt < (f (40 + 2 * d.toNatClampNeg) 2).toInt) ∧ r.toInt = -13)))
def rfM (f : sg_F) (d i : Int32) (z : Int) (r : Int32) : Prop := (¬ (0 ≤ d.toInt ∧ d.toInt ≤ 5) ∧ r.toInt = -1) ∨ ((0 ≤ d.toInt ∧ d.toInt ≤ 5) ∧ (((f 22 d.toNatClampNeg).toInt < 0 ∧ r.toInt = -11) ∨ (0 ≤ (f 22 d.toNatClampNeg).toInt ∧ (f 22 d.toNatClampNeg).toInt < 50 ∧ r.toInt = -12) ∨ (50 ≤ (f 22 d.toNatClampNeg).toInt ∧ 0 ≤ i.toInt ∧ i.toInt < (f 23 d.toNatClampNeg).toInt ∧ r.toInt = z) ∨ (50 ≤ (f 22 d.toNatClampNeg).toInt ∧ ¬ (0 ≤ i.toInt ∧ i.toInt < (f 23 d.toNatClampNeg).toInt) ∧ r.toInt = -13)))
def okX (f : sg_F) (d i : Int32) : Prop := (0 ≤ d.toInt ∧ d.toInt ≤ 5) ∧ 0 ≤ (f (40 + 2 * d.toNatClampNeg) 1).toInt ∧ 0 ≤ i.toInt ∧ i.toInt < (f (40 + 2 * d.toNatClampNeg) 2).toInt
def okM (f : sg_F) (d i : Int32) : Prop := (0 ≤ d.toInt ∧ d.toInt ≤ 5) ∧ 50 ≤ (f 22 d.toNatClampNeg).toInt ∧ 0 ≤ i.toInt ∧ i.toInt < (f 23 d.toNatClampNeg).toInt
def cutF (s : Int) (v : Int64) : Int64 := if s = 0 then Int32.toInt64 (Int32.toInt8 (Int64.toInt32 v)).toInt32 else if s = 1 then Int32.toInt64 (Int32.toInt16 (Int64.toInt32 v)).toInt32 else if s = 2 then Int32.toInt64 (Int64.toInt32 v) else if s = 4 then (if v.toInt = 0 then 0 else 1) else v
def shD (f : sg_F) (t : Nat) (x : Int32) : sg_F := sg_up f (40 + 2 * t) (sgu (sgu (f (40 + 2 * t)) 1 (if x.toInt < 0 then (-1) else (-2))) 3 x)
def shR (f : sg_F) (t : Nat) (x y : Int32) : sg_F := sg_up f (40 + 2 * t) (sgu (sgu (f (40 + 2 * t)) 1 x) 2 y)
def tkF (k w r : Int) : Prop := (((k = 0 ∧ (w = 0)) ∨ (k = 1 ∧ (w = 1 ∨ w = 0)) ∨ (k = 2 ∧ (w = 2 ∨ w = 0)) ∨ (k = 3 ∧ (w = 3 ∨ w = 2 ∨ w = 0)) ∨ (k = 4 ∧ (w = 4 ∨ w = 1 ∨ w = 0)) ∨ (k = 5 ∧ (w = 5 ∨ w = 3 ∨ w = 2 ∨ w = 0)) ∨ (k = 6 ∧ (w = 6 ∨ w = 0)) ∨ (k = 7 ∧ (w = 7 ∨ w = 4 ∨ w = 1 ∨ w = 0))) ∧ r = k) ∨ (¬ ((k = 0 ∧ (w = 0)) ∨ (k = 1 ∧ (w = 1 ∨ w = 0)) ∨ (k = 2 ∧ (w = 2 ∨ w = 0)) ∨ (k = 3 ∧ (w = 3 ∨ w = 2 ∨ w = 0)) ∨ (k = 4 ∧ (w = 4 ∨ w = 1 ∨ w = 0)) ∨ (k = 5 ∧ (w = 5 ∨ w = 3 ∨ w = 2 ∨ w = 0)) ∨ (k = 6 ∧ (w = 6 ∨ w = 0)) ∨ (k = 7 ∧ (w = 7 ∨ w = 4 ∨ w = 1 ∨ w = 0))) ∧ r = -12)
def tkX (f : sg_F) (d w : Int32) (r : Int) : Prop := (¬ ((0 ≤ d.toInt ∧ d.toInt ≤ 5) ∧ 0 ≤ w.toInt ∧ w.toInt ≤ 7) ∧ r = -1) ∨ (((0 ≤ d.toInt ∧ d.toInt ≤ 5) ∧ 0 ≤ w.toInt ∧ w.toInt ≤ 7) ∧ (((f (40 + 2 * d.toNatClampNeg) 1).toInt = -1 ∧ r = -11) ∨ (0 ≤ (f (40 + 2 * d.toNatClampNeg) 1).toInt ∧ r = -12) ∨ ((f (40 + 2 * d.toNatClampNeg) 1).toInt = -2 ∧ tkF (f 37 (f (40 + 2 * d.toNatClampNeg) 3).toNatClampNeg).toInt w.toInt r)))
def tkM (f : sg_F) (d w : Int32) (r : Int) : Prop := (¬ ((0 ≤ d.toInt ∧ d.toInt ≤ 5) ∧ 0 ≤ w.toInt ∧ w.toInt ≤ 7) ∧ r = -1) ∨ (((0 ≤ d.toInt ∧ d.toInt ≤ 5) ∧ 0 ≤ w.toInt ∧ w.toInt ≤ 7) ∧ (((f 22 d.toNatClampNeg).toInt < 0 ∧ r = -11) ∨ (50 ≤ (f 22 d.toNatClampNeg).toInt ∧ r = -12) ∨ (0 ≤ (f 22 d.toNatClampNeg).toInt ∧ (f 22 d.toNatClampNeg).toInt < 50 ∧ tkF (f 20 (f 22 d.toNatClampNeg).toNatClampNeg).toInt w.toInt r)))
def sfX (f : sg_F) (d i e j n : Int32) (r : Int) : Prop := (¬ ((0 ≤ d.toInt ∧ d.toInt ≤ 5) ∧ (0 ≤ e.toInt ∧ e.toInt ≤ 5)) ∧ r = -1) ∨ (((0 ≤ d.toInt ∧ d.toInt ≤ 5) ∧ (0 ≤ e.toInt ∧ e.toInt ≤ 5)) ∧ ((((f (40 + 2 * d.toNatClampNeg) 1).toInt = -1 ∨ (f (40 + 2 * e.toNatClampNeg) 1).toInt = -1) ∧ r = -11) ∨ ((f (40 + 2 * d.toNatClampNeg) 1).toInt ≠ -1 ∧ (f (40 + 2 * e.toNatClampNeg) 1).toInt ≠ -1 ∧ ((((f (40 + 2 * d.toNatClampNeg) 1).toInt < 0 ∨ (f (40 + 2 * d.toNatClampNeg) 1).toInt ≠ (f (40 + 2 * e.toNatClampNeg) 1).toInt) ∧ r = -12) ∨ (0 ≤ (f (40 + 2 * d.toNatClampNeg) 1).toInt ∧ (f (40 + 2 * d.toNatClampNeg) 1).toInt = (f (40 + 2 * e.toNatClampNeg) 1).toInt ∧ ((¬ (0 ≤ n.toInt ∧ 0 ≤ i.toInt ∧ 0 ≤ j.toInt ∧ i.toInt + n.toInt ≤ (f (40 + 2 * d.toNatClampNeg) 2).toInt ∧ j.toInt + n.toInt ≤ (f (40 + 2 * e.toNatClampNeg) 2).toInt) ∧ r = -13) ∨ ((0 ≤ n.toInt ∧ 0 ≤ i.toInt ∧ 0 ≤ j.toInt ∧ i.toInt + n.toInt ≤ (f (40 + 2 * d.toNatClampNeg) 2).toInt ∧ j.toInt + n.toInt ≤ (f (40 + 2 * e.toNatClampNeg) 2).toInt) ∧ r = n.toInt)))))))
def sfM (f : sg_F) (d i e j n : Int32) (r : Int) : Prop := (¬ ((0 ≤ d.toInt ∧ d.toInt ≤ 5) ∧ (0 ≤ e.toInt ∧ e.toInt ≤ 5)) ∧ r = -1) ∨ (((0 ≤ d.toInt ∧ d.toInt ≤ 5) ∧ (0 ≤ e.toInt ∧ e.toInt ≤ 5)) ∧ ((((f 22 d.toNatClampNeg).toInt < 0 ∨ (f 22 e.toNatClampNeg).toInt < 0) ∧ r = -11) ∨ (0 ≤ (f 22 d.toNatClampNeg).toInt ∧ 0 ≤ (f 22 e.toNatClampNeg).toInt ∧ ((((f 22 d.toNatClampNeg).toInt < 50 ∨ (f 22 d.toNatClampNeg).toInt ≠ (f 22 e.toNatClampNeg).toInt) ∧ r = -12) ∨ (50 ≤ (f 22 d.toNatClampNeg).toInt ∧ (f 22 d.toNatClampNeg).toInt = (f 22 e.toNatClampNeg).toInt ∧ ((¬ (0 ≤ n.toInt ∧ 0 ≤ i.toInt ∧ 0 ≤ j.toInt ∧ i.toInt + n.toInt ≤ (f 23 d.toNatClampNeg).toInt ∧ j.toInt + n.toInt ≤ (f 23 e.toNatClampNeg).toInt) ∧ r = -13) ∨ ((0 ≤ n.toInt ∧ 0 ≤ i.toInt ∧ 0 ≤ j.toInt ∧ i.toInt + n.toInt ≤ (f 23 d.toNatClampNeg).toInt ∧ j.toInt + n.toInt ≤ (f 23 e.toNatClampNeg).toInt) ∧ r = n.toInt)))))))
theorem sg_upup {α : Type} {f : Nat → Nat → α} {k : Nat} {g g1 : Nat → α} : sg_up (sg_up f k g) k g1 = sg_up f k g1 := by
  funext i
  by_cases h : i = k
  · rw [h, sg_up_s, sg_up_s]
  · rw [sg_up_n h, sg_up_n h, sg_up_n h]
theorem sg_fill {g g0 : Nat → Int64} {a : Int} {x y : Int32} (h : ∀ j : Nat, g j = if a ≤ (j : Int) ∧ (j : Int) < x.toInt then 0 else g0 j) (hx : 0 ≤ x.toInt) (ha : a ≤ x.toInt) (hy : y.toInt = x.toInt + 1) (j : Nat) : sgu g x.toNatClampNeg 0 j = if a ≤ (j : Int) ∧ (j : Int) < y.toInt then 0 else g0 j := by
  have e := bn_clI hx
  by_cases z : j = x.toNatClampNeg
  · rw [z, sgu_s, if_pos ⟨by omega, by omega⟩]
  · rw [sgu_n z, h j]
    by_cases q : a ≤ (j : Int) ∧ (j : Int) < x.toInt
    · rw [if_pos q, if_pos ⟨q.1, by omega⟩]
    · rw [if_neg q, if_neg (fun w => q ⟨w.1, by omega⟩)]
theorem shD_s1 {f : sg_F} {t : Nat} {x : Int32} : shD f t x (40 + 2 * t) 1 = if x.toInt < 0 then (-1) else (-2) := by
  unfold shD
  rw [sg_up_s, sgu_n (by decide), sgu_s]
theorem shD_s3 {f : sg_F} {t : Nat} {x : Int32} : shD f t x (40 + 2 * t) 3 = x := by
  unfold shD
  rw [sg_up_s, sgu_s]
theorem shD_n {f : sg_F} {t k : Nat} {x : Int32} (h : k ≠ 40 + 2 * t) : shD f t x k = f k := by
  unfold shD
  exact sg_up_n h
theorem shR_s1 {f : sg_F} {t : Nat} {x y : Int32} : shR f t x y (40 + 2 * t) 1 = x := by
  unfold shR
  rw [sg_up_s, sgu_n (by decide), sgu_s]
theorem shR_s2 {f : sg_F} {t : Nat} {x y : Int32} : shR f t x y (40 + 2 * t) 2 = y := by
  unfold shR
  rw [sg_up_s, sgu_s]
theorem shR_n {f : sg_F} {t k : Nat} {x y : Int32} (h : k ≠ 40 + 2 * t) : shR f t x y k = f k := by
  unfold shR
  exact sg_up_n h
/-- the shelves of both hold the same, but for elements -/
def rShelf (fX fM : sg_F) : Prop := ∀ t : Nat, t < 6 → ((fX (40 + 2 * t) 1).toInt = -1 ∧ (fM 22 t).toInt = -1) ∨ ((fX (40 + 2 * t) 1).toInt = -2 ∧ (fM 22 t).toInt = (fX (40 + 2 * t) 3).toInt ∧ 0 ≤ (fX (40 + 2 * t) 3).toInt ∧ (fX (40 + 2 * t) 3).toInt < (fX 36 2).toInt) ∨ (0 ≤ (fX (40 + 2 * t) 1).toInt ∧ (fX (40 + 2 * t) 1).toInt ≤ 4 ∧ (fM 22 t).toInt = 50 + (fX (40 + 2 * t) 1).toInt ∧ (fX (40 + 2 * t) 2).toInt = (fM 23 t).toInt)
theorem rShelf.zero : rShelf f0X f0M := by
  intro t ht
  have e : f0M 22 t = -1 := by rcases (show t = 0 ∨ t = 1 ∨ t = 2 ∨ t = 3 ∨ t = 4 ∨ t = 5 by omega) with rfl | rfl | rfl | rfl | rfl | rfl <;> rfl
  exact Or.inl ⟨by rw [f0X_sh ht, sgu_s]; decide, by rw [e]; decide⟩
theorem rShelf.fr {fX fX1 fM fM1 : sg_F} (h : rShelf fX fM) (a : ∀ t j : Nat, fX1 (40 + 2 * t) j = fX (40 + 2 * t) j) (b : fX1 36 2 = fX 36 2) (c : ∀ j : Nat, fM1 22 j = fM 22 j) (d : ∀ j : Nat, fM1 23 j = fM 23 j) : rShelf fX1 fM1 := by
  intro t ht
  rw [a, a, a, c, d, b]
  exact h t ht
theorem rShelf.more {fX fX1 fM fM1 : sg_F} (h : rShelf fX fM) (a : ∀ t j : Nat, fX1 (40 + 2 * t) j = fX (40 + 2 * t) j) (b : (fX 36 2).toInt ≤ (fX1 36 2).toInt) (c : ∀ j : Nat, fM1 22 j = fM 22 j) (d : ∀ j : Nat, fM1 23 j = fM 23 j) : rShelf fX1 fM1 := by
  intro t ht
  rw [a, a, a, c, d]
  rcases h t ht with q | ⟨q1, q2, q3, q4⟩ | q
  · exact Or.inl q
  · exact Or.inr (Or.inl ⟨q1, q2, q3, by omega⟩)
  · exact Or.inr (Or.inr q)
theorem rShelf.keep {fX fX1 fM fM1 : sg_F} {d w : Int32} (h : rShelf fX fM) (hd : rDesk fX fM) (a : fX1 = if 0 ≤ d.toInt ∧ d.toInt ≤ 5 ∧ -1 ≤ w.toInt ∧ w.toInt < (fX 36 2).toInt then shD fX d.toNatClampNeg w else fX) (b : fM1 = if 0 ≤ d.toInt ∧ d.toInt ≤ 5 ∧ -1 ≤ w.toInt ∧ w.toInt < (fM 0 45).toInt then sg_up (sg_up fM 22 (sgu (fM 22) d.toNatClampNeg w)) 23 (sgu (fM 23) d.toNatClampNeg 0) else fM) : rShelf fX1 fM1 := by
  have hd1 := hd.1
  rw [← hd1] at b
  by_cases q : 0 ≤ d.toInt ∧ d.toInt ≤ 5 ∧ -1 ≤ w.toInt ∧ w.toInt < (fX 36 2).toInt
  · rw [if_pos q] at a b
    intro t ht
    have k0 : fX1 36 2 = fX 36 2 := by rw [a]; exact congrFun (shD_n (by omega)) 2
    by_cases z : t = d.toNatClampNeg
    · have k1 : fX1 (40 + 2 * t) 1 = if w.toInt < 0 then (-1) else (-2) := by rw [a, z]; exact shD_s1
      have k3 : fX1 (40 + 2 * t) 3 = w := by rw [a, z]; exact shD_s3
      have m1 : fM1 22 t = w := by rw [b, z, sg_up_n (by decide), sg_up_s, sgu_s]
      rw [k1, k3, k0, m1]
      by_cases y : w.toInt < 0
      · rw [if_pos y]; exact Or.inl ⟨by decide, by omega⟩
      · rw [if_neg y]; exact Or.inr (Or.inl ⟨by decide, rfl, by omega, q.2.2.2⟩)
    · have k : ∀ j : Nat, fX1 (40 + 2 * t) j = fX (40 + 2 * t) j := fun j => by rw [a]; exact congrFun (shD_n (by omega)) j
      have m1 : fM1 22 t = fM 22 t := by rw [b, sg_up_n (by decide), sg_up_s, sgu_n z]
      have m2 : fM1 23 t = fM 23 t := by rw [b, sg_up_s, sgu_n z]
      rw [k, k, k, k0, m1, m2]
      exact h t ht
  · rw [if_neg q] at a b
    rw [a, b]
    exact h
theorem rShelf.row {fX fX1 fM fM1 : sg_F} {d s n : Int32} (h : rShelf fX fM) (a : fX1 = if 0 ≤ d.toInt ∧ d.toInt ≤ 5 ∧ 0 ≤ s.toInt ∧ s.toInt ≤ 4 ∧ 0 ≤ n.toInt ∧ n.toInt ≤ 60 then shR fX d.toNatClampNeg s n else fX) (b : fM1 = if 0 ≤ d.toInt ∧ d.toInt ≤ 5 ∧ 0 ≤ s.toInt ∧ s.toInt ≤ 4 ∧ 0 ≤ n.toInt ∧ n.toInt ≤ 60 then sg_up (sg_up fM 22 (sgu (fM 22) d.toNatClampNeg (50 + s))) 23 (sgu (fM 23) d.toNatClampNeg n) else fM) : rShelf fX1 fM1 := by
  by_cases q : 0 ≤ d.toInt ∧ d.toInt ≤ 5 ∧ 0 ≤ s.toInt ∧ s.toInt ≤ 4 ∧ 0 ≤ n.toInt ∧ n.toInt ≤ 60
  · rw [if_pos q] at a b
    intro t ht
    have k0 : fX1 36 2 = fX 36 2 := by rw [a]; exact congrFun (shR_n (by omega)) 2
    by_cases z : t = d.toNatClampNeg
    · have k1 : fX1 (40 + 2 * t) 1 = s := by rw [a, z]; exact shR_s1
      have k2 : fX1 (40 + 2 * t) 2 = n := by rw [a, z]; exact shR_s2
      have m1 : fM1 22 t = 50 + s := by rw [b, z, sg_up_n (by decide), sg_up_s, sgu_s]
      have m2 : fM1 23 t = n := by rw [b, z, sg_up_s, sgu_s]
      have k50 : (50 : Int32).toInt = 50 := by decide
      have e : (50 + s : Int32).toInt = 50 + s.toInt := (bn_addI (by omega) (by omega)).trans (by omega)
      rw [k1, k2, m1, m2]
      exact Or.inr (Or.inr ⟨q.2.2.1, q.2.2.2.1, e, rfl⟩)
    · have k : ∀ j : Nat, fX1 (40 + 2 * t) j = fX (40 + 2 * t) j := fun j => by rw [a]; exact congrFun (shR_n (by omega)) j
      have m1 : fM1 22 t = fM 22 t := by rw [b, sg_up_n (by decide), sg_up_s, sgu_n z]
      have m2 : fM1 23 t = fM 23 t := by rw [b, sg_up_s, sgu_n z]
      rw [k, k, k, k0, m1, m2]
      exact h t ht
  · rw [if_neg q] at a b
    rw [a, b]
    exact h
theorem rShelf.at {fX fM : sg_F} (h : rShelf fX fM) {d : Int32} (h0 : 0 ≤ d.toInt) (h5 : d.toInt ≤ 5) : ((fX (40 + 2 * d.toNatClampNeg) 1).toInt = -1 ∧ (fM 22 d.toNatClampNeg).toInt = -1) ∨ ((fX (40 + 2 * d.toNatClampNeg) 1).toInt = -2 ∧ (fM 22 d.toNatClampNeg).toInt = (fX (40 + 2 * d.toNatClampNeg) 3).toInt ∧ 0 ≤ (fX (40 + 2 * d.toNatClampNeg) 3).toInt ∧ (fX (40 + 2 * d.toNatClampNeg) 3).toInt < (fX 36 2).toInt) ∨ (0 ≤ (fX (40 + 2 * d.toNatClampNeg) 1).toInt ∧ (fX (40 + 2 * d.toNatClampNeg) 1).toInt ≤ 4 ∧ (fM 22 d.toNatClampNeg).toInt = 50 + (fX (40 + 2 * d.toNatClampNeg) 1).toInt ∧ (fX (40 + 2 * d.toNatClampNeg) 2).toInt = (fM 23 d.toNatClampNeg).toInt) := by
  have e := bn_clI h0
  exact h _ (by omega)
theorem rShelf.put {fX fM : sg_F} (h : rShelf fX fM) (hb : ∀ t : Nat, t < 6 → (fX 36 2).toInt ≤ 50) {d i : Int32} {z : Int} {r1 r2 : Int32} (h1 : rfX fX d i z r1) (h2 : rfM fM d i z r2) : r1 = r2 := by
  have h9 := hb 0 (by omega)
  unfold rfX at h1
  unfold rfM at h2
  refine Int32.toInt_inj.mp ?_
  by_cases q : 0 ≤ d.toInt ∧ d.toInt ≤ 5
  · have g := h.at q.1 q.2
    omega
  · omega
theorem rShelf.shift {fX fM : sg_F} (h : rShelf fX fM) (h9 : (fX 36 2).toInt ≤ 50) {d i e j n r1 r2 : Int32} (h1 : sfX fX d i e j n r1.toInt) (h2 : sfM fM d i e j n r2.toInt) : r1 = r2 := by
  unfold sfX at h1
  unfold sfM at h2
  refine Int32.toInt_inj.mp ?_
  by_cases q : (0 ≤ d.toInt ∧ d.toInt ≤ 5) ∧ 0 ≤ e.toInt ∧ e.toInt ≤ 5
  · have g := h.at q.1.1 q.1.2
    have g1 := h.at q.2.1 q.2.2
    omega
  · omega
theorem tkF.one {k w r1 r2 : Int} (h1 : tkF k w r1) (h2 : tkF k w r2) : r1 = r2 := by
  unfold tkF at h1 h2
  rcases h1 with ⟨a, b⟩ | ⟨a, b⟩ <;> rcases h2 with ⟨c, d⟩ | ⟨c, d⟩
  · rw [b, d]
  · exact absurd a c
  · exact absurd c a
  · rw [b, d]
theorem rShelf.taken {fX fM : sg_F} (h : rShelf fX fM) (hd : rDesk fX fM) (h9 : (fX 36 2).toInt ≤ 50) {d w r1 r2 : Int32} (h1 : tkX fX d w r1.toInt) (h2 : tkM fM d w r2.toInt) : r1 = r2 := by
  unfold tkX at h1
  unfold tkM at h2
  refine Int32.toInt_inj.mp ?_
  by_cases q : (0 ≤ d.toInt ∧ d.toInt ≤ 5) ∧ 0 ≤ w.toInt ∧ w.toInt ≤ 7
  · have g := h.at q.1.1 q.1.2
    rcases h1 with ⟨a, -⟩ | ⟨-, h1⟩
    · exact absurd q a
    rcases h2 with ⟨a, -⟩ | ⟨-, h2⟩
    · exact absurd q a
    rcases h1 with ⟨a1, b1⟩ | ⟨a1, b1⟩ | ⟨a1, b1⟩ <;> rcases h2 with ⟨a2, b2⟩ | ⟨a2, b2⟩ | ⟨a2, c2, b2⟩
    all_goals first | (exfalso; omega) | (rw [b1, b2]; done) | skip
    rcases g with g | ⟨-, g2, g3, g4⟩ | g
    · exfalso; omega
    · have e : (fX (40 + 2 * d.toNatClampNeg) 3).toNatClampNeg = (fM 22 d.toNatClampNeg).toNatClampNeg := by show (fX (40 + 2 * d.toNatClampNeg) 3).toInt.toNat = (fM 22 d.toNatClampNeg).toInt.toNat; rw [g2]
      have e2 := hd.2 (fX (40 + 2 * d.toNatClampNeg) 3).toNatClampNeg (by rw [bn_clI g3]; exact g4)
      rw [e2, e] at b1
      exact b1.one b2
    · exfalso; omega
  · rcases h1 with ⟨-, a⟩ | ⟨a, -⟩
    · rcases h2 with ⟨-, b⟩ | ⟨b, -⟩
      · rw [a, b]
      · exact absurd b q
    · exact absurd a q
/-- the elements of both are the same -/
def rEl (fX : sg_F) (LX LM : sg_L) : Prop := ∀ t : Nat, t < 6 → 0 ≤ (fX (40 + 2 * t) 1).toInt → ∀ i : Nat, (i : Int) < (fX (40 + 2 * t) 2).toInt → LX (41 + 2 * t) i = LM 24 (60 * t + i)
theorem rEl.zero : rEl f0X L0 L0 := fun _ _ _ _ _ => rfl
theorem rEl.fr {fX fX1 : sg_F} {LX LM : sg_L} (h : rEl fX LX LM) (a : ∀ t j : Nat, fX1 (40 + 2 * t) j = fX (40 + 2 * t) j) : rEl fX1 LX LM := by
  intro t ht h1 i hi
  rw [a] at h1 hi
  exact h t ht h1 i hi
theorem rEl.keep {fX fX1 : sg_F} {LX LM : sg_L} {d w : Int32} (h : rEl fX LX LM) (a : fX1 = if 0 ≤ d.toInt ∧ d.toInt ≤ 5 ∧ -1 ≤ w.toInt ∧ w.toInt < (fX 36 2).toInt then shD fX d.toNatClampNeg w else fX) : rEl fX1 LX LM := by
  by_cases q : 0 ≤ d.toInt ∧ d.toInt ≤ 5 ∧ -1 ≤ w.toInt ∧ w.toInt < (fX 36 2).toInt
  · rw [if_pos q] at a
    intro t ht h1 i hi
    by_cases z : t = d.toNatClampNeg
    · exfalso
      rw [a, z, shD_s1] at h1
      by_cases y : w.toInt < 0
      · rw [if_pos y] at h1; exact absurd h1 (by decide)
      · rw [if_neg y] at h1; exact absurd h1 (by decide)
    · rw [a, shD_n (by omega)] at h1 hi
      exact h t ht h1 i hi
  · rw [if_neg q] at a
    rw [a]; exact h
theorem rEl.row {fX fX1 : sg_F} {LX LX1 LM LM1 : sg_L} {d s n : Int32} (h : rEl fX LX LM) (hb : ∀ t : Nat, t < 6 → (fX (40 + 2 * t) 2).toInt ≤ 60) (a : fX1 = if 0 ≤ d.toInt ∧ d.toInt ≤ 5 ∧ 0 ≤ s.toInt ∧ s.toInt ≤ 4 ∧ 0 ≤ n.toInt ∧ n.toInt ≤ 60 then shR fX d.toNatClampNeg s n else fX)
    (b : (¬ (0 ≤ d.toInt ∧ d.toInt ≤ 5 ∧ 0 ≤ s.toInt ∧ s.toInt ≤ 4 ∧ 0 ≤ n.toInt ∧ n.toInt ≤ 60) ∧ LX1 = LX) ∨ ((0 ≤ d.toInt ∧ d.toInt ≤ 5 ∧ 0 ≤ s.toInt ∧ s.toInt ≤ 4 ∧ 0 ≤ n.toInt ∧ n.toInt ≤ 60) ∧ (∀ k : Nat, k ≠ 41 + 2 * d.toNatClampNeg → LX1 k = LX k) ∧ ∀ i : Nat, (i : Int) < n.toInt → LX1 (41 + 2 * d.toNatClampNeg) i = 0))
    (c : (¬ (0 ≤ d.toInt ∧ d.toInt ≤ 5 ∧ 0 ≤ s.toInt ∧ s.toInt ≤ 4 ∧ 0 ≤ n.toInt ∧ n.toInt ≤ 60) ∧ LM1 = LM) ∨ ((0 ≤ d.toInt ∧ d.toInt ≤ 5 ∧ 0 ≤ s.toInt ∧ s.toInt ≤ 4 ∧ 0 ≤ n.toInt ∧ n.toInt ≤ 60) ∧ ∀ j : Nat, LM1 24 j = if 60 * d.toInt ≤ (j : Int) ∧ (j : Int) < 60 * d.toInt + 60 then 0 else LM 24 j)) : rEl fX1 LX1 LM1 := by
  rcases b with ⟨q, b⟩ | ⟨q, b1, b2⟩ <;> rcases c with ⟨g, c⟩ | ⟨g, c⟩
  · rw [if_neg q] at a; rw [a, b, c]; exact h
  · exact absurd g q
  · exact absurd q g
  · rw [if_pos q] at a
    have e := bn_clI q.1
    intro t ht h1 i hi
    by_cases z : t = d.toNatClampNeg
    · rw [a, z, shR_s2] at hi
      rw [z, b2 i hi, c, if_pos ⟨by omega, by omega⟩]
    · rw [a, shR_n (by omega)] at h1 hi
      have g9 := hb t ht
      rw [b1 _ (by omega), c, if_neg (by omega)]
      exact h t ht h1 i hi
theorem rEl.put {fX fM : sg_F} {LX LX1 LM LM1 : sg_L} {d i : Int32} {v : Int64} (h : rEl fX LX LM) (hs : rShelf fX fM) (hb : ∀ t : Nat, t < 6 → (fX (40 + 2 * t) 2).toInt ≤ 60) (h9 : (fX 36 2).toInt ≤ 50)
    (a : (¬ okX fX d i ∧ LX1 = LX) ∨ (okX fX d i ∧ LX1 = sg_up LX (41 + 2 * d.toNatClampNeg) (sgu (LX (41 + 2 * d.toNatClampNeg)) i.toNatClampNeg (cutF (fX (40 + 2 * d.toNatClampNeg) 1).toInt v))))
    (b : (¬ okM fM d i ∧ LM1 = LM) ∨ (okM fM d i ∧ LM1 = sg_up LM 24 (sgu (LM 24) (60 * d.toNatClampNeg + i.toNatClampNeg) (cutF ((fM 22 d.toNatClampNeg).toInt - 50) v)))) : rEl fX LX1 LM1 := by
  have ho : okX fX d i ↔ okM fM d i := by
    unfold okX okM
    by_cases q : 0 ≤ d.toInt ∧ d.toInt ≤ 5
    · have g := hs.at q.1 q.2
      omega
    · omega
  rcases a with ⟨q, a⟩ | ⟨q, a⟩ <;> rcases b with ⟨g, b⟩ | ⟨g, b⟩
  · rw [a, b]; exact h
  · exact absurd (ho.mpr g) q
  · exact absurd (ho.mp q) g
  · unfold okX at q
    unfold okM at g
    have k := hs.at q.1.1 q.1.2
    have e0 := bn_clI q.1.1
    have e1 := bn_clI q.2.2.1
    have g1 := hb d.toNatClampNeg (by omega)
    have es : (fM 22 d.toNatClampNeg).toInt - 50 = (fX (40 + 2 * d.toNatClampNeg) 1).toInt := by omega
    rw [es] at b
    intro t ht h1 j hj
    rw [a, b, sg_up_s]
    have g2 := hb t ht
    by_cases z : t = d.toNatClampNeg
    · rw [z, sg_up_s]
      by_cases y : j = i.toNatClampNeg
      · rw [y, sgu_s, sgu_s]
      · rw [sgu_n y, sgu_n (by omega), ← z]
        exact h t ht h1 j hj
    · rw [sg_up_n (by omega), sgu_n (by omega)]
      exact h t ht h1 j hj
theorem rEl.shift {fX fM : sg_F} {LX LX1 LM LM1 : sg_L} {d i e j n r1 r2 : Int32} (h : rEl fX LX LM) (hs : rShelf fX fM) (hb : ∀ t : Nat, t < 6 → (fX (40 + 2 * t) 2).toInt ≤ 60) (h9 : (fX 36 2).toInt ≤ 50) (h1 : sfX fX d i e j n r1.toInt) (h2 : sfM fM d i e j n r2.toInt)
    (a : (r1.toInt < 0 ∧ LX1 = LX) ∨ (0 ≤ r1.toInt ∧ LX1 = sg_up LX (41 + 2 * e.toNatClampNeg) (va_cpy (LX (41 + 2 * d.toNatClampNeg)) (LX (41 + 2 * e.toNatClampNeg)) i.toNatClampNeg j.toNatClampNeg n.toNatClampNeg)))
    (b : (r2.toInt < 0 ∧ LM1 = LM) ∨ (0 ≤ r2.toInt ∧ LM1 24 = va_cpy (LM 24) (LM 24) (60 * d.toNatClampNeg + i.toNatClampNeg) (60 * e.toNatClampNeg + j.toNatClampNeg) n.toNatClampNeg)) : rEl fX LX1 LM1 := by
  have hr := hs.shift h9 h1 h2
  subst hr
  rcases a with ⟨q, a⟩ | ⟨q, a⟩ <;> rcases b with ⟨g, b⟩ | ⟨g, b⟩
  · rw [a, b]; exact h
  · exfalso; omega
  · exfalso; omega
  · unfold sfX at h1
    rcases h1 with ⟨-, y⟩ | ⟨⟨y1, y2⟩, y⟩
    · exfalso; omega
    have k1 := hs.at y1.1 y1.2
    have k2 := hs.at y2.1 y2.2
    have e1 := bn_clI y1.1
    have e2 := bn_clI y2.1
    rcases y with ⟨-, y⟩ | ⟨-, -, ⟨-, y⟩ | ⟨u0, u1, ⟨-, y⟩ | ⟨⟨y3, y4, y5, y6, y7⟩, -⟩⟩⟩
    · exfalso; omega
    · exfalso; omega
    · exfalso; omega
    have e3 := bn_clI y3
    have e4 := bn_clI y4
    have e5 := bn_clI y5
    have b1 := hb d.toNatClampNeg (by omega)
    have b2 := hb e.toNatClampNeg (by omega)
    intro t ht g1 x hx
    have b3 := hb t ht
    rw [a, b]
    by_cases z : t = e.toNatClampNeg
    · rw [z, sg_up_s]
      unfold va_cpy
      by_cases w : j.toNatClampNeg ≤ x ∧ x < j.toNatClampNeg + n.toNatClampNeg
      · rw [if_pos w, if_pos ⟨by omega, by omega⟩, h d.toNatClampNeg (by omega) u0 _ (by omega)]
        exact congrArg (LM 24) (by omega)
      · rw [if_neg w, if_neg (by omega), ← z]
        exact h t ht g1 x hx
    · rw [sg_up_n (by omega)]
      unfold va_cpy
      rw [if_neg (by omega)]
      exact h t ht g1 x hx
theorem rEl.same {fX fM : sg_F} {LX LM : sg_L} {d i : Int32} {r1 r2 : Int64} (h : rEl fX LX LM) (hs : rShelf fX fM) (h9 : (fX 36 2).toInt ≤ 50) (a : (¬ okX fX d i ∧ r1 = (-9223372036854775808)) ∨ (okX fX d i ∧ r1 = LX (41 + 2 * d.toNatClampNeg) i.toNatClampNeg)) (b : (¬ okM fM d i ∧ r2 = (-9223372036854775808)) ∨ (okM fM d i ∧ r2 = LM 24 (60 * d.toNatClampNeg + i.toNatClampNeg))) : r1 = r2 := by
  have ho : okX fX d i ↔ okM fM d i := by
    unfold okX okM
    by_cases q : 0 ≤ d.toInt ∧ d.toInt ≤ 5
    · have g := hs.at q.1 q.2
      omega
    · omega
  rcases a with ⟨q, a⟩ | ⟨q, a⟩ <;> rcases b with ⟨g, b⟩ | ⟨g, b⟩
  · rw [a, b]
  · exact absurd (ho.mpr g) q
  · exact absurd (ho.mp q) g
  · unfold okX at q
    have e0 := bn_clI q.1.1
    have e1 := bn_clI q.2.2.1
    rw [a, b]
    exact h _ (by omega) q.2.1 _ (by omega)
/-! what the calls of shelves do, read off the functions -/
theorem pX_hasPlaces (x n : Int32) (t : Nat) (f : sg_F) (L : sg_L) (hb : 0 ≤ (f (40 + 2 * t) 2).toInt ∧ (f (40 + 2 * t) 2).toInt ≤ 60) : sX7_hasPlaces x n t f L = if 0 ≤ x.toInt ∧ 0 ≤ n.toInt ∧ x.toInt + n.toInt ≤ (f (40 + 2 * t) 2).toInt then 1 else 0 := by
  unfold sX7_hasPlaces; (repeat first | rw [spl_d] | rw [spl2_d])
  by_cases h1 : x.toInt < 0
  · rw [if_pos h1, if_neg (by omega)]
  rw [if_neg h1]
  by_cases h2 : n.toInt < 0
  · rw [if_pos h2, if_neg (by omega)]
  rw [if_neg h2]
  by_cases h3 : (f (40 + 2 * t) 2).toInt < x.toInt
  · rw [if_pos h3, if_neg (by omega)]
  rw [if_neg h3]
  have e : (f (40 + 2 * t) 2 - x).toInt = (f (40 + 2 * t) 2).toInt - x.toInt := bn_subI (by omega) (by omega)
  rw [e]
  by_cases h4 : (f (40 + 2 * t) 2).toInt - x.toInt < n.toInt
  · rw [if_pos h4, if_neg (by omega)]
  · rw [if_neg h4, if_pos (by omega)]
theorem bX_keep (d w : Int32) (f : sg_F) (L : sg_L) : sX11_keep d w f L = if 0 ≤ d.toInt ∧ d.toInt ≤ 5 ∧ -1 ≤ w.toInt ∧ w.toInt < (f 36 2).toInt then (1, shD f d.toNatClampNeg w) else (-1, f) := by
  unfold sX11_keep; (repeat first | rw [spl_d] | rw [spl2_d])
  rw [pX_isShelf]
  by_cases h : 0 ≤ d.toInt ∧ d.toInt ≤ 5
  case neg => rw [if_neg h, if_neg zk0, if_neg (by omega)]
  rw [if_pos h, if_pos rfl]
  by_cases h1 : w.toInt < -1
  · rw [if_pos h1, if_neg (by omega)]
  rw [if_neg h1]
  by_cases h2 : w.toInt < (f 36 2).toInt
  case neg => rw [if_neg h2, if_neg (by omega)]
  rw [if_pos h2, if_pos (by omega)]
  unfold sX7_takesDesk shD; (repeat first | rw [spl_d] | rw [spl2_d])
  by_cases h3 : w.toInt < 0
  · rw [if_pos h3, if_pos h3, sg_upup, sg_up_s]
  · rw [if_neg h3, if_neg h3, sg_upup, sg_up_s]
theorem bM_keep (d w : Int32) (f : sg_F) (L : sg_L) (hb : 0 ≤ (f 0 45).toInt ∧ (f 0 45).toInt ≤ 50) : sX12_keep d w f L = if 0 ≤ d.toInt ∧ d.toInt ≤ 5 ∧ -1 ≤ w.toInt ∧ w.toInt < (f 0 45).toInt then (1, sg_up (sg_up f 22 (sgu (f 22) d.toNatClampNeg w)) 23 (sgu (f 23) d.toNatClampNeg 0)) else (-1, f) := by
  unfold sX12_keep; (repeat first | rw [spl_d] | rw [spl2_d])
  rw [pM_isShelf, pM_isBody _ _ _ hb]
  have e : sX12_keep_b22 d w f L = (1, sg_up (sg_up f 22 (sgu (f 22) d.toNatClampNeg w)) 23 (sgu (f 23) d.toNatClampNeg 0)) := by
    unfold sX12_keep_b22; (repeat first | rw [spl_d] | rw [spl2_d])
    rw [sg_up_n (by decide)]
  rw [e]
  by_cases h : 0 ≤ d.toInt ∧ d.toInt ≤ 5
  case neg => rw [if_neg h, if_neg zk0, if_neg (by omega)]
  rw [if_pos h, if_pos rfl]
  by_cases h1 : w.toInt = -1
  · rw [if_pos h1, if_pos (by omega)]
  rw [if_neg h1]
  by_cases h2 : 0 ≤ w.toInt ∧ w.toInt < (f 0 45).toInt
  · rw [if_pos h2, if_pos rfl, if_pos (by omega)]
  · rw [if_neg h2, if_neg zk0, if_neg (by omega)]
/-- what a row of nothing leaves, from a on, up to b -/
def zfill (g : Nat → Int64) (a b : Nat) : Nat → Int64 := fun j => if a ≤ j ∧ j < b then 0 else g j
theorem zfill_s {g : Nat → Int64} {a b : Nat} (h : a ≤ b) : sgu (zfill g a b) b 0 = zfill g a (b + 1) := by
  funext j
  by_cases z : j = b
  · rw [z, sgu_s]; unfold zfill; rw [if_pos ⟨h, by omega⟩]
  · rw [sgu_n z]; unfold zfill
    by_cases q : a ≤ j ∧ j < b
    · rw [if_pos q, if_pos ⟨q.1, by omega⟩]
    · rw [if_neg q, if_neg (fun w => q ⟨w.1, by omega⟩)]
theorem zfill_0 {g : Nat → Int64} {a : Nat} : zfill g a a = g := by
  funext j; unfold zfill; rw [if_neg (by omega)]
theorem cl_inc {x : Int32} (h : 0 ≤ x.toInt) (h1 : x.toInt < 2000000000) : (x + 1).toInt = x.toInt + 1 ∧ (x + 1).toNatClampNeg = x.toNatClampNeg + 1 := by
  have k1 : (1 : Int32).toInt = 1 := by decide
  have e : (x + 1).toInt = x.toInt + 1 := (bn_addI (by omega) (by omega)).trans (by omega)
  have a := bn_clI h
  have b := bn_clI (x := x + 1) (by omega)
  exact ⟨e, by omega⟩
theorem bX_rowl (s n : Int32) (t : Nat) (f : sg_F) (L : sg_L) (hn : n.toInt ≤ 60) (hf : (f (40 + 2 * t) 2) = n) : ∀ (m : Nat) (y : Int32), 0 ≤ y.toInt → y.toInt ≤ n.toInt → n.toInt - y.toInt < (m : Int) → ∀ a : Nat, a ≤ y.toNatClampNeg → sX7_takesRow_l12 s n t m y f (sg_up L (41 + 2 * t) (zfill (L (41 + 2 * t)) a y.toNatClampNeg)) = (f, sg_up L (41 + 2 * t) (zfill (L (41 + 2 * t)) a n.toNatClampNeg)) := by
  intro m
  induction m with
  | zero => intro y h0 h1 h2; exact absurd h2 (by omega)
  | succ m ih =>
    intro y h0 h1 h2 a ha
    show sX7_takesRow_h12 s n t (sX7_takesRow_l12 s n t m) y f _ = _
    unfold sX7_takesRow_h12; (repeat first | rw [spl_d] | rw [spl2_d])
    have e0 := bn_clI h0
    by_cases c : y.toInt < n.toInt
    · obtain ⟨e1, e2⟩ := cl_inc h0 (by omega)
      rw [if_pos c, sg_up_s, sg_upup, zfill_s ha, ← e2]
      exact ih (y + 1) (by omega) (by omega) (by omega) a (by omega)
    · rw [if_neg c, show y.toNatClampNeg = n.toNatClampNeg from by have := bn_clI (x := n) (by omega); omega]
theorem bX_row (d s n : Int32) (f : sg_F) (L : sg_L) : (0 ≤ d.toInt ∧ d.toInt ≤ 5 ∧ 0 ≤ s.toInt ∧ s.toInt ≤ 4 ∧ 0 ≤ n.toInt ∧ n.toInt ≤ 60 ∧ sX11_row d s n f L = (1, shR f d.toNatClampNeg s n, sg_up L (41 + 2 * d.toNatClampNeg) (zfill (L (41 + 2 * d.toNatClampNeg)) 0 n.toNatClampNeg))) ∨ (¬ (0 ≤ d.toInt ∧ d.toInt ≤ 5 ∧ 0 ≤ s.toInt ∧ s.toInt ≤ 4 ∧ 0 ≤ n.toInt ∧ n.toInt ≤ 60) ∧ ∃ r : Int32, sX11_row d s n f L = (r, f, L)) := by
  unfold sX11_row; (repeat first | rw [spl_d] | rw [spl2_d])
  rw [pX_isShelf]
  by_cases h : 0 ≤ d.toInt ∧ d.toInt ≤ 5
  case neg => rw [if_neg h, if_neg zk0]; exact Or.inr ⟨by omega, _, rfl⟩
  rw [if_pos h, if_pos rfl]
  by_cases h1 : s.toInt < 0
  · rw [if_pos h1]; exact Or.inr ⟨by omega, _, rfl⟩
  rw [if_neg h1]
  by_cases h2 : 4 < s.toInt
  · rw [if_pos h2]; exact Or.inr ⟨by omega, _, rfl⟩
  rw [if_neg h2]
  by_cases h3 : 60 < n.toInt
  · rw [if_pos h3]; exact Or.inr ⟨by omega, _, rfl⟩
  rw [if_neg h3]
  by_cases h4 : n.toInt < 0
  · rw [if_pos h4]; exact Or.inr ⟨by omega, _, rfl⟩
  rw [if_neg h4]
  refine Or.inl ⟨h.1, h.2, by omega, by omega, by omega, by omega, ?_⟩
  have e : sX7_takesRow s n d.toNatClampNeg f L = (shR f d.toNatClampNeg s n, sg_up L (41 + 2 * d.toNatClampNeg) (zfill (L (41 + 2 * d.toNatClampNeg)) 0 n.toNatClampNeg)) := by
    unfold sX7_takesRow; (repeat first | rw [spl_d] | rw [spl2_d])
    have ef : sg_up (sg_up f (40 + 2 * d.toNatClampNeg) (sgu (f (40 + 2 * d.toNatClampNeg)) 1 s)) (40 + 2 * d.toNatClampNeg) (sgu (sg_up f (40 + 2 * d.toNatClampNeg) (sgu (f (40 + 2 * d.toNatClampNeg)) 1 s) (40 + 2 * d.toNatClampNeg)) 2 n) = shR f d.toNatClampNeg s n := by
      unfold shR
      rw [sg_upup, sg_up_s]
    rw [ef]
    have z := bX_rowl s n d.toNatClampNeg (shR f d.toNatClampNeg s n) L (by omega) shR_s2 61 0 (by decide) (by show (0 : Int32).toInt ≤ _; have : (0 : Int32).toInt = 0 := (by decide); omega) (by have : (0 : Int32).toInt = 0 := (by decide); omega) 0 (Nat.zero_le _)
    rw [show (0 : Int32).toNatClampNeg = 0 from by decide, zfill_0, sg_up_id] at z
    exact z
  rw [e]
theorem bM_rowl (d s n : Int32) (f : sg_F) (L : sg_L) (hd : 0 ≤ d.toInt ∧ d.toInt ≤ 5) : ∀ (m : Nat) (y : Int32), 60 * d.toInt ≤ y.toInt → y.toInt ≤ 60 * d.toInt + 60 → 60 * d.toInt + 60 - y.toInt < (m : Int) → sX12_row_l57 d s n m y f (sg_up L 24 (zfill (L 24) (60 * d.toNatClampNeg) y.toNatClampNeg)) = (1, f, sg_up L 24 (zfill (L 24) (60 * d.toNatClampNeg) (60 * d.toNatClampNeg + 60))) := by
  have k60 : (60 : Int32).toInt = 60 := by decide
  have em : (60 * d).toInt = 60 * d.toInt := bn_mulJ k60 (by omega) (by omega)
  have ea : (60 * d + 60).toInt = 60 * d.toInt + 60 := (bn_addI (by omega) (by omega)).trans (by omega)
  have ed := bn_clI hd.1
  intro m
  induction m with
  | zero => intro y h0 h1 h2; exact absurd h2 (by omega)
  | succ m ih =>
    intro y h0 h1 h2
    show sX12_row_h57 d s n (sX12_row_l57 d s n m) y f _ = _
    unfold sX12_row_h57; (repeat first | rw [spl_d] | rw [spl2_d])
    rw [ea]
    have e0 := bn_clI (x := y) (by omega)
    by_cases c : y.toInt < 60 * d.toInt + 60
    · obtain ⟨e1, e2⟩ := cl_inc (x := y) (by omega) (by omega)
      rw [if_pos c, sg_up_s, sg_upup, zfill_s (by omega), ← e2]
      exact ih (y + 1) (by omega) (by omega) (by omega)
    · rw [if_neg c, show y.toNatClampNeg = 60 * d.toNatClampNeg + 60 from by omega]
theorem bM_row (d s n : Int32) (f : sg_F) (L : sg_L) : (0 ≤ d.toInt ∧ d.toInt ≤ 5 ∧ 0 ≤ s.toInt ∧ s.toInt ≤ 4 ∧ 0 ≤ n.toInt ∧ n.toInt ≤ 60 ∧ sX12_row d s n f L = (1, sg_up (sg_up f 22 (sgu (f 22) d.toNatClampNeg (50 + s))) 23 (sgu (f 23) d.toNatClampNeg n), sg_up L 24 (zfill (L 24) (60 * d.toNatClampNeg) (60 * d.toNatClampNeg + 60)))) ∨ (¬ (0 ≤ d.toInt ∧ d.toInt ≤ 5 ∧ 0 ≤ s.toInt ∧ s.toInt ≤ 4 ∧ 0 ≤ n.toInt ∧ n.toInt ≤ 60) ∧ ∃ r : Int32, sX12_row d s n f L = (r, f, L)) := by
  have k0 : (0 : Int64).toInt = 0 := by decide
  have k4 : (4 : Int64).toInt = 4 := by decide
  have e := Int32.toInt_toInt64 s
  unfold sX12_row; (repeat first | rw [spl_d] | rw [spl2_d])
  rw [pM_isShelf, pM_within, k0, k4, e]
  by_cases h : 0 ≤ d.toInt ∧ d.toInt ≤ 5
  case neg => rw [if_neg h, if_neg zk0]; exact Or.inr ⟨by omega, _, rfl⟩
  rw [if_pos h, if_pos rfl]
  by_cases h1 : 0 ≤ s.toInt ∧ s.toInt ≤ 4
  case neg => rw [if_neg h1, if_neg zk0]; exact Or.inr ⟨by omega, _, rfl⟩
  rw [if_pos h1, if_pos rfl]
  by_cases h3 : 60 < n.toInt
  · rw [if_pos h3]; exact Or.inr ⟨by omega, _, rfl⟩
  rw [if_neg h3]
  by_cases h4 : n.toInt < 0
  · rw [if_pos h4]; exact Or.inr ⟨by omega, _, rfl⟩
  rw [if_neg h4]
  refine Or.inl ⟨h.1, h.2, h1.1, h1.2, by omega, by omega, ?_⟩
  have k60 : (60 : Int32).toInt = 60 := by decide
  have em : (60 * d).toInt = 60 * d.toInt := bn_mulJ k60 (by omega) (by omega)
  have ed := bn_clI h.1
  have ey := bn_clI (x := 60 * d) (by omega)
  rw [sg_up_n (show 23 ≠ 22 by decide)]
  have z := bM_rowl d s n (sg_up (sg_up f 22 (sgu (f 22) d.toNatClampNeg (50 + s))) 23 (sgu (f 23) d.toNatClampNeg n)) L h 361 (60 * d) (by omega) (by omega) (by omega)
  rw [show (60 * d).toNatClampNeg = 60 * d.toNatClampNeg from by omega, zfill_0, sg_up_id] at z
  exact z
theorem rShelf.crow {fX fX1 fM fM1 : sg_F} {LX LM LX1 LM1 : sg_L} {d s n r1 r2 : Int32} (h : rShelf fX fM) (he : rEl fX LX LM) (hb : ∀ t : Nat, t < 6 → (fX (40 + 2 * t) 2).toInt ≤ 60) (e1 : (r1, fX1, LX1) = sX11_row d s n fX LX) (e2 : (r2, fM1, LM1) = sX12_row d s n fM LM) : rShelf fX1 fM1 ∧ rEl fX1 LX1 LM1 := by
  have h1 := bX_row d s n fX LX
  have h2 := bM_row d s n fM LM
  rw [← e1] at h1
  rw [← e2] at h2
  rcases h1 with ⟨q1, q2, q3, q4, q5, q6, q⟩ | ⟨q, r, g⟩
  · rcases h2 with ⟨-, -, -, -, -, -, g⟩ | ⟨g, -⟩
    · obtain ⟨-, a⟩ := Prod.mk.inj q
      obtain ⟨a, b⟩ := Prod.mk.inj a
      obtain ⟨-, c⟩ := Prod.mk.inj g
      obtain ⟨c, d9⟩ := Prod.mk.inj c
      have q := (⟨q1, q2, q3, q4, q5, q6⟩ : 0 ≤ d.toInt ∧ d.toInt ≤ 5 ∧ 0 ≤ s.toInt ∧ s.toInt ≤ 4 ∧ 0 ≤ n.toInt ∧ n.toInt ≤ 60)
      refine ⟨h.row (d := d) (s := s) (n := n) (by rw [if_pos q]; exact a) (by rw [if_pos q]; exact c), ?_⟩
      refine he.row (d := d) (s := s) (n := n) hb (by rw [if_pos q]; exact a) (Or.inr ⟨q, fun k hk => by rw [b, sg_up_n hk], fun i hi => ?_⟩) (Or.inr ⟨q, fun j => ?_⟩)
      · rw [b, sg_up_s]; unfold zfill; rw [if_pos ⟨Nat.zero_le _, by have := bn_clI (x := n) (by omega); omega⟩]
      · rw [d9, sg_up_s]; unfold zfill
        have ed := bn_clI (x := d) (by omega)
        by_cases z : 60 * d.toInt ≤ (j : Int) ∧ (j : Int) < 60 * d.toInt + 60
        · rw [if_pos z, if_pos (by omega)]
        · rw [if_neg z, if_neg (by omega)]
    · exact absurd ⟨q1, q2, q3, q4, q5, q6⟩ g
  · rcases h2 with ⟨g1, g2, g3, g4, g5, g6, -⟩ | ⟨-, r9, g9⟩
    · exact absurd ⟨g1, g2, g3, g4, g5, g6⟩ q
    · obtain ⟨-, a⟩ := Prod.mk.inj g
      obtain ⟨a, b⟩ := Prod.mk.inj a
      obtain ⟨-, c⟩ := Prod.mk.inj g9
      obtain ⟨c, d9⟩ := Prod.mk.inj c
      rw [a, b, c, d9]
      exact ⟨h, he⟩
theorem rShelf.ckeep {fX fX1 fM fM1 : sg_F} {LX LM : sg_L} {d w r1 r2 : Int32} (h : rShelf fX fM) (hd : rDesk fX fM) (he : rEl fX LX LM) (hp : 0 ≤ (fX 36 2).toInt ∧ (fX 36 2).toInt ≤ 50) (e1 : (r1, fX1) = sX11_keep d w fX LX) (e2 : (r2, fM1) = sX12_keep d w fM LM) : r1 = r2 ∧ rShelf fX1 fM1 ∧ rEl fX1 LX LM := by
  have h1 := hd.1
  rw [bX_keep] at e1
  rw [bM_keep _ _ _ _ (by omega), ← h1] at e2
  by_cases q : 0 ≤ d.toInt ∧ d.toInt ≤ 5 ∧ -1 ≤ w.toInt ∧ w.toInt < (fX 36 2).toInt
  · rw [if_pos q] at e1 e2
    obtain ⟨a, b⟩ := Prod.mk.inj e1
    obtain ⟨c, d9⟩ := Prod.mk.inj e2
    exact ⟨by rw [a, c], h.keep (d := d) (w := w) hd (by rw [if_pos q]; exact b) (by rw [← h1, if_pos q]; exact d9), he.keep (d := d) (w := w) (by rw [if_pos q]; exact b)⟩
  · rw [if_neg q] at e1 e2
    obtain ⟨a, b⟩ := Prod.mk.inj e1
    obtain ⟨c, d9⟩ := Prod.mk.inj e2
    rw [a, b, c, d9]
    exact ⟨rfl, h, he⟩
theorem rfX_at (d i : Int32) (f : sg_F) (L : sg_L) (hs : ∀ t : Nat, t < 6 → -2 ≤ (f (40 + 2 * t) 1).toInt ∧ (f (40 + 2 * t) 1).toInt ≤ 4) (hb : ∀ t : Nat, t < 6 → 0 ≤ (f (40 + 2 * t) 2).toInt ∧ (f (40 + 2 * t) 2).toInt ≤ 60) : rfX f d i 0 (sX11_refusalAt d i f L) := by
  have k0 : (0 : Int32).toInt = 0 := by decide
  have k1 : (1 : Int32).toInt = 1 := by decide
  have k2 : (-1 : Int32).toInt = -1 := by decide
  have k3 : (-11 : Int32).toInt = -11 := by decide
  have k4 : (-12 : Int32).toInt = -12 := by decide
  have k5 : (-13 : Int32).toInt = -13 := by decide
  unfold sX11_refusalAt sX7_isRow rfX; (repeat first | rw [spl_d] | rw [spl2_d])
  rw [pX_isShelf]
  by_cases h : 0 ≤ d.toInt ∧ d.toInt ≤ 5
  case neg => rw [if_neg h, if_neg zk0]; omega
  have ed := bn_clI h.1
  have s9 := hs d.toNatClampNeg (by omega)
  rw [pX_hasPlaces _ _ _ _ _ (hb d.toNatClampNeg (by omega)), if_pos h, if_pos rfl]
  by_cases h1 : (f (40 + 2 * d.toNatClampNeg) 1).toInt = -1
  · rw [if_pos h1]; omega
  rw [if_neg h1]
  by_cases h2 : (f (40 + 2 * d.toNatClampNeg) 1).toInt < 0
  · rw [if_pos h2, if_pos k0]; omega
  rw [if_neg h2, if_neg (by rw [k1]; decide)]
  by_cases h3 : 0 ≤ i.toInt ∧ 0 ≤ (1 : Int32).toInt ∧ i.toInt + (1 : Int32).toInt ≤ (f (40 + 2 * d.toNatClampNeg) 2).toInt
  · rw [if_pos h3, if_pos rfl]; omega
  · rw [if_neg h3, if_neg zk0]; omega
theorem rfM_at (d i : Int32) (f : sg_F) (L : sg_L) : rfM f d i 0 (sX12_refusal d i f L) := by
  have k0 : (0 : Int32).toInt = 0 := by decide
  have k2 : (-1 : Int32).toInt = -1 := by decide
  have k3 : (-11 : Int32).toInt = -11 := by decide
  have k4 : (-12 : Int32).toInt = -12 := by decide
  have k5 : (-13 : Int32).toInt = -13 := by decide
  unfold sX12_refusal rfM; (repeat first | rw [spl_d] | rw [spl2_d])
  rw [pM_isShelf]
  by_cases h : 0 ≤ d.toInt ∧ d.toInt ≤ 5
  case neg => rw [if_neg h, if_neg zk0]; omega
  rw [if_pos h, if_pos rfl]
  by_cases h1 : (f 22 d.toNatClampNeg).toInt < 0
  · rw [if_pos h1]; omega
  rw [if_neg h1]
  by_cases h2 : (f 22 d.toNatClampNeg).toInt < 50
  · rw [if_pos h2]; omega
  rw [if_neg h2]
  by_cases h3 : i.toInt < 0
  · rw [if_pos h3]; omega
  rw [if_neg h3]
  by_cases h4 : i.toInt < (f 23 d.toNatClampNeg).toInt
  · rw [if_pos h4]; omega
  · rw [if_neg h4]; omega
theorem okX_iff {f : sg_F} {d i r : Int32} (h : rfX f d i 0 r) : okX f d i ↔ r = 0 := by
  have k0 : (0 : Int32).toInt = 0 := by decide
  constructor
  · intro q
    refine Int32.toInt_inj.mp ?_
    unfold rfX at h; unfold okX at q
    omega
  · intro q
    rw [q, rfX, k0] at h
    unfold okX
    omega
theorem okM_iff {f : sg_F} {d i r : Int32} (h : rfM f d i 0 r) : okM f d i ↔ r = 0 := by
  have k0 : (0 : Int32).toInt = 0 := by decide
  constructor
  · intro q
    refine Int32.toInt_inj.mp ?_
    unfold rfM at h; unfold okM at q
    omega
  · intro q
    rw [q, rfM, k0] at h
    unfold okM
    omega
theorem lcmp0 (x : Int64) : ((lg_cmp x 0).toInt = 0) ↔ x.toInt = 0 := by
  have z := bn_lcmpI x 0
  have k : (0 : Int64).toInt = 0 := by decide
  omega
theorem bX_cut (v : Int64) (t : Nat) (f : sg_F) (L : sg_L) : sX7_cut v t f L = cutF (f (40 + 2 * t) 1).toInt v := by
  unfold sX7_cut cutF; (repeat first | rw [spl_d] | rw [spl2_d])
  by_cases h0 : (f (40 + 2 * t) 1).toInt = 0
  · rw [if_pos h0, if_pos h0]
  rw [if_neg h0, if_neg h0]
  by_cases h1 : (f (40 + 2 * t) 1).toInt = 1
  · rw [if_pos h1, if_pos h1]
  rw [if_neg h1, if_neg h1]
  by_cases h2 : (f (40 + 2 * t) 1).toInt = 2
  · rw [if_pos h2, if_pos h2]
  rw [if_neg h2, if_neg h2]
  by_cases h4 : (f (40 + 2 * t) 1).toInt = 4
  · rw [if_pos h4, if_pos h4]
    by_cases z : v.toInt = 0
    · rw [if_pos ((lcmp0 v).mpr z), if_pos z]
    · rw [if_neg (fun q => z ((lcmp0 v).mp q)), if_neg z]
  rw [if_neg h4, if_neg h4]
  by_cases h3 : (f (40 + 2 * t) 1).toInt = 3
  · rw [if_pos h3]
  · rw [if_neg h3]
theorem bM_cut (s : Int32) (v : Int64) (f : sg_F) (L : sg_L) : sX12_asSort s v f L = cutF s.toInt v := by
  unfold sX12_asSort cutF; (repeat first | rw [spl_d] | rw [spl2_d])
  by_cases h0 : s.toInt = 0
  · rw [if_pos h0, if_pos h0]
  rw [if_neg h0, if_neg h0]
  by_cases h1 : s.toInt = 1
  · rw [if_pos h1, if_pos h1]
  rw [if_neg h1, if_neg h1]
  by_cases h2 : s.toInt = 2
  · rw [if_pos h2, if_pos h2]
  rw [if_neg h2, if_neg h2]
  by_cases h4 : s.toInt = 4
  · rw [if_pos h4, if_pos h4]
    by_cases z : v.toInt = 0
    · rw [if_pos ((lcmp0 v).mpr z), if_pos z]
    · rw [if_neg (fun q => z ((lcmp0 v).mp q)), if_neg z]
  rw [if_neg h4, if_neg h4]
/-- bounds of shelves, out of the bounds of all -/
theorem shB {f : sg_F} (hI : sgI loX hiX f) : (∀ t : Nat, t < 6 → -2 ≤ (f (40 + 2 * t) 1).toInt ∧ (f (40 + 2 * t) 1).toInt ≤ 4) ∧ ∀ t : Nat, t < 6 → 0 ≤ (f (40 + 2 * t) 2).toInt ∧ (f (40 + 2 * t) 2).toInt ≤ 60 := ⟨fun _ ht => shb_1 hI ht, fun _ ht => shb_2 hI ht⟩
theorem rShelf.cput {fX fM : sg_F} {LX LM LX1 LM1 : sg_L} {d i r1 r2 : Int32} {v : Int64} (h : rShelf fX fM) (he : rEl fX LX LM) (hI : sgI loX hiX fX) (h9 : (fX 36 2).toInt ≤ 50) (e1 : (r1, LX1) = sX11_put d i v fX LX) (e2 : (r2, LM1) = sX12_put d i v fM LM) : r1 = r2 ∧ rEl fX LX1 LM1 := by
  obtain ⟨hs, hb⟩ := shB hI
  have a1 := rfX_at d i fX LX hs hb
  have a2 := rfM_at d i fM LM
  have hr := h.put (fun _ _ => h9) a1 a2
  have o1 := okX_iff a1
  have o2 := okM_iff a2
  unfold sX11_put at e1; (repeat first | rw [spl_d] at e1 | rw [spl2_d] at e1)
  unfold sX12_put at e2; (repeat first | rw [spl_d] at e2 | rw [spl2_d] at e2)
  rw [bX_cut] at e1
  rw [bM_cut] at e2
  by_cases q : sX11_refusalAt d i fX LX = 0
  · rw [if_pos q] at e1
    rw [if_pos (by rw [← hr]; exact q)] at e2
    have qx := o1.mpr q
    have qm := o2.mpr (by rw [← hr]; exact q)
    have e2 : (r2, LM1) = _ := e2
    unfold sX12_put_b37 at e2
    rw [if_pos (by decide)] at e2
    obtain ⟨a, b⟩ := Prod.mk.inj e1
    obtain ⟨c, g⟩ := Prod.mk.inj e2
    refine ⟨by rw [a, c], he.put (d := d) (i := i) (v := v) h (fun t ht => (hb t ht).2) h9 (Or.inr ⟨qx, b⟩) (Or.inr ⟨qm, ?_⟩)⟩
    unfold okM at qm
    have k50 : (50 : Int32).toInt = 50 := by decide
    have k60 : (60 : Int32).toInt = 60 := by decide
    have em : (60 * d).toInt = 60 * d.toInt := bn_mulJ k60 (by omega) (by omega)
    have hq := h.at qm.1.1 qm.1.2
    have bl := hb d.toNatClampNeg (by have := bn_clI qm.1.1; omega)
    have ea : (60 * d + i).toInt = 60 * d.toInt + i.toInt := (bn_addI (by omega) (by omega)).trans (by omega)
    have es : (fM 22 d.toNatClampNeg - 50).toInt = (fM 22 d.toNatClampNeg).toInt - 50 := (bn_subI (by omega) (by omega)).trans (by omega)
    have c1 := bn_clI qm.1.1
    have c2 := bn_clI qm.2.2.1
    have c3 := bn_clI (x := 60 * d + i) (by omega)
    rw [g, es, show (60 * d + i).toNatClampNeg = 60 * d.toNatClampNeg + i.toNatClampNeg from by omega]
  · rw [if_neg q] at e1
    rw [if_neg (by rw [← hr]; exact q)] at e2
    unfold sX12_put_b37 at e2
    obtain ⟨a, b⟩ := Prod.mk.inj e1
    rw [if_neg (fun z => q (by rw [hr]; exact Int32.toInt_inj.mp (z.trans (by decide))))] at e2
    obtain ⟨c, g⟩ := Prod.mk.inj e2
    rw [a, b, c, g]
    exact ⟨hr, he⟩
theorem rShelf.celement {fX fM : sg_F} {LX LM : sg_L} {d i : Int32} {r1 r2 : Int64} (h : rShelf fX fM) (he : rEl fX LX LM) (hI : sgI loX hiX fX) (h9 : (fX 36 2).toInt ≤ 50) (e1 : r1 = sX11_element d i fX LX) (e2 : r2 = sX12_element d i fM LM) : r1 = r2 := by
  obtain ⟨hs, hb⟩ := shB hI
  have a1 := rfX_at d i fX LX hs hb
  have a2 := rfM_at d i fM LM
  have hr := h.put (fun _ _ => h9) a1 a2
  have o1 := okX_iff a1
  have o2 := okM_iff a2
  unfold sX11_element at e1; (repeat first | rw [spl_d] at e1 | rw [spl2_d] at e1)
  unfold sX12_element at e2; (repeat first | rw [spl_d] at e2 | rw [spl2_d] at e2)
  by_cases q : sX11_refusalAt d i fX LX = 0
  · rw [if_pos q] at e1
    rw [if_pos (by rw [← hr]; exact q)] at e2
    have qx := o1.mpr q
    have qm := o2.mpr (by rw [← hr]; exact q)
    refine he.same (d := d) (i := i) h h9 (Or.inr ⟨qx, e1⟩) (Or.inr ⟨qm, ?_⟩)
    unfold okM at qm
    have k60 : (60 : Int32).toInt = 60 := by decide
    have em : (60 * d).toInt = 60 * d.toInt := bn_mulJ k60 (by omega) (by omega)
    have hq := h.at qm.1.1 qm.1.2
    have bl := hb d.toNatClampNeg (by have := bn_clI qm.1.1; omega)
    have ea : (60 * d + i).toInt = 60 * d.toInt + i.toInt := (bn_addI (by omega) (by omega)).trans (by omega)
    have c1 := bn_clI qm.1.1
    have c2 := bn_clI qm.2.2.1
    have c3 := bn_clI (x := 60 * d + i) (by omega)
    rw [e2, show (60 * d + i).toNatClampNeg = 60 * d.toNatClampNeg + i.toNatClampNeg from by omega]
  · rw [if_neg q] at e1
    rw [if_neg (by rw [← hr]; exact q)] at e2
    rw [e1, e2]
/-! elements that are carried over -/
theorem sg_cpy1 {α : Type} {f g : Nat → α} {a b n : Nat} : sgu (va_cpy f g a b n) (b + n) (f (a + n)) = va_cpy f g a b (n + 1) := by
  funext j
  by_cases h : j = b + n
  · rw [h, sgu_s]
    unfold va_cpy
    rw [if_pos ⟨by omega, by omega⟩, show b + n - b = n from by omega]
  · rw [sgu_n h]
    unfold va_cpy
    by_cases q : b ≤ j ∧ j < b + n
    · rw [if_pos q, if_pos ⟨q.1, by omega⟩]
    · rw [if_neg q, if_neg (fun w => q ⟨w.1, by omega⟩)]
theorem sg_cpy0 {α : Type} {f g : Nat → α} {a b : Nat} : va_cpy f g a b 0 = g := by
  funext j
  unfold va_cpy
  rw [if_neg (by omega)]
theorem bM_sh2 (d i e j n : Int32) (f : sg_F) (L : sg_L) (he : 0 ≤ e.toInt ∧ e.toInt ≤ 5) (hj : 0 ≤ j.toInt) (hn : n.toInt ≤ 60) (hjn : j.toInt + n.toInt ≤ 60) (G : Nat → Int64) (c0 : Nat → Int64) (a0 : Nat) (hc : ∀ q : Nat, (q : Int) < n.toInt → L 25 q = c0 (a0 + q)) : ∀ (m : Nat) (y : Int32), 0 ≤ y.toInt → y.toInt ≤ n.toInt → n.toInt - y.toInt < (m : Int) → sX12_shift_l150 d i e j n m y f (sg_up L 24 (va_cpy c0 G a0 (60 * e.toNatClampNeg + j.toNatClampNeg) y.toNatClampNeg)) = (n, sg_up L 24 (va_cpy c0 G a0 (60 * e.toNatClampNeg + j.toNatClampNeg) n.toNatClampNeg)) := by
  have k60 : (60 : Int32).toInt = 60 := by decide
  have em : (60 * e).toInt = 60 * e.toInt := bn_mulJ k60 (by omega) (by omega)
  have c1 := bn_clI he.1
  have c2 := bn_clI hj
  intro m
  induction m with
  | zero => intro y h0 h1 h2; exact absurd h2 (by omega)
  | succ m ih =>
    intro y h0 h1 h2
    show sX12_shift_h150 d i e j n (sX12_shift_l150 d i e j n m) y f _ = _
    unfold sX12_shift_h150; (repeat first | rw [spl_d] | rw [spl2_d])
    have e0 := bn_clI h0
    by_cases c : y.toInt < n.toInt
    · obtain ⟨e1, e2⟩ := cl_inc h0 (by omega)
      have ea : (60 * e + j).toInt = 60 * e.toInt + j.toInt := (bn_addI (by omega) (by omega)).trans (by omega)
      have eb : (60 * e + j + y).toInt = 60 * e.toInt + j.toInt + y.toInt := (bn_addI (by omega) (by omega)).trans (by omega)
      have ec := bn_clI (x := 60 * e + j + y) (by omega)
      rw [if_pos c, sg_up_s, sg_upup, show (60 * e + j + y).toNatClampNeg = 60 * e.toNatClampNeg + j.toNatClampNeg + y.toNatClampNeg from by omega, sg_up_n (show 25 ≠ 24 by decide), hc y.toNatClampNeg (by omega), sg_cpy1, ← e2]
      exact ih (y + 1) (by omega) (by omega) (by omega)
    · rw [if_neg c, show y.toNatClampNeg = n.toNatClampNeg from by have := bn_clI (x := n) (by omega); omega]
theorem bM_sh1 (d i e j n : Int32) (f : sg_F) (L : sg_L) (hd : 0 ≤ d.toInt ∧ d.toInt ≤ 5) (hi : 0 ≤ i.toInt) (he : 0 ≤ e.toInt ∧ e.toInt ≤ 5) (hj : 0 ≤ j.toInt) (hn : 0 ≤ n.toInt ∧ n.toInt ≤ 60) (hin : i.toInt + n.toInt ≤ 60) (hjn : j.toInt + n.toInt ≤ 60) : ∀ (m : Nat) (y : Int32), 0 ≤ y.toInt → y.toInt ≤ n.toInt → n.toInt - y.toInt < (m : Int) → ∃ L1 : sg_L, sX12_shift_l113 d i e j n m y f (sg_up L 25 (va_cpy (L 24) (L 25) (60 * d.toNatClampNeg + i.toNatClampNeg) 0 y.toNatClampNeg)) = (n, L1) ∧ L1 24 = va_cpy (L 24) (L 24) (60 * d.toNatClampNeg + i.toNatClampNeg) (60 * e.toNatClampNeg + j.toNatClampNeg) n.toNatClampNeg := by
  have k60 : (60 : Int32).toInt = 60 := by decide
  have k0 : (0 : Int32).toInt = 0 := by decide
  have em : (60 * d).toInt = 60 * d.toInt := bn_mulJ k60 (by omega) (by omega)
  have c1 := bn_clI hd.1
  have c2 := bn_clI hi
  intro m
  induction m with
  | zero => intro y h0 h1 h2; exact absurd h2 (by omega)
  | succ m ih =>
    intro y h0 h1 h2
    have hg : sX12_shift_l113 d i e j n (m + 1) y f (sg_up L 25 (va_cpy (L 24) (L 25) (60 * d.toNatClampNeg + i.toNatClampNeg) 0 y.toNatClampNeg)) = sX12_shift_h113 d i e j n (sX12_shift_l113 d i e j n m) y f (sg_up L 25 (va_cpy (L 24) (L 25) (60 * d.toNatClampNeg + i.toNatClampNeg) 0 y.toNatClampNeg)) := rfl
    rw [hg]
    unfold sX12_shift_h113; (repeat first | rw [spl_d] | rw [spl2_d])
    have e0 := bn_clI h0
    by_cases c : y.toInt < n.toInt
    · obtain ⟨e1, e2⟩ := cl_inc h0 (by omega)
      have ea : (60 * d + i).toInt = 60 * d.toInt + i.toInt := (bn_addI (by omega) (by omega)).trans (by omega)
      have eb : (60 * d + i + y).toInt = 60 * d.toInt + i.toInt + y.toInt := (bn_addI (by omega) (by omega)).trans (by omega)
      have ec := bn_clI (x := 60 * d + i + y) (by omega)
      have z := sg_cpy1 (f := L 24) (g := L 25) (a := 60 * d.toNatClampNeg + i.toNatClampNeg) (b := 0) (n := y.toNatClampNeg)
      rw [Nat.zero_add] at z
      rw [if_pos c, sg_up_s, sg_upup, show (60 * d + i + y).toNatClampNeg = 60 * d.toNatClampNeg + i.toNatClampNeg + y.toNatClampNeg from by omega, sg_up_n (show 24 ≠ 25 by decide), z, ← e2]
      exact ih (y + 1) (by omega) (by omega) (by omega)
    · have en := bn_clI hn.1
      rw [if_neg c, show y.toNatClampNeg = n.toNatClampNeg from by omega]
      obtain ⟨L9, e9⟩ : ∃ z : sg_L, z = sg_up L 25 (va_cpy (L 24) (L 25) (60 * d.toNatClampNeg + i.toNatClampNeg) 0 n.toNatClampNeg) := ⟨_, rfl⟩
      have q4 : L9 24 = L 24 := by rw [e9, sg_up_n (by decide)]
      have q5 : ∀ q : Nat, (q : Int) < n.toInt → L9 25 q = L 24 (60 * d.toNatClampNeg + i.toNatClampNeg + q) := by
        intro q hq
        rw [e9, sg_up_s]
        unfold va_cpy
        rw [if_pos ⟨Nat.zero_le _, by omega⟩, Nat.sub_zero]
      have w := bM_sh2 d i e j n f L9 he hj hn.2 hjn (L 24) (L 24) (60 * d.toNatClampNeg + i.toNatClampNeg) q5 61 0 (by omega) (by omega) (by omega)
      rw [show (0 : Int32).toNatClampNeg = 0 from by decide, sg_cpy0, ← q4, sg_up_id] at w
      rw [← e9, w, q4]
      exact ⟨_, rfl, sg_up_s⟩
theorem rShelf.cshift {fX fM : sg_F} {LX LM LX1 LM1 : sg_L} {d i e j n r1 r2 : Int32} (h : rShelf fX fM) (he : rEl fX LX LM) (hI : sgI loX hiX fX) (h9 : (fX 36 2).toInt ≤ 50) (hM : ∀ t : Nat, 0 ≤ (fM 23 t).toInt ∧ (fM 23 t).toInt ≤ 60) (e1 : (r1, LX1) = sX11_shift d i e j n fX LX) (e2 : (r2, LM1) = sX12_shift d i e j n fM LM) : r1 = r2 ∧ rEl fX LX1 LM1 := by
  obtain ⟨hs, hb⟩ := shB hI
  have k0 : (0 : Int32).toInt = 0 := by decide
  have k1 : (1 : Int32).toInt = 1 := by decide
  have k2 : (-1 : Int32).toInt = -1 := by decide
  have k3 : (-11 : Int32).toInt = -11 := by decide
  have k4 : (-12 : Int32).toInt = -12 := by decide
  have k5 : (-13 : Int32).toInt = -13 := by decide
  have a1 : sfX fX d i e j n r1.toInt ∧ ((r1.toInt < 0 ∧ LX1 = LX) ∨ (0 ≤ r1.toInt ∧ LX1 = sg_up LX (41 + 2 * e.toNatClampNeg) (va_cpy (LX (41 + 2 * d.toNatClampNeg)) (LX (41 + 2 * e.toNatClampNeg)) i.toNatClampNeg j.toNatClampNeg n.toNatClampNeg))) := by
    clear e2 hM
    unfold sX11_shift sX7_isRow at e1; (repeat first | rw [spl_d] at e1 | rw [spl2_d] at e1)
    rw [pX_isShelf, pX_isShelf] at e1
    unfold sfX
    by_cases q1 : 0 ≤ d.toInt ∧ d.toInt ≤ 5
    case neg => rw [if_neg q1, if_neg zk0] at e1; obtain ⟨a, b⟩ := Prod.mk.inj e1; rw [a]; exact ⟨by omega, Or.inl ⟨by omega, b⟩⟩
    by_cases q2 : 0 ≤ e.toInt ∧ e.toInt ≤ 5
    case neg => rw [if_pos q1, if_pos rfl, if_neg q2, if_neg zk0] at e1; obtain ⟨a, b⟩ := Prod.mk.inj e1; rw [a]; exact ⟨by omega, Or.inl ⟨by omega, b⟩⟩
    have ed := bn_clI q1.1
    have ee := bn_clI q2.1
    rw [pX_hasPlaces _ _ _ _ _ (hb d.toNatClampNeg (by omega)), pX_hasPlaces _ _ _ _ _ (hb e.toNatClampNeg (by omega)), if_pos q1, if_pos rfl, if_pos q2, if_pos rfl] at e1
    have s1 := hs d.toNatClampNeg (by omega)
    have s2 := hs e.toNatClampNeg (by omega)
    by_cases q3 : (fX (40 + 2 * d.toNatClampNeg) 1).toInt = -1
    · rw [if_pos q3] at e1; obtain ⟨a, b⟩ := Prod.mk.inj e1; rw [a]; exact ⟨by omega, Or.inl ⟨by omega, b⟩⟩
    rw [if_neg q3] at e1
    by_cases q4 : (fX (40 + 2 * e.toNatClampNeg) 1).toInt = -1
    · rw [if_pos q4] at e1; obtain ⟨a, b⟩ := Prod.mk.inj e1; rw [a]; exact ⟨by omega, Or.inl ⟨by omega, b⟩⟩
    rw [if_neg q4] at e1
    by_cases q5 : (fX (40 + 2 * d.toNatClampNeg) 1).toInt < 0
    · rw [if_pos q5, if_pos k0] at e1; obtain ⟨a, b⟩ := Prod.mk.inj e1; rw [a]; exact ⟨by omega, Or.inl ⟨by omega, b⟩⟩
    rw [if_neg q5, if_neg (by rw [k1]; decide)] at e1
    by_cases q6 : (fX (40 + 2 * d.toNatClampNeg) 1).toInt = (fX (40 + 2 * e.toNatClampNeg) 1).toInt
    case neg => rw [if_neg q6] at e1; obtain ⟨a, b⟩ := Prod.mk.inj e1; rw [a]; exact ⟨by omega, Or.inl ⟨by omega, b⟩⟩
    rw [if_pos q6] at e1
    by_cases q7 : 0 ≤ i.toInt ∧ 0 ≤ n.toInt ∧ i.toInt + n.toInt ≤ (fX (40 + 2 * d.toNatClampNeg) 2).toInt
    case neg => rw [if_neg q7, if_neg zk0] at e1; obtain ⟨a, b⟩ := Prod.mk.inj e1; rw [a]; exact ⟨by omega, Or.inl ⟨by omega, b⟩⟩
    rw [if_pos q7, if_pos rfl] at e1
    by_cases q8 : 0 ≤ j.toInt ∧ 0 ≤ n.toInt ∧ j.toInt + n.toInt ≤ (fX (40 + 2 * e.toNatClampNeg) 2).toInt
    case neg => rw [if_neg q8, if_neg zk0] at e1; obtain ⟨a, b⟩ := Prod.mk.inj e1; rw [a]; exact ⟨by omega, Or.inl ⟨by omega, b⟩⟩
    rw [if_pos q8, if_pos rfl] at e1
    obtain ⟨a, b⟩ := Prod.mk.inj e1
    rw [a]
    exact ⟨by omega, Or.inr ⟨by omega, b⟩⟩
  have a2 : sfM fM d i e j n r2.toInt ∧ ((r2.toInt < 0 ∧ LM1 = LM) ∨ (0 ≤ r2.toInt ∧ LM1 24 = va_cpy (LM 24) (LM 24) (60 * d.toNatClampNeg + i.toNatClampNeg) (60 * e.toNatClampNeg + j.toNatClampNeg) n.toNatClampNeg)) := by
    clear e1 a1
    unfold sX12_shift at e2; (repeat first | rw [spl_d] at e2 | rw [spl2_d] at e2)
    rw [pM_isShelf, pM_isShelf] at e2
    unfold sfM
    have b1 := hM d.toNatClampNeg
    have b2 := hM e.toNatClampNeg
    by_cases q1 : 0 ≤ d.toInt ∧ d.toInt ≤ 5
    case neg => rw [if_neg q1, if_neg zk0] at e2; obtain ⟨a, b⟩ := Prod.mk.inj e2; rw [a]; exact ⟨by omega, Or.inl ⟨by omega, b⟩⟩
    by_cases q2 : 0 ≤ e.toInt ∧ e.toInt ≤ 5
    case neg => rw [if_pos q1, if_pos rfl, if_neg q2, if_neg zk0] at e2; obtain ⟨a, b⟩ := Prod.mk.inj e2; rw [a]; exact ⟨by omega, Or.inl ⟨by omega, b⟩⟩
    rw [if_pos q1, if_pos rfl, if_pos q2, if_pos rfl] at e2
    by_cases q3 : (fM 22 d.toNatClampNeg).toInt < 0
    · rw [if_pos q3] at e2; obtain ⟨a, b⟩ := Prod.mk.inj e2; rw [a]; exact ⟨by omega, Or.inl ⟨by omega, b⟩⟩
    rw [if_neg q3] at e2
    by_cases q4 : (fM 22 e.toNatClampNeg).toInt < 0
    · rw [if_pos q4] at e2; obtain ⟨a, b⟩ := Prod.mk.inj e2; rw [a]; exact ⟨by omega, Or.inl ⟨by omega, b⟩⟩
    rw [if_neg q4] at e2
    by_cases q5 : (fM 22 d.toNatClampNeg).toInt < 50
    · rw [if_pos q5] at e2; obtain ⟨a, b⟩ := Prod.mk.inj e2; rw [a]; exact ⟨by omega, Or.inl ⟨by omega, b⟩⟩
    rw [if_neg q5] at e2
    by_cases q6 : (fM 22 d.toNatClampNeg).toInt = (fM 22 e.toNatClampNeg).toInt
    case neg => rw [if_neg q6] at e2; obtain ⟨a, b⟩ := Prod.mk.inj e2; rw [a]; exact ⟨by omega, Or.inl ⟨by omega, b⟩⟩
    rw [if_pos q6] at e2
    by_cases q7 : n.toInt < 0
    · rw [if_pos q7] at e2; obtain ⟨a, b⟩ := Prod.mk.inj e2; rw [a]; exact ⟨by omega, Or.inl ⟨by omega, b⟩⟩
    rw [if_neg q7] at e2
    by_cases q8 : i.toInt < 0
    · rw [if_pos q8] at e2; obtain ⟨a, b⟩ := Prod.mk.inj e2; rw [a]; exact ⟨by omega, Or.inl ⟨by omega, b⟩⟩
    rw [if_neg q8] at e2
    by_cases q9 : j.toInt < 0
    · rw [if_pos q9] at e2; obtain ⟨a, b⟩ := Prod.mk.inj e2; rw [a]; exact ⟨by omega, Or.inl ⟨by omega, b⟩⟩
    rw [if_neg q9] at e2
    have z1 : (fM 23 d.toNatClampNeg - n).toInt = (fM 23 d.toNatClampNeg).toInt - n.toInt := by
      have := bn_top n
      exact bn_subI (by omega) (by omega)
    have z2 : (fM 23 e.toNatClampNeg - n).toInt = (fM 23 e.toNatClampNeg).toInt - n.toInt := by
      have := bn_top n
      exact bn_subI (by omega) (by omega)
    rw [z1, z2] at e2
    by_cases q10 : (fM 23 d.toNatClampNeg).toInt - n.toInt < i.toInt
    · rw [if_pos q10] at e2; obtain ⟨a, b⟩ := Prod.mk.inj e2; rw [a]; exact ⟨by omega, Or.inl ⟨by omega, b⟩⟩
    rw [if_neg q10] at e2
    by_cases q11 : (fM 23 e.toNatClampNeg).toInt - n.toInt < j.toInt
    · rw [if_pos q11] at e2; obtain ⟨a, b⟩ := Prod.mk.inj e2; rw [a]; exact ⟨by omega, Or.inl ⟨by omega, b⟩⟩
    rw [if_neg q11] at e2
    obtain ⟨L1, g1, g2⟩ := bM_sh1 d i e j n fM LM q1 (by omega) q2 (by omega) ⟨by omega, by omega⟩ (by omega) (by omega) 61 0 (by omega) (by omega) (by omega)
    rw [show (0 : Int32).toNatClampNeg = 0 from by decide, sg_cpy0, sg_up_id] at g1
    rw [g1] at e2
    obtain ⟨a, b⟩ := Prod.mk.inj e2
    rw [a, b]
    exact ⟨by omega, Or.inr ⟨by omega, g2⟩⟩
  exact ⟨h.shift h9 a1.1 a2.1, he.shift h (fun t ht => (hb t ht).2) h9 a1.1 a2.1 a1.2 a2.2⟩
/-! what a shelf holds, taken for a kind -/
theorem zABOVE_up {y : Int32} (h : 1 ≤ y.toInt ∧ y.toInt ≤ 7) (f : sg_F) (L : sg_L) : sX12_above y f L = zABOVE y.toNatClampNeg ∧ 0 ≤ (zABOVE y.toNatClampNeg).toInt ∧ (zABOVE y.toNatClampNeg).toInt < y.toInt := by
  rcases (show y.toInt = 1 ∨ y.toInt = 2 ∨ y.toInt = 3 ∨ y.toInt = 4 ∨ y.toInt = 5 ∨ y.toInt = 6 ∨ y.toInt = 7 from by omega) with c | c | c | c | c | c | c
  · obtain rfl : y = 1 := Int32.toInt_inj.mp (c.trans (by decide))
    exact ⟨rfl, by decide, by decide⟩
  · obtain rfl : y = 2 := Int32.toInt_inj.mp (c.trans (by decide))
    exact ⟨rfl, by decide, by decide⟩
  · obtain rfl : y = 3 := Int32.toInt_inj.mp (c.trans (by decide))
    exact ⟨rfl, by decide, by decide⟩
  · obtain rfl : y = 4 := Int32.toInt_inj.mp (c.trans (by decide))
    exact ⟨rfl, by decide, by decide⟩
  · obtain rfl : y = 5 := Int32.toInt_inj.mp (c.trans (by decide))
    exact ⟨rfl, by decide, by decide⟩
  · obtain rfl : y = 6 := Int32.toInt_inj.mp (c.trans (by decide))
    exact ⟨rfl, by decide, by decide⟩
  · obtain rfl : y = 7 := Int32.toInt_inj.mp (c.trans (by decide))
    exact ⟨rfl, by decide, by decide⟩
theorem tk_b75 (d k y : Int32) (g : sg_F) (M : sg_L) : sX12_taken_b75 d k y g M = if y.toInt = k.toInt then g 20 (g 22 d.toNatClampNeg).toNatClampNeg else (-12) := by
  unfold sX12_taken_b75 sX12_kindOf; (repeat first | rw [spl_d] | rw [spl2_d])
theorem tk_two (a k d : Int32) (f g : sg_F) (L M : sg_L) (e : f 37 a.toNatClampNeg = g 20 (g 22 d.toNatClampNeg).toNatClampNeg) : ∀ (n m : Nat) (y c : Int32), 0 ≤ y.toInt → y.toInt ≤ 7 → y.toInt < (n : Int) → 0 ≤ c.toInt → c.toInt + y.toInt ≤ 7 → 8 - c.toInt < (m : Int) → sX3_takenFor_l10 a k m y c f L = sX12_taken_l58 d k n y g M := by
  intro n
  induction n with
  | zero => intro m y c h0 h7 h1; exact absurd h1 (by omega)
  | succ n ih =>
    intro m y c h0 h7 h1 h2 h3 h4
    match m, h4 with
    | 0, h4 => exact absurd h4 (by omega)
    | m + 1, h4 =>
      show sX3_takenFor_h10 a k (sX3_takenFor_l10 a k m) y c f L = sX12_taken_h58 d k (sX12_taken_l58 d k n) y g M
      unfold sX3_takenFor_h10 sX12_taken_h58; (repeat first | rw [spl_d] | rw [spl2_d])
      rw [tk_b75, if_pos (show c.toInt < 8 from by omega), if_neg (show ¬ y.toInt < 0 from by omega)]
      by_cases z : y.toInt = k.toInt
      · rw [if_pos z, if_pos z, if_pos z]; exact e
      rw [if_neg z, if_neg z, if_neg z]
      obtain ⟨e1, e2⟩ := cl_inc h2 (by omega)
      by_cases w : 0 < y.toInt
      · rw [if_pos w]
        obtain ⟨u1, u2, u3⟩ := zABOVE_up (y := y) ⟨by omega, h7⟩ g M
        rw [u1]
        exact ih m _ (c + 1) u2 (by omega) (by omega) (by omega) (by omega) (by omega)
      · rw [if_neg w]
        obtain rfl : y = 0 := Int32.toInt_inj.mp ((show y.toInt = 0 from by omega).trans (by decide))
        match m, h4 with
        | 0, h4 => exact absurd h4 (by omega)
        | m + 1, h4 =>
          show sX3_takenFor_h10 a k (sX3_takenFor_l10 a k m) (-1) (c + 1) f L = _
          unfold sX3_takenFor_h10; (repeat first | rw [spl_d] | rw [spl2_d])
          rw [if_pos (show (-1 : Int32).toInt < 0 from by decide)]
          by_cases q : (c + 1).toInt < 8
          · rw [if_pos q]
          · rw [if_neg q]
theorem rShelf.ctaken {fX fM : sg_F} {LX LM : sg_L} {d w r1 r2 : Int32} (h : rShelf fX fM) (hd : rDesk fX fM) (hI : sgI loX hiX fX) (h9 : (fX 36 2).toInt ≤ 50) (hk : ∀ j : Nat, 0 ≤ (fX 37 j).toInt ∧ (fX 37 j).toInt ≤ 7) (e1 : r1 = sX11_taken d w fX LX) (e2 : r2 = sX12_taken d w fM LM) : r1 = r2 := by
  have k0 : (0 : Int64).toInt = 0 := by decide
  have k7 : (7 : Int64).toInt = 7 := by decide
  have e := Int32.toInt_toInt64 w
  unfold sX11_taken at e1; (repeat first | rw [spl_d] at e1 | rw [spl2_d] at e1)
  unfold sX12_taken at e2; (repeat first | rw [spl_d] at e2 | rw [spl2_d] at e2)
  rw [pX_isShelf, pX_isKind] at e1
  rw [pM_isShelf, pM_within, k0, k7, e] at e2
  rw [e1, e2]
  by_cases q1 : 0 ≤ d.toInt ∧ d.toInt ≤ 5
  case neg => rw [if_neg q1, if_neg zk0, if_neg zk0]
  rw [if_pos q1, if_pos rfl, if_pos rfl]
  by_cases q2 : 0 ≤ w.toInt ∧ w.toInt ≤ 7
  case neg => rw [if_neg q2, if_neg zk0, if_neg zk0]
  rw [if_pos q2, if_pos rfl, if_pos rfl]
  rcases h.at q1.1 q1.2 with ⟨a, b⟩ | ⟨a, b, c1, c2⟩ | ⟨a, b, c1, c2⟩
  · rw [if_pos a, if_pos (by omega)]
  · rw [if_neg (by omega), if_pos a, if_neg (by omega), if_pos (by omega)]
    have ek : (fX (40 + 2 * d.toNatClampNeg) 3).toNatClampNeg = (fM 22 d.toNatClampNeg).toNatClampNeg := by show (fX (40 + 2 * d.toNatClampNeg) 3).toInt.toNat = (fM 22 d.toNatClampNeg).toInt.toNat; rw [b]
    have ev := hd.2 (fX (40 + 2 * d.toNatClampNeg) 3).toNatClampNeg (by rw [bn_clI c1]; exact c2)
    rw [ek] at ev
    show sX3_takenFor_l10 _ w 9 (fX 37 (fX (40 + 2 * d.toNatClampNeg) 3).toNatClampNeg) 0 fX LX = sX12_taken_l58 d w 8 (sX12_kindOf (fM 22 d.toNatClampNeg) fM LM) fM LM
    have kz : (0 : Int32).toInt = 0 := by decide
    have bk := hk (fM 22 d.toNatClampNeg).toNatClampNeg
    rw [show sX12_kindOf (fM 22 d.toNatClampNeg) fM LM = fM 20 (fM 22 d.toNatClampNeg).toNatClampNeg from rfl, ek, ← ev]
    exact tk_two _ w d fX fM LX LM (by rw [ek]; exact ev) 8 9 _ 0 bk.1 bk.2 (by omega) (by omega) (by omega) (by omega)
  · rw [if_neg (by omega), if_neg (by omega), if_neg (by omega), if_neg (by omega)]
/-! SITTERS' AND PARTS' NUMBERS, CHANGES -/
/-- the reference's place of a number, by the class's -/
def npl (p : Nat) : Nat := if p < 64 then 8 * (p % 8) + p / 8 else p
theorem npl_s {a b : Nat} (ha : a < 8) (hb : b < 8) : npl (8 * a + b) = 8 * b + a := by
  unfold npl
  rw [if_pos (by omega)]
  omega
theorem npl_t {p : Nat} (h : 64 ≤ p) : npl p = p := by
  unfold npl
  rw [if_neg (by omega)]
theorem npl_lt {p : Nat} (h : p < 71) : npl p < 71 := by
  unfold npl
  by_cases c : p < 64
  · rw [if_pos c]; omega
  · rw [if_neg c]; exact h
theorem npl_npl {p : Nat} : npl (npl p) = p := by
  unfold npl
  by_cases c : p < 64
  · rw [if_pos c, if_pos (by omega)]; omega
  · rw [if_neg c, if_neg c]
theorem npl_inj {p q : Nat} (h : npl p = npl q) : p = q := by rw [← npl_npl (p := p), h, npl_npl]
/-- forgetting touches the kept losses alone -/
theorem bX_forget_l (x : Int32) (L : sg_L) (k : Nat) (hk : k ≠ 9) : ∀ (n : Nat) (a b : Int32) (f : sg_F), sX0_forget_l14 x n a b f L k = f k := by
  intro n
  induction n with
  | zero => intro a b f; rfl
  | succ n ih =>
    intro a b f
    show sX0_forget_h14 x (sX0_forget_l14 x n) a b f L k = f k
    unfold sX0_forget_h14; (repeat first | rw [spl_d] | rw [spl2_d])
    by_cases c : b.toInt < a.toInt
    · rw [if_pos c, ih, sg_up_n hk]
    · rw [if_neg c]
theorem bX_forget (x : Int32) (f : sg_F) (L : sg_L) (k : Nat) (hk : k ≠ 9) : sX0_forget x f L k = f k := by
  unfold sX0_forget; (repeat first | rw [spl_d] | rw [spl2_d])
  exact bX_forget_l x L k hk _ _ _ f
theorem bX_becomes (p v : Int32) (f : sg_F) (L : sg_L) : sX0_becomes p v f L 2 = sgu (f 2) p.toNatClampNeg v ∧ ∀ k : Nat, k ≠ 9 → k ≠ 2 → sX0_becomes p v f L k = f k := by
  unfold sX0_becomes; (repeat first | rw [spl_d] | rw [spl2_d])
  by_cases c : p.toInt < 64
  · rw [if_pos c]
    exact ⟨by rw [bX_forget _ _ _ 2 (by decide), sg_up_s], fun k h1 h2 => by rw [bX_forget _ _ _ k h1, sg_up_n h2]⟩
  · rw [if_neg c]
    exact ⟨sg_up_s, fun k _ h2 => sg_up_n h2⟩
/-! where a number lies -/
theorem bX_placeOf (a w : Int32) (f : sg_F) (L : sg_L) (hs : 0 ≤ (f 1 3).toInt ∧ (f 1 3).toInt ≤ 8) : (0 ≤ w.toInt ∧ w.toInt < 8 ∧ 0 ≤ a.toInt ∧ a.toInt < (f 1 3).toInt ∧ (sX0_placeOf a w f L).toInt = 8 * a.toInt + w.toInt) ∨ (w.toInt = 10 ∧ a.toInt = 0 ∧ (sX0_placeOf a w f L).toInt = 70) ∨ (w.toInt = 9 ∧ 0 ≤ a.toInt ∧ a.toInt ≤ 2 ∧ (sX0_placeOf a w f L).toInt = 67 + a.toInt) ∨ (w.toInt = 8 ∧ 0 ≤ a.toInt ∧ a.toInt ≤ 2 ∧ (sX0_placeOf a w f L).toInt = 64 + a.toInt) ∨ (¬ (0 ≤ w.toInt ∧ w.toInt < 8 ∧ 0 ≤ a.toInt ∧ a.toInt < (f 1 3).toInt) ∧ ¬ (w.toInt = 10 ∧ a.toInt = 0) ∧ ¬ ((w.toInt = 8 ∨ w.toInt = 9) ∧ 0 ≤ a.toInt ∧ a.toInt ≤ 2) ∧ sX0_placeOf a w f L = -1) := by
  have k8 : (8 : Int32).toInt = 8 := by decide
  have k67 : (67 : Int32).toInt = 67 := by decide
  have k64 : (64 : Int32).toInt = 64 := by decide
  have k70 : (70 : Int32).toInt = 70 := by decide
  have m1 : (-1 : Int32).toInt = -1 := by decide
  unfold sX0_placeOf; (repeat first | rw [spl_d] | rw [spl2_d])
  by_cases h1 : a.toInt < 0
  · rw [if_pos h1]; exact Or.inr (Or.inr (Or.inr (Or.inr ⟨by omega, by omega, by omega, rfl⟩)))
  rw [if_neg h1]
  by_cases h2 : w.toInt < 0
  · rw [if_pos h2]; exact Or.inr (Or.inr (Or.inr (Or.inr ⟨by omega, by omega, by omega, rfl⟩)))
  rw [if_neg h2]
  by_cases h3 : 10 < w.toInt
  · rw [if_pos h3]; exact Or.inr (Or.inr (Or.inr (Or.inr ⟨by omega, by omega, by omega, rfl⟩)))
  rw [if_neg h3]
  by_cases h4 : w.toInt < 8
  · rw [if_pos h4]
    by_cases h5 : a.toInt < (f 1 3).toInt
    · have e1 : (a * 8).toInt = a.toInt * 8 := bn_mulI k8 (by omega) (by omega)
      have e2 : (a * 8 + w).toInt = a.toInt * 8 + w.toInt := (bn_addI (by omega) (by omega)).trans (by omega)
      rw [if_pos h5]; exact Or.inl ⟨by omega, h4, by omega, h5, by omega⟩
    · rw [if_neg h5]; exact Or.inr (Or.inr (Or.inr (Or.inr ⟨by omega, by omega, by omega, rfl⟩)))
  rw [if_neg h4]
  by_cases h5 : w.toInt = 10
  · rw [if_pos h5]
    by_cases h6 : a.toInt = 0
    · rw [if_pos h6]; exact Or.inr (Or.inl ⟨h5, h6, k70⟩)
    · rw [if_neg h6]; exact Or.inr (Or.inr (Or.inr (Or.inr ⟨by omega, by omega, by omega, rfl⟩)))
  rw [if_neg h5]
  by_cases h6 : a.toInt < 3
  · rw [if_pos h6]
    by_cases h7 : w.toInt = 9
    · have e1 : (67 + a : Int32).toInt = 67 + a.toInt := (bn_addI (by omega) (by omega)).trans (by omega)
      rw [if_pos h7]; exact Or.inr (Or.inr (Or.inl ⟨h7, by omega, by omega, e1⟩))
    · have e1 : (64 + a : Int32).toInt = 64 + a.toInt := (bn_addI (by omega) (by omega)).trans (by omega)
      rw [if_neg h7]; exact Or.inr (Or.inr (Or.inr (Or.inl ⟨by omega, by omega, by omega, e1⟩)))
  · rw [if_neg h6]; exact Or.inr (Or.inr (Or.inr (Or.inr ⟨by omega, by omega, by omega, rfl⟩)))
theorem pM_isSitter (x : Int64) (f : sg_F) (L : sg_L) (hs : 0 ≤ (f 0 6).toInt ∧ (f 0 6).toInt ≤ 8) : sX12_isSitter x f L = if 0 ≤ x.toInt ∧ x.toInt < (f 0 6).toInt then 1 else 0 := by
  have k0 : (0 : Int64).toInt = 0 := by decide
  have k1 : (1 : Int32).toInt = 1 := by decide
  have e1 := Int32.toInt_toInt64 (f 0 6 - 1)
  have e2 : (f 0 6 - 1).toInt = (f 0 6).toInt - 1 := (bn_subI (by omega) (by omega)).trans (by omega)
  unfold sX12_isSitter; (repeat first | rw [spl_d] | rw [spl2_d])
  rw [pM_within, ite_b]
  exact ite_iff (by omega)
theorem pM_isPart (x : Int32) (f : sg_F) (L : sg_L) : sX12_isPart x f L = if 0 ≤ x.toInt ∧ x.toInt ≤ 2 then 1 else 0 := by
  have k0 : (0 : Int64).toInt = 0 := by decide
  have k2 : (2 : Int64).toInt = 2 := by decide
  have e := Int32.toInt_toInt64 x
  unfold sX12_isPart; (repeat first | rw [spl_d] | rw [spl2_d])
  rw [pM_within, ite_b]
  exact ite_iff (by omega)
theorem pM_isSetting (x : Int64) (f : sg_F) (L : sg_L) : sX12_isSetting x f L = if 0 ≤ x.toInt ∧ x.toInt ≤ 60 then 1 else 0 := by
  have k0 : (0 : Int64).toInt = 0 := by decide
  have k2 : (60 : Int64).toInt = 60 := by decide
  unfold sX12_isSetting; (repeat first | rw [spl_d] | rw [spl2_d])
  rw [pM_within, ite_b]
  exact ite_iff (by omega)
theorem bM_placeOf (a w : Int32) (f : sg_F) (L : sg_L) (hs : 0 ≤ (f 0 6).toInt ∧ (f 0 6).toInt ≤ 8) : (0 ≤ w.toInt ∧ w.toInt < 8 ∧ 0 ≤ a.toInt ∧ a.toInt < (f 0 6).toInt ∧ (sX12_placeOf a w f L).toInt = 8 * w.toInt + a.toInt) ∨ (w.toInt = 10 ∧ a.toInt = 0 ∧ (sX12_placeOf a w f L).toInt = 70) ∨ (w.toInt = 9 ∧ 0 ≤ a.toInt ∧ a.toInt ≤ 2 ∧ (sX12_placeOf a w f L).toInt = 67 + a.toInt) ∨ (w.toInt = 8 ∧ 0 ≤ a.toInt ∧ a.toInt ≤ 2 ∧ (sX12_placeOf a w f L).toInt = 64 + a.toInt) ∨ (¬ (0 ≤ w.toInt ∧ w.toInt < 8 ∧ 0 ≤ a.toInt ∧ a.toInt < (f 0 6).toInt) ∧ ¬ (w.toInt = 10 ∧ a.toInt = 0) ∧ ¬ ((w.toInt = 8 ∨ w.toInt = 9) ∧ 0 ≤ a.toInt ∧ a.toInt ≤ 2) ∧ sX12_placeOf a w f L = -1) := by
  have j0 : (0 : Int64).toInt = 0 := by decide
  have j7 : (7 : Int64).toInt = 7 := by decide
  have j8 : (8 : Int64).toInt = 8 := by decide
  have j9 : (9 : Int64).toInt = 9 := by decide
  have k8 : (8 : Int32).toInt = 8 := by decide
  have k3 : (3 : Int32).toInt = 3 := by decide
  have k64 : (64 : Int32).toInt = 64 := by decide
  have k70 : (70 : Int32).toInt = 70 := by decide
  have ew := Int32.toInt_toInt64 w
  have ea := Int32.toInt_toInt64 a
  unfold sX12_placeOf; (repeat first | rw [spl_d] | rw [spl2_d])
  rw [pM_within, pM_within, pM_isSitter _ _ _ hs, pM_isPart, j0, j7, j8, j9, ew, ea]
  by_cases h1 : 0 ≤ w.toInt ∧ w.toInt ≤ 7
  · rw [if_pos h1, if_pos rfl]
    by_cases h2 : 0 ≤ a.toInt ∧ a.toInt < (f 0 6).toInt
    · have e1 : (8 * w).toInt = 8 * w.toInt := bn_mulJ k8 (by omega) (by omega)
      have e2 : (8 * w + a).toInt = 8 * w.toInt + a.toInt := (bn_addI (by omega) (by omega)).trans (by omega)
      rw [if_pos h2, if_pos rfl]; exact Or.inl ⟨by omega, by omega, h2.1, h2.2, e2⟩
    · rw [if_neg h2, if_neg zk0]; exact Or.inr (Or.inr (Or.inr (Or.inr ⟨by omega, by omega, by omega, rfl⟩)))
  rw [if_neg h1, if_neg zk0]
  by_cases h2 : 8 ≤ w.toInt ∧ w.toInt ≤ 9
  · rw [if_pos h2, if_pos rfl]
    by_cases h3 : 0 ≤ a.toInt ∧ a.toInt ≤ 2
    · have e1 : (w - 8).toInt = w.toInt - 8 := (bn_subI (by omega) (by omega)).trans (by omega)
      have e2 : (3 * (w - 8)).toInt = 3 * (w - 8).toInt := bn_mulJ k3 (by omega) (by omega)
      have e3 : (64 + 3 * (w - 8)).toInt = 64 + (3 * (w - 8)).toInt := (bn_addI (by omega) (by omega)).trans (by omega)
      have e4 : (64 + 3 * (w - 8) + a).toInt = (64 + 3 * (w - 8)).toInt + a.toInt := (bn_addI (by omega) (by omega)).trans (by omega)
      rw [if_pos h3, if_pos rfl]
      by_cases h4 : w.toInt = 9
      · exact Or.inr (Or.inr (Or.inl ⟨h4, h3.1, h3.2, by omega⟩))
      · exact Or.inr (Or.inr (Or.inr (Or.inl ⟨by omega, h3.1, h3.2, by omega⟩)))
    · rw [if_neg h3, if_neg zk0]; exact Or.inr (Or.inr (Or.inr (Or.inr ⟨by omega, by omega, by omega, rfl⟩)))
  rw [if_neg h2, if_neg zk0]
  by_cases h3 : w.toInt = 10
  · rw [if_pos h3]
    by_cases h4 : a.toInt = 0
    · rw [if_pos h4]; exact Or.inr (Or.inl ⟨h3, h4, k70⟩)
    · rw [if_neg h4]; exact Or.inr (Or.inr (Or.inr (Or.inr ⟨by omega, by omega, by omega, rfl⟩)))
  · rw [if_neg h3]; exact Or.inr (Or.inr (Or.inr (Or.inr ⟨by omega, by omega, by omega, rfl⟩)))
/-- least and most of a number, by what it is -/
def mlo (w : Int) : Int := if w = 5 then 1 else 0
def mhi (w : Int) : Int := if w = 3 ∨ w = 4 ∨ w = 9 then 9 else if w = 5 ∨ w = 7 then 12 else if w = 8 then 3 else if w = 10 then 99 else 60
theorem zLM {w : Int32} (h : 0 ≤ w.toInt ∧ w.toInt ≤ 10) : (zLEAST w.toNatClampNeg).toInt = mlo w.toInt ∧ (zMOST w.toNatClampNeg).toInt = mhi w.toInt := by
  rcases (show w.toInt = 0 ∨ w.toInt = 1 ∨ w.toInt = 2 ∨ w.toInt = 3 ∨ w.toInt = 4 ∨ w.toInt = 5 ∨ w.toInt = 6 ∨ w.toInt = 7 ∨ w.toInt = 8 ∨ w.toInt = 9 ∨ w.toInt = 10 from by omega) with c | c | c | c | c | c | c | c | c | c | c
  · obtain rfl : w = 0 := Int32.toInt_inj.mp (c.trans (by decide)); exact ⟨by decide, by decide⟩
  · obtain rfl : w = 1 := Int32.toInt_inj.mp (c.trans (by decide)); exact ⟨by decide, by decide⟩
  · obtain rfl : w = 2 := Int32.toInt_inj.mp (c.trans (by decide)); exact ⟨by decide, by decide⟩
  · obtain rfl : w = 3 := Int32.toInt_inj.mp (c.trans (by decide)); exact ⟨by decide, by decide⟩
  · obtain rfl : w = 4 := Int32.toInt_inj.mp (c.trans (by decide)); exact ⟨by decide, by decide⟩
  · obtain rfl : w = 5 := Int32.toInt_inj.mp (c.trans (by decide)); exact ⟨by decide, by decide⟩
  · obtain rfl : w = 6 := Int32.toInt_inj.mp (c.trans (by decide)); exact ⟨by decide, by decide⟩
  · obtain rfl : w = 7 := Int32.toInt_inj.mp (c.trans (by decide)); exact ⟨by decide, by decide⟩
  · obtain rfl : w = 8 := Int32.toInt_inj.mp (c.trans (by decide)); exact ⟨by decide, by decide⟩
  · obtain rfl : w = 9 := Int32.toInt_inj.mp (c.trans (by decide)); exact ⟨by decide, by decide⟩
  · obtain rfl : w = 10 := Int32.toInt_inj.mp (c.trans (by decide)); exact ⟨by decide, by decide⟩
theorem pX_fits {w : Int32} (v : Int32) (f : sg_F) (L : sg_L) (h : 0 ≤ w.toInt ∧ w.toInt ≤ 10) : sX11_fits w v f L = if mlo w.toInt ≤ v.toInt ∧ v.toInt ≤ mhi w.toInt then 1 else 0 := by
  obtain ⟨a, b⟩ := zLM h
  unfold sX11_fits; (repeat first | rw [spl_d] | rw [spl2_d])
  rw [a, b, if_neg (by omega), if_pos (by omega)]
  by_cases c : v.toInt < mlo w.toInt
  · rw [if_pos c, if_neg (by omega)]
  rw [if_neg c]
  by_cases d : mhi w.toInt < v.toInt
  · rw [if_pos d, if_neg (by omega)]
  · rw [if_neg d, if_pos (by omega)]
theorem pM_most {w : Int32} (f : sg_F) (L : sg_L) : (sX12_mostOf w f L).toInt = mhi w.toInt := by
  have k9 : (9 : Int32).toInt = 9 := by decide
  have k12 : (12 : Int32).toInt = 12 := by decide
  have k3 : (3 : Int32).toInt = 3 := by decide
  have k99 : (99 : Int32).toInt = 99 := by decide
  have k60 : (60 : Int32).toInt = 60 := by decide
  unfold sX12_mostOf mhi
  (repeat' split) <;> omega
/-- sitters and numbers of both are the same -/
def rNum (fX fM : sg_F) : Prop := (fX 1 3).toInt = (fM 0 6).toInt ∧ (∀ p : Nat, p < 71 → fX 2 p = fM 1 (npl p)) ∧ ∀ s : Nat, (fX 1 3).toInt ≤ (s : Int) → s < 8 → fX 2 (8 * s + 6) = 0 ∧ fX 2 (8 * s + 7) = 0
/-- changes of both are the same -/
def rChg (fX fM : sg_F) : Prop := (fX 32 3).toInt = (fM 0 5).toInt ∧ (fX 32 4).toInt = (fM 0 4).toInt ∧ ∀ d : Nat, (d : Int) < (fX 32 4).toInt → (fM 2 d).toNatClampNeg = npl (fX 33 d).toNatClampNeg ∧ fX 34 d = fM 3 d ∧ fX 35 d = fM 4 d ∧ ((fX 33 d).toInt < 64 → (fX 33 d).toInt / 8 < (fX 1 3).toInt)
theorem rNum.fr {fX fX1 fM fM1 : sg_F} (h : rNum fX fM) (a : fX1 1 3 = fX 1 3) (b : ∀ j : Nat, fX1 2 j = fX 2 j) (c : fM1 0 6 = fM 0 6) (d : ∀ j : Nat, fM1 1 j = fM 1 j) : rNum fX1 fM1 := by
  refine ⟨by rw [a, c]; exact h.1, fun p hp => by rw [b, d]; exact h.2.1 p hp, fun s h1 h2 => ?_⟩
  rw [a] at h1
  rw [b, b]
  exact h.2.2 s h1 h2
theorem rChg.fr {fX fX1 fM fM1 : sg_F} (h : rChg fX fM) (a0 : fX1 1 3 = fX 1 3) (a1 : fX1 32 3 = fX 32 3) (a2 : fX1 32 4 = fX 32 4) (a3 : ∀ j : Nat, fX1 33 j = fX 33 j) (a4 : ∀ j : Nat, fX1 34 j = fX 34 j) (a5 : ∀ j : Nat, fX1 35 j = fX 35 j) (b1 : fM1 0 5 = fM 0 5) (b2 : fM1 0 4 = fM 0 4) (b3 : ∀ j : Nat, fM1 2 j = fM 2 j) (b4 : ∀ j : Nat, fM1 3 j = fM 3 j) (b5 : ∀ j : Nat, fM1 4 j = fM 4 j) : rChg fX1 fM1 := by
  refine ⟨by rw [a1, b1]; exact h.1, by rw [a2, b2]; exact h.2.1, fun d hd => ?_⟩
  rw [a2] at hd
  rw [a0, a3, a4, a5, b3, b4, b5]
  exact h.2.2 d hd
/-- more sitters: the changes stand -/
theorem rChg.more {fX fX1 fM fM1 : sg_F} (h : rChg fX fM) (a0 : (fX 1 3).toInt ≤ (fX1 1 3).toInt) (a1 : fX1 32 3 = fX 32 3) (a2 : fX1 32 4 = fX 32 4) (a3 : ∀ j : Nat, fX1 33 j = fX 33 j) (a4 : ∀ j : Nat, fX1 34 j = fX 34 j) (a5 : ∀ j : Nat, fX1 35 j = fX 35 j) (b1 : fM1 0 5 = fM 0 5) (b2 : fM1 0 4 = fM 0 4) (b3 : ∀ j : Nat, fM1 2 j = fM 2 j) (b4 : ∀ j : Nat, fM1 3 j = fM 3 j) (b5 : ∀ j : Nat, fM1 4 j = fM 4 j) : rChg fX1 fM1 := by
  refine ⟨by rw [a1, b1]; exact h.1, by rw [a2, b2]; exact h.2.1, fun d hd => ?_⟩
  rw [a2] at hd
  rw [a3, a4, a5, b3, b4, b5]
  obtain ⟨q1, q2, q3, q4⟩ := h.2.2 d hd
  exact ⟨q1, q2, q3, fun z => Int.lt_of_lt_of_le (q4 z) a0⟩
theorem rNum.zero : rNum f0X f0M := by
  refine ⟨by decide, fun p hp => ?_, fun s _ hs => ?_⟩
  · have hz : ∀ q : Fin 71, f0X 2 q.1 = f0M 1 (npl q.1) := by decide
    exact hz ⟨p, hp⟩
  · have hz : ∀ q : Fin 8, f0X 2 (8 * q.1 + 6) = 0 ∧ f0X 2 (8 * q.1 + 7) = 0 := by decide
    exact hz ⟨s, hs⟩
theorem rChg.zero : rChg f0X f0M := ⟨by decide, by decide, fun d h => absurd h (by rw [show ((f0X 32 4).toInt) = 0 from by decide]; omega)⟩
/-- one number becomes v on both sides -/
theorem rNum.put {fX fX1 fM fM1 : sg_F} (h : rNum fX fM) {p q v : Int32} (hp : 0 ≤ p.toInt ∧ p.toInt < 71) (hq : q.toNatClampNeg = npl p.toNatClampNeg) (hs : p.toInt < 64 → p.toInt / 8 < (fX 1 3).toInt) (a : fX1 1 3 = fX 1 3) (b : fX1 2 = sgu (fX 2) p.toNatClampNeg v) (c : fM1 0 6 = fM 0 6) (d : fM1 1 = sgu (fM 1) q.toNatClampNeg v) : rNum fX1 fM1 := by
  have e := bn_clI hp.1
  refine ⟨by rw [a, c]; exact h.1, fun i hi => ?_, fun s h1 h2 => ?_⟩
  · rw [b, d, hq]
    by_cases z : i = p.toNatClampNeg
    · rw [z, sgu_s, sgu_s]
    · rw [sgu_n z, sgu_n (fun w => z (npl_inj w))]
      exact h.2.1 i hi
  · rw [a] at h1
    rw [b, sgu_n (by omega), sgu_n (by omega)]
    exact h.2.2 s h1 h2
/-! a change comes -/
theorem bX_drop (f : sg_F) (L : sg_L) : sX1_dropOldest f L 33 = va_cpy (f 33) (f 33) 1 0 39 ∧ sX1_dropOldest f L 34 = va_cpy (f 34) (f 34) 1 0 39 ∧ sX1_dropOldest f L 35 = va_cpy (f 35) (f 35) 1 0 39 ∧ sX1_dropOldest f L 32 = sgu (f 32) 3 (f 32 3 - 1) ∧ ∀ k : Nat, k ≠ 32 → k ≠ 33 → k ≠ 34 → k ≠ 35 → sX1_dropOldest f L k = f k := by
  unfold sX1_dropOldest; (repeat first | rw [spl_d] | rw [spl2_d])
  refine ⟨?_, ?_, ?_, ?_, fun k h1 h2 h3 h4 => ?_⟩
  · rw [sg_up_n (by decide), sg_up_n (by decide), sg_up_n (by decide), sg_up_s]; rfl
  · rw [sg_up_n (by decide), sg_up_n (by decide), sg_up_s, sg_up_n (by decide)]; rfl
  · rw [sg_up_n (by decide), sg_up_s, sg_up_n (by decide), sg_up_n (by decide)]; rfl
  · rw [sg_up_s, sg_up_n (by decide), sg_up_n (by decide), sg_up_n (by decide)]
  · rw [sg_up_n h1, sg_up_n h4, sg_up_n h3, sg_up_n h2]
theorem bX_comesb (p a v : Int32) (f : sg_F) (L : sg_L) : sX1_comes_b13 p a v f L 33 = sgu (f 33) (f 32 3).toNatClampNeg p ∧ sX1_comes_b13 p a v f L 34 = sgu (f 34) (f 32 3).toNatClampNeg a ∧ sX1_comes_b13 p a v f L 35 = sgu (f 35) (f 32 3).toNatClampNeg v ∧ sX1_comes_b13 p a v f L 32 3 = f 32 3 + 1 ∧ sX1_comes_b13 p a v f L 32 4 = f 32 3 + 1 ∧ ∀ k : Nat, k ≠ 32 → k ≠ 33 → k ≠ 34 → k ≠ 35 → sX1_comes_b13 p a v f L k = f k := by
  unfold sX1_comes_b13; (repeat first | rw [spl_d] | rw [spl2_d])
  refine ⟨?_, ?_, ?_, ?_, ?_, fun k h1 h2 h3 h4 => ?_⟩
  · rw [sg_up_n (by decide), sg_up_n (by decide), sg_up_n (by decide), sg_up_n (by decide), sg_up_s]
  · rw [sg_up_n (by decide), sg_up_n (by decide), sg_up_n (by decide), sg_up_s, sg_up_n (by decide)]
  · rw [sg_up_n (by decide), sg_up_n (by decide), sg_up_s, sg_up_n (by decide), sg_up_n (by decide)]
  · rw [sg_up_s, sgu_n (by decide), sg_up_s, sgu_s]
  · rw [sg_up_s, sgu_s]
  · rw [sg_up_n h1, sg_up_n h1, sg_up_n h4, sg_up_n h3, sg_up_n h2]
/-- the places of changes behind one that comes: d: how many were done, when it came -/
theorem bX_comes (p a v : Int32) (f : sg_F) (L : sg_L) (hd : 0 ≤ (f 32 3).toInt ∧ (f 32 3).toInt ≤ 40) : ∃ (g3 g4 g5 : Nat → Int32) (d : Int32), (((f 32 3).toInt = 40 ∧ d.toInt = 39 ∧ g3 = va_cpy (f 33) (f 33) 1 0 39 ∧ g4 = va_cpy (f 34) (f 34) 1 0 39 ∧ g5 = va_cpy (f 35) (f 35) 1 0 39) ∨ ((f 32 3).toInt < 40 ∧ d = f 32 3 ∧ g3 = f 33 ∧ g4 = f 34 ∧ g5 = f 35)) ∧ sX1_comes p a v f L 33 = sgu g3 d.toNatClampNeg p ∧ sX1_comes p a v f L 34 = sgu g4 d.toNatClampNeg a ∧ sX1_comes p a v f L 35 = sgu g5 d.toNatClampNeg v ∧ sX1_comes p a v f L 32 3 = d + 1 ∧ sX1_comes p a v f L 32 4 = d + 1 ∧ ∀ k : Nat, k ≠ 32 → k ≠ 33 → k ≠ 34 → k ≠ 35 → sX1_comes p a v f L k = f k := by
  have k1 : (1 : Int32).toInt = 1 := by decide
  unfold sX1_comes; (repeat first | rw [spl_d] | rw [spl2_d])
  by_cases c : (f 32 3).toInt = 40
  · rw [if_pos c]
    obtain ⟨q1, q2, q3, q4, q5⟩ := bX_drop f L
    obtain ⟨u1, u2, u3, u4, u5, u6⟩ := bX_comesb p a v (sX1_dropOldest f L) L
    have e : (f 32 3 - 1).toInt = (f 32 3).toInt - 1 := (bn_subI (by omega) (by omega)).trans (by omega)
    have ed : sX1_dropOldest f L 32 3 = f 32 3 - 1 := by rw [q4, sgu_s]
    rw [ed] at u1 u2 u3 u4 u5
    exact ⟨_, _, _, f 32 3 - 1, Or.inl ⟨c, by omega, q1, q2, q3⟩, u1, u2, u3, u4, u5, fun k h1 h2 h3 h4 => (u6 k h1 h2 h3 h4).trans (q5 k h1 h2 h3 h4)⟩
  · rw [if_neg c]
    obtain ⟨u1, u2, u3, u4, u5, u6⟩ := bX_comesb p a v f L
    exact ⟨_, _, _, f 32 3, Or.inr ⟨by omega, rfl, rfl, rfl, rfl⟩, u1, u2, u3, u4, u5, u6⟩
theorem bM_becb (p v a : Int32) (f : sg_F) (L : sg_L) : (sX12_becomes_b97 p v a f L).1 = a ∧ (sX12_becomes_b97 p v a f L).2 2 = sgu (f 2) (f 0 5).toNatClampNeg p ∧ (sX12_becomes_b97 p v a f L).2 3 = sgu (f 3) (f 0 5).toNatClampNeg a ∧ (sX12_becomes_b97 p v a f L).2 4 = sgu (f 4) (f 0 5).toNatClampNeg v ∧ (sX12_becomes_b97 p v a f L).2 0 5 = f 0 5 + 1 ∧ (sX12_becomes_b97 p v a f L).2 0 4 = f 0 5 + 1 ∧ (sX12_becomes_b97 p v a f L).2 0 6 = f 0 6 ∧ (sX12_becomes_b97 p v a f L).2 1 = sgu (f 1) p.toNatClampNeg v := by
  unfold sX12_becomes_b97; (repeat first | rw [spl_d] | rw [spl2_d])
  dsimp only
  refine ⟨rfl, ?_, ?_, ?_, ?_, ?_, ?_, ?_⟩
  · rw [sg_up_n (by decide), sg_up_n (by decide), sg_up_n (by decide), sg_up_n (by decide), sg_up_n (by decide), sg_up_s]
  · rw [sg_up_n (by decide), sg_up_n (by decide), sg_up_n (by decide), sg_up_n (by decide), sg_up_s, sg_up_n (by decide)]
  · rw [sg_up_n (by decide), sg_up_n (by decide), sg_up_n (by decide), sg_up_s, sg_up_n (by decide), sg_up_n (by decide)]
  · rw [sg_up_n (by decide), sg_up_s, sgu_n (by decide), sg_up_s, sgu_s]
  · rw [sg_up_n (by decide), sg_up_s, sgu_s]
  · rw [sg_up_n (by decide), sg_up_s, sgu_n (by decide), sg_up_s, sgu_n (by decide), sg_up_n (by decide), sg_up_n (by decide), sg_up_n (by decide)]
  · rw [sg_up_s, sg_up_n (by decide), sg_up_n (by decide), sg_up_n (by decide), sg_up_n (by decide), sg_up_n (by decide)]
theorem bM_becl (p v a : Int32) (L : sg_L) (g2 g3 g4 : Nat → Int32) : ∀ (m : Nat) (y : Int32) (f : sg_F), 1 ≤ y.toInt → y.toInt ≤ 40 → 40 - y.toInt < (m : Int) → f 2 = va_cpy g2 g2 1 0 (y.toNatClampNeg - 1) → f 3 = va_cpy g3 g3 1 0 (y.toNatClampNeg - 1) → f 4 = va_cpy g4 g4 1 0 (y.toNatClampNeg - 1) → ∃ f1 : sg_F, sX12_becomes_l26 p v m a y f L = sX12_becomes_b97 p v a f1 L ∧ f1 2 = va_cpy g2 g2 1 0 39 ∧ f1 3 = va_cpy g3 g3 1 0 39 ∧ f1 4 = va_cpy g4 g4 1 0 39 ∧ f1 0 = sgu (f 0) 5 (f 0 5 - 1) ∧ f1 1 = f 1 := by
  have k1 : (1 : Int32).toInt = 1 := by decide
  intro m
  induction m with
  | zero => intro y f h1 h2 h3; exact absurd h3 (by omega)
  | succ m ih =>
    intro y f h1 h2 h3 e2 e3 e4
    have hg : sX12_becomes_l26 p v (m + 1) a y f L = sX12_becomes_h26 p v (sX12_becomes_l26 p v m) a y f L := rfl
    rw [hg]
    unfold sX12_becomes_h26; (repeat first | rw [spl_d] | rw [spl2_d])
    have ey := bn_clI (x := y) (by omega)
    by_cases c : y.toInt < 40
    · rw [if_pos c]
      obtain ⟨i1, i2⟩ := cl_inc (x := y) (by omega) (by omega)
      have j1 : (y - 1).toInt = y.toInt - 1 := (bn_subI (by omega) (by omega)).trans (by omega)
      have j2 := bn_clI (x := y - 1) (by omega)
      have j3 : (y - 1).toNatClampNeg = y.toNatClampNeg - 1 := by omega
      have st : ∀ g : Nat → Int32, sgu (va_cpy g g 1 0 (y.toNatClampNeg - 1)) (y.toNatClampNeg - 1) (va_cpy g g 1 0 (y.toNatClampNeg - 1) y.toNatClampNeg) = va_cpy g g 1 0 y.toNatClampNeg := by
        intro g
        have z := sg_cpy1 (f := g) (g := g) (a := 1) (b := 0) (n := y.toNatClampNeg - 1)
        rw [Nat.zero_add, show 1 + (y.toNatClampNeg - 1) = y.toNatClampNeg from by omega, show y.toNatClampNeg - 1 + 1 = y.toNatClampNeg from by omega] at z
        rw [← z]
        exact congrArg _ (by unfold va_cpy; rw [if_neg (by omega)])
      obtain ⟨f1, q1, q2, q3, q4, q5, q6⟩ := ih (y + 1) (sg_up (sg_up (sg_up f 2 (sgu (f 2) (y - 1).toNatClampNeg (f 2 y.toNatClampNeg))) 3 (sgu (sg_up f 2 (sgu (f 2) (y - 1).toNatClampNeg (f 2 y.toNatClampNeg)) 3) (y - 1).toNatClampNeg (sg_up f 2 (sgu (f 2) (y - 1).toNatClampNeg (f 2 y.toNatClampNeg)) 3 y.toNatClampNeg))) 4 (sgu (sg_up (sg_up f 2 (sgu (f 2) (y - 1).toNatClampNeg (f 2 y.toNatClampNeg))) 3 (sgu (sg_up f 2 (sgu (f 2) (y - 1).toNatClampNeg (f 2 y.toNatClampNeg)) 3) (y - 1).toNatClampNeg (sg_up f 2 (sgu (f 2) (y - 1).toNatClampNeg (f 2 y.toNatClampNeg)) 3 y.toNatClampNeg)) 4) (y - 1).toNatClampNeg (sg_up (sg_up f 2 (sgu (f 2) (y - 1).toNatClampNeg (f 2 y.toNatClampNeg))) 3 (sgu (sg_up f 2 (sgu (f 2) (y - 1).toNatClampNeg (f 2 y.toNatClampNeg)) 3) (y - 1).toNatClampNeg (sg_up f 2 (sgu (f 2) (y - 1).toNatClampNeg (f 2 y.toNatClampNeg)) 3 y.toNatClampNeg)) 4 y.toNatClampNeg))) (by omega) (by omega) (by omega)
        (by rw [sg_up_n (by decide), sg_up_n (by decide), sg_up_s, i2, j3, e2, st, Nat.add_sub_cancel]) (by rw [sg_up_n (by decide), sg_up_s, sg_up_n (by decide), i2, j3, e3, st, Nat.add_sub_cancel]) (by rw [sg_up_s, sg_up_n (by decide), sg_up_n (by decide), i2, j3, e4, st, Nat.add_sub_cancel])
      refine ⟨f1, q1, q2, q3, q4, ?_, ?_⟩
      · rw [q5, sg_up_n (by decide), sg_up_n (by decide), sg_up_n (by decide)]
      · rw [q6, sg_up_n (by decide), sg_up_n (by decide), sg_up_n (by decide)]
    · rw [if_neg c]
      have e39 : y.toNatClampNeg - 1 = 39 := by omega
      rw [e39] at e2 e3 e4
      exact ⟨_, rfl, by rw [sg_up_n (by decide)]; exact e2, by rw [sg_up_n (by decide)]; exact e3, by rw [sg_up_n (by decide)]; exact e4, sg_up_s, sg_up_n (by decide)⟩
/-- a number of the reference becomes another one -/
theorem bM_becomes (p v : Int32) (f : sg_F) (L : sg_L) (hd : 0 ≤ (f 0 5).toInt ∧ (f 0 5).toInt ≤ 40) (hne : (f 1 p.toNatClampNeg).toInt ≠ v.toInt) : ∃ (g2 g3 g4 : Nat → Int32) (d : Int32), (((f 0 5).toInt = 40 ∧ d.toInt = 39 ∧ g2 = va_cpy (f 2) (f 2) 1 0 39 ∧ g3 = va_cpy (f 3) (f 3) 1 0 39 ∧ g4 = va_cpy (f 4) (f 4) 1 0 39) ∨ ((f 0 5).toInt < 40 ∧ d = f 0 5 ∧ g2 = f 2 ∧ g3 = f 3 ∧ g4 = f 4)) ∧ (sX12_becomes p v f L).1 = f 1 p.toNatClampNeg ∧ (sX12_becomes p v f L).2 2 = sgu g2 d.toNatClampNeg p ∧ (sX12_becomes p v f L).2 3 = sgu g3 d.toNatClampNeg (f 1 p.toNatClampNeg) ∧ (sX12_becomes p v f L).2 4 = sgu g4 d.toNatClampNeg v ∧ (sX12_becomes p v f L).2 0 5 = d + 1 ∧ (sX12_becomes p v f L).2 0 4 = d + 1 ∧ (sX12_becomes p v f L).2 0 6 = f 0 6 ∧ (sX12_becomes p v f L).2 1 = sgu (f 1) p.toNatClampNeg v := by
  have k1 : (1 : Int32).toInt = 1 := by decide
  unfold sX12_becomes; (repeat first | rw [spl_d] | rw [spl2_d])
  rw [if_neg hne]
  by_cases c : (f 0 5).toInt = 40
  · rw [if_pos c]
    obtain ⟨f1, q1, q2, q3, q4, q5, q6⟩ := bM_becl p v (f 1 p.toNatClampNeg) L (f 2) (f 3) (f 4) 40 1 f (by omega) (by omega) (by omega) sg_cpy0.symm sg_cpy0.symm sg_cpy0.symm
    rw [q1]
    obtain ⟨u0, u1, u2, u3, u4, u5, u6, u7⟩ := bM_becb p v (f 1 p.toNatClampNeg) f1 L
    have e : (f 0 5 - 1).toInt = (f 0 5).toInt - 1 := (bn_subI (by omega) (by omega)).trans (by omega)
    have ed : f1 0 5 = f 0 5 - 1 := by rw [q5, sgu_s]
    rw [ed] at u1 u2 u3 u4 u5
    exact ⟨_, _, _, f 0 5 - 1, Or.inl ⟨c, by omega, q2, q3, q4⟩, u0, u1, u2, u3, u4, u5, by rw [u6, q5, sgu_n (by decide)], by rw [u7, q6]⟩
  · rw [if_neg c]
    obtain ⟨u0, u1, u2, u3, u4, u5, u6, u7⟩ := bM_becb p v (f 1 p.toNatClampNeg) f L
    exact ⟨_, _, _, f 0 5, Or.inr ⟨by omega, rfl, rfl, rfl, rfl⟩, u0, u1, u2, u3, u4, u5, u6, u7⟩
/-- changes behind one that came on both sides -/
theorem rChg.put {fX fX1 fM fM1 : sg_F} (h : rChg fX fM) {p q a v d d2 : Int32} {g3 g4 g5 k3 k4 k5 : Nat → Int32} (hb : 0 ≤ (fX 32 3).toInt ∧ (fX 32 3).toInt ≤ (fX 32 4).toInt ∧ (fX 32 4).toInt ≤ 40) (hq : q.toNatClampNeg = npl p.toNatClampNeg) (hs : p.toInt < 64 → p.toInt / 8 < (fX 1 3).toInt)
    (x : (((fX 32 3).toInt = 40 ∧ d.toInt = 39 ∧ g3 = va_cpy (fX 33) (fX 33) 1 0 39 ∧ g4 = va_cpy (fX 34) (fX 34) 1 0 39 ∧ g5 = va_cpy (fX 35) (fX 35) 1 0 39) ∨ ((fX 32 3).toInt < 40 ∧ d = fX 32 3 ∧ g3 = fX 33 ∧ g4 = fX 34 ∧ g5 = fX 35))) (x1 : fX1 33 = sgu g3 d.toNatClampNeg p) (x2 : fX1 34 = sgu g4 d.toNatClampNeg a) (x3 : fX1 35 = sgu g5 d.toNatClampNeg v) (x4 : fX1 32 3 = d + 1) (x5 : fX1 32 4 = d + 1) (x6 : fX1 1 3 = fX 1 3)
    (m : (((fM 0 5).toInt = 40 ∧ d2.toInt = 39 ∧ k3 = va_cpy (fM 2) (fM 2) 1 0 39 ∧ k4 = va_cpy (fM 3) (fM 3) 1 0 39 ∧ k5 = va_cpy (fM 4) (fM 4) 1 0 39) ∨ ((fM 0 5).toInt < 40 ∧ d2 = fM 0 5 ∧ k3 = fM 2 ∧ k4 = fM 3 ∧ k5 = fM 4))) (m1 : fM1 2 = sgu k3 d2.toNatClampNeg q) (m2 : fM1 3 = sgu k4 d2.toNatClampNeg a) (m3 : fM1 4 = sgu k5 d2.toNatClampNeg v) (m4 : fM1 0 5 = d2 + 1) (m5 : fM1 0 4 = d2 + 1) : rChg fX1 fM1 := by
  have h1 := h.1
  have ed : d = d2 := by
    refine Int32.toInt_inj.mp ?_
    rcases x with ⟨a1, a2, -⟩ | ⟨a1, a2, -⟩ <;> rcases m with ⟨b1, b2, -⟩ | ⟨b1, b2, -⟩
    · omega
    · omega
    · omega
    · rw [a2, b2]; exact h1
  subst ed
  have d0 : 0 ≤ d.toInt ∧ d.toInt ≤ 39 ∧ d.toInt ≤ (fX 32 4).toInt := by
    rcases x with ⟨a1, a2, -⟩ | ⟨a1, a2, -⟩
    · omega
    · rw [a2]; omega
  have k1 : (1 : Int32).toInt = 1 := by decide
  have e1 : (d + 1).toInt = d.toInt + 1 := (bn_addI (by omega) (by omega)).trans (by omega)
  have ec := bn_clI d0.1
  refine ⟨by rw [x4, m4], by rw [x5, m5], fun i hi => ?_⟩
  rw [x5, e1] at hi
  rw [x1, x2, x3, x6, m1, m2, m3]
  by_cases z : i = d.toNatClampNeg
  · rw [z, sgu_s, sgu_s, sgu_s, sgu_s, sgu_s, sgu_s]
    exact ⟨hq, rfl, rfl, hs⟩
  · rw [sgu_n z, sgu_n z, sgu_n z, sgu_n z, sgu_n z, sgu_n z]
    rcases x with ⟨a1, a2, a3, a4, a5⟩ | ⟨a1, a2, a3, a4, a5⟩ <;> rcases m with ⟨b1, b2, b3, b4, b5⟩ | ⟨b1, b2, b3, b4, b5⟩
    · have w : ∀ g : Nat → Int32, va_cpy g g 1 0 39 i = g (1 + i) := by
        intro g
        unfold va_cpy
        rw [if_pos ⟨Nat.zero_le _, by omega⟩]
        rfl
      rw [a3, a4, a5, b3, b4, b5, w, w, w, w, w, w]
      exact h.2.2 (1 + i) (by omega)
    · exfalso; omega
    · exfalso; omega
    · rw [a3, a4, a5, b3, b4, b5]
      exact h.2.2 i (by omega)
/-- the places on both sides -/
theorem pl_two {fX fM : sg_F} {LX LM : sg_L} {a w : Int32} (h : rNum fX fM) (hb : 0 ≤ (fX 1 3).toInt ∧ (fX 1 3).toInt ≤ 8) : ((sX0_placeOf a w fX LX).toInt < 0 ∧ (sX12_placeOf a w fM LM).toInt < 0) ∨ (0 ≤ w.toInt ∧ w.toInt ≤ 10 ∧ 0 ≤ (sX0_placeOf a w fX LX).toInt ∧ (sX0_placeOf a w fX LX).toInt < 71 ∧ 0 ≤ (sX12_placeOf a w fM LM).toInt ∧ (sX12_placeOf a w fM LM).toNatClampNeg = npl (sX0_placeOf a w fX LX).toNatClampNeg ∧ ((sX0_placeOf a w fX LX).toInt < 64 → (sX0_placeOf a w fX LX).toInt / 8 < (fX 1 3).toInt)) := by
  have h1 := h.1
  have x := bX_placeOf a w fX LX hb
  have m := bM_placeOf a w fM LM (by omega)
  obtain ⟨p, ep⟩ : ∃ z : Int32, z = sX0_placeOf a w fX LX := ⟨_, rfl⟩
  obtain ⟨q, eq⟩ : ∃ z : Int32, z = sX12_placeOf a w fM LM := ⟨_, rfl⟩
  rw [← ep] at x ⊢
  rw [← eq] at m ⊢
  have k1 : (-1 : Int32).toInt = -1 := by decide
  have cp : 0 ≤ p.toInt → ((p.toNatClampNeg : Nat) : Int) = p.toInt := fun z => bn_clI z
  have cq : 0 ≤ q.toInt → ((q.toNatClampNeg : Nat) : Int) = q.toInt := fun z => bn_clI z
  rcases x with ⟨x1, x2, x3, x4, x5⟩ | ⟨x1, x2, x3⟩ | ⟨x1, x2, x3, x4⟩ | ⟨x1, x2, x3, x4⟩ | ⟨x1, x2, x3, x4⟩
  · rcases m with ⟨m1, m2, m3, m4, m5⟩ | ⟨m1, m2, m3⟩ | ⟨m1, m2, m3, m4⟩ | ⟨m1, m2, m3, m4⟩ | ⟨m1, m2, m3, m4⟩
    · refine Or.inr ⟨x1, by omega, by omega, by omega, by omega, ?_, by omega⟩
      have ca := cp (by omega)
      have cb := cq (by omega)
      have z := npl_s (a := a.toNatClampNeg) (b := w.toNatClampNeg) (by have := bn_clI x3; omega) (by have := bn_clI x1; omega)
      have za := bn_clI x3
      have zw := bn_clI x1
      rw [show p.toNatClampNeg = 8 * a.toNatClampNeg + w.toNatClampNeg from by omega, z]
      omega
    · exfalso; omega
    · exfalso; omega
    · exfalso; omega
    · exfalso; omega
  · rcases m with ⟨m1, m2, m3, m4, m5⟩ | ⟨m1, m2, m3⟩ | ⟨m1, m2, m3, m4⟩ | ⟨m1, m2, m3, m4⟩ | ⟨m1, m2, m3, m4⟩
    · exfalso; omega
    · have ca := cp (by omega)
      have cb := cq (by omega)
      exact Or.inr ⟨by omega, by omega, by omega, by omega, by omega, by rw [npl_t (by omega)]; omega, by omega⟩
    · exfalso; omega
    · exfalso; omega
    · exfalso; omega
  · rcases m with ⟨m1, m2, m3, m4, m5⟩ | ⟨m1, m2, m3⟩ | ⟨m1, m2, m3, m4⟩ | ⟨m1, m2, m3, m4⟩ | ⟨m1, m2, m3, m4⟩
    · exfalso; omega
    · exfalso; omega
    · have ca := cp (by omega)
      have cb := cq (by omega)
      exact Or.inr ⟨by omega, by omega, by omega, by omega, by omega, by rw [npl_t (by omega)]; omega, by omega⟩
    · exfalso; omega
    · exfalso; omega
  · rcases m with ⟨m1, m2, m3, m4, m5⟩ | ⟨m1, m2, m3⟩ | ⟨m1, m2, m3, m4⟩ | ⟨m1, m2, m3, m4⟩ | ⟨m1, m2, m3, m4⟩
    · exfalso; omega
    · exfalso; omega
    · exfalso; omega
    · have ca := cp (by omega)
      have cb := cq (by omega)
      exact Or.inr ⟨by omega, by omega, by omega, by omega, by omega, by rw [npl_t (by omega)]; omega, by omega⟩
    · exfalso; omega
  · rcases m with ⟨m1, m2, m3, m4, m5⟩ | ⟨m1, m2, m3⟩ | ⟨m1, m2, m3, m4⟩ | ⟨m1, m2, m3, m4⟩ | ⟨m1, m2, m3, m4⟩
    · exfalso; omega
    · exfalso; omega
    · exfalso; omega
    · exfalso; omega
    · exact Or.inl ⟨by rw [x4, k1]; decide, by rw [m4, k1]; decide⟩
theorem rNum.mend {fX fX1 fM fM1 : sg_F} {LX LM : sg_L} {a w v r1 r2 : Int32} (h : rNum fX fM) (hc : rChg fX fM) (hI : sgI loX hiX fX) (hJ : JM fM) (e1 : (r1, fX1) = sX11_mend a w v fX LX) (e2 : (r2, fM1) = sX12_mend a w v fM LM) : r1 = r2 ∧ rNum fX1 fM1 ∧ rChg fX1 fM1 := by
  have hb : 0 ≤ (fX 1 3).toInt ∧ (fX 1 3).toInt ≤ 8 := hI 1 3
  have hd : 0 ≤ (fX 32 3).toInt ∧ (fX 32 3).toInt ≤ 40 := hI 32 3
  have hk : 0 ≤ (fX 32 4).toInt ∧ (fX 32 4).toInt ≤ 40 := hI 32 4
  have hdk := hJ.2
  have hc1 := hc.1
  have hc2 := hc.2.1
  have k0 : (0 : Int64).toInt = 0 := by decide
  have k1 : (1 : Int64).toInt = 1 := by decide
  have pl := pl_two (LX := LX) (LM := LM) (a := a) (w := w) h hb
  obtain ⟨p, ep⟩ : ∃ z : Int32, z = sX0_placeOf a w fX LX := ⟨_, rfl⟩
  obtain ⟨q, eq⟩ : ∃ z : Int32, z = sX12_placeOf a w fM LM := ⟨_, rfl⟩
  unfold sX11_mend at e1; (repeat first | rw [spl_d] at e1 | rw [spl2_d] at e1)
  unfold sX12_mend at e2; (repeat first | rw [spl_d] at e2 | rw [spl2_d] at e2)
  rw [← ep] at pl e1
  rw [← eq] at pl e2
  rcases pl with ⟨p1, q1⟩ | ⟨w1, w2, p1, p2, q1, pq, ps⟩
  · rw [if_pos p1] at e1
    rw [if_pos q1] at e2
    obtain ⟨a1, b1⟩ := Prod.mk.inj e1
    obtain ⟨a2, b2⟩ := Prod.mk.inj e2
    rw [a1, a2, b1, b2]; exact ⟨rfl, h, hc⟩
  rw [if_neg (by omega), pX_fits v fX LX ⟨w1, w2⟩] at e1
  have ew : ∀ x y : Int32, (Int32.toInt64 x).toInt = x.toInt := fun x _ => Int32.toInt_toInt64 x
  have e2 : (r2, fM1) = if mlo w.toInt ≤ v.toInt ∧ v.toInt ≤ mhi w.toInt then sX12_becomes q v fM LM else (-1, fM) := by
    rw [if_neg (by omega)] at e2
    by_cases c5 : w.toInt = 5
    · rw [if_pos c5, pM_within, k1, ew v v, ew _ v, pM_most] at e2
      have : mlo w.toInt = 1 := by unfold mlo; rw [if_pos c5]
      rw [this]
      by_cases g : 1 ≤ v.toInt ∧ v.toInt ≤ mhi w.toInt
      · rw [if_pos g, if_pos rfl] at e2; rw [if_pos g]; exact e2
      · rw [if_neg g, if_neg zk0] at e2; rw [if_neg g]; exact e2
    · rw [if_neg c5, pM_within, k0, ew v v, ew _ v, pM_most] at e2
      have : mlo w.toInt = 0 := by unfold mlo; rw [if_neg c5]
      rw [this]
      by_cases g : 0 ≤ v.toInt ∧ v.toInt ≤ mhi w.toInt
      · rw [if_pos g, if_pos rfl] at e2; rw [if_pos g]; exact e2
      · rw [if_neg g, if_neg zk0] at e2; rw [if_neg g]; exact e2
  by_cases g : mlo w.toInt ≤ v.toInt ∧ v.toInt ≤ mhi w.toInt
  case neg =>
    rw [if_neg g, if_neg zk0] at e1
    rw [if_neg g] at e2
    obtain ⟨a1, b1⟩ := Prod.mk.inj e1
    obtain ⟨a2, b2⟩ := Prod.mk.inj e2
    rw [a1, a2, b1, b2]; exact ⟨rfl, h, hc⟩
  rw [if_pos g, if_pos rfl] at e1
  rw [if_pos g] at e2
  have cp := bn_clI p1
  have same : fX 2 p.toNatClampNeg = fM 1 q.toNatClampNeg := by rw [pq]; exact h.2.1 _ (by omega)
  by_cases c : (fX 2 p.toNatClampNeg).toInt = v.toInt
  · rw [if_pos c] at e1
    unfold sX12_becomes at e2; (repeat first | rw [spl_d] at e2 | rw [spl2_d] at e2)
    rw [← same, if_pos c] at e2
    obtain ⟨a1, b1⟩ := Prod.mk.inj e1
    obtain ⟨a2, b2⟩ := Prod.mk.inj e2
    rw [a1, a2, b1, b2]; exact ⟨rfl, h, hc⟩
  rw [if_neg c] at e1
  obtain ⟨a1, b1⟩ := Prod.mk.inj e1
  obtain ⟨g3, g4, g5, d, x0, x1, x2, x3, x4, x5, x6⟩ := bX_comes p (fX 2 p.toNatClampNeg) v fX LX hd
  obtain ⟨u1, u2⟩ := bX_becomes p v (sX1_comes p (fX 2 p.toNatClampNeg) v fX LX) LX
  obtain ⟨k3, k4, k5, d2, m0, m1, m2, m3, m4, m5, m6, m7, m8⟩ := bM_becomes q v fM LM (by omega) (by rw [← same]; exact c)
  rw [← e2] at m1 m2 m3 m4 m5 m6 m7 m8
  rw [← b1] at u1 u2
  rw [x6 2 (by decide) (by decide) (by decide) (by decide)] at u1
  have m1 : r2 = _ := m1
  have m2 : fM1 2 = _ := m2
  have m3 : fM1 3 = _ := m3
  have m4 : fM1 4 = _ := m4
  have m5 : fM1 0 5 = _ := m5
  have m6 : fM1 0 4 = _ := m6
  have m7 : fM1 0 6 = _ := m7
  have m8 : fM1 1 = _ := m8
  refine ⟨by rw [a1, m1, same], ?_, ?_⟩
  · exact h.put (p := p) (q := q) (v := v) ⟨p1, p2⟩ pq ps (by rw [u2 1 (by decide) (by decide), x6 1 (by decide) (by decide) (by decide) (by decide)]) u1 m7 m8
  · rw [← same] at m3
    exact hc.put (p := p) (q := q) (a := fX 2 p.toNatClampNeg) (v := v) ⟨hd.1, by omega, hk.2⟩ pq ps x0 (by rw [u2 33 (by decide) (by decide)]; exact x1) (by rw [u2 34 (by decide) (by decide)]; exact x2) (by rw [u2 35 (by decide) (by decide)]; exact x3) (by rw [u2 32 (by decide) (by decide)]; exact x4) (by rw [u2 32 (by decide) (by decide)]; exact x5) (by rw [u2 1 (by decide) (by decide), x6 1 (by decide) (by decide) (by decide) (by decide)]) m0 m2 m3 m4 m5 m6
theorem rNum.undo {fX fX1 fM fM1 : sg_F} {LX LM : sg_L} {r1 r2 : Int32} (h : rNum fX fM) (hc : rChg fX fM) (hI : sgI loX hiX fX) (hJ : JM fM) (e1 : (r1, fX1) = sX11_undo fX LX) (e2 : (r2, fM1) = sX12_undo fM LM) : r1 = r2 ∧ rNum fX1 fM1 ∧ rChg fX1 fM1 := by
  have hd : 0 ≤ (fX 32 3).toInt ∧ (fX 32 3).toInt ≤ 40 := hI 32 3
  have hdk := hJ.2
  have hc1 := hc.1
  have hc2 := hc.2.1
  have k1 : (1 : Int32).toInt = 1 := by decide
  unfold sX11_undo at e1; (repeat first | rw [spl_d] at e1 | rw [spl2_d] at e1)
  unfold sX12_undo at e2; (repeat first | rw [spl_d] at e2 | rw [spl2_d] at e2)
  rw [← hc1] at e2
  by_cases c : (fX 32 3).toInt = 0
  · rw [if_pos c] at e1 e2
    obtain ⟨a1, b1⟩ := Prod.mk.inj e1
    obtain ⟨a2, b2⟩ := Prod.mk.inj e2
    rw [a1, a2, b1, b2]; exact ⟨rfl, h, hc⟩
  rw [if_neg c] at e1 e2
  have ee : fX 32 3 = fM 0 5 := Int32.toInt_inj.mp hc1
  rw [← ee] at e2
  obtain ⟨d, ed⟩ : ∃ z : Int32, z = fX 32 3 - 1 := ⟨_, rfl⟩
  have dt : d.toInt = (fX 32 3).toInt - 1 := by rw [ed]; exact (bn_subI (by omega) (by omega)).trans (by omega)
  have cd := bn_clI (x := d) (by omega)
  rw [← ed] at e1 e2
  rw [sg_up_n (show 33 ≠ 32 by decide), sg_up_n (show 34 ≠ 32 by decide)] at e1
  rw [sg_up_n (show 2 ≠ 0 by decide), sg_up_n (show 3 ≠ 0 by decide), sg_up_n (show 1 ≠ 0 by decide)] at e2
  obtain ⟨w1, w2, w3, w4⟩ := hc.2.2 d.toNatClampNeg (by omega)
  have pb : 0 ≤ (fX 33 d.toNatClampNeg).toInt ∧ (fX 33 d.toNatClampNeg).toInt ≤ 70 := hI 33 _
  obtain ⟨a1, b1⟩ := Prod.mk.inj e1
  obtain ⟨a2, b2⟩ := Prod.mk.inj e2
  obtain ⟨u1, u2⟩ := bX_becomes (fX 33 d.toNatClampNeg) (fX 34 d.toNatClampNeg) (sg_up fX 32 (sgu (fX 32) 3 d)) LX
  rw [← b1] at u1 u2
  refine ⟨by rw [a1, a2], ?_, ?_⟩
  · refine h.put (p := fX 33 d.toNatClampNeg) (q := fM 2 d.toNatClampNeg) (v := fX 34 d.toNatClampNeg) ⟨pb.1, by omega⟩ w1 w4 (by rw [u2 1 (by decide) (by decide), sg_up_n (by decide)]) (by rw [u1, sg_up_n (by decide)]) (by rw [b2, sg_up_n (by decide), sg_up_s, sgu_n (by decide)]) (by rw [b2, sg_up_s, w2])
  · refine ⟨?_, ?_, fun i hi => ?_⟩
    · rw [u2 32 (by decide) (by decide), sg_up_s, sgu_s, b2, sg_up_n (by decide), sg_up_s, sgu_s]
    · rw [u2 32 (by decide) (by decide), sg_up_s, sgu_n (by decide), b2, sg_up_n (by decide), sg_up_s, sgu_n (by decide)]; exact hc2
    · rw [u2 32 (by decide) (by decide), sg_up_s, sgu_n (by decide)] at hi
      rw [u2 33 (by decide) (by decide), u2 34 (by decide) (by decide), u2 35 (by decide) (by decide), u2 1 (by decide) (by decide), sg_up_n (by decide), sg_up_n (by decide), sg_up_n (by decide), sg_up_n (by decide), b2, sg_up_n (by decide), sg_up_n (by decide), sg_up_n (by decide), sg_up_n (by decide), sg_up_n (by decide), sg_up_n (by decide)]
      exact hc.2.2 i hi
theorem rNum.redo {fX fX1 fM fM1 : sg_F} {LX LM : sg_L} {r1 r2 : Int32} (h : rNum fX fM) (hc : rChg fX fM) (hI : sgI loX hiX fX) (hJ : JM fM) (e1 : (r1, fX1) = sX11_redo fX LX) (e2 : (r2, fM1) = sX12_redo fM LM) : r1 = r2 ∧ rNum fX1 fM1 ∧ rChg fX1 fM1 := by
  have hd : 0 ≤ (fX 32 3).toInt ∧ (fX 32 3).toInt ≤ 40 := hI 32 3
  have hk : 0 ≤ (fX 32 4).toInt ∧ (fX 32 4).toInt ≤ 40 := hI 32 4
  have hdk := hJ.2
  have hc1 := hc.1
  have hc2 := hc.2.1
  have k1 : (1 : Int32).toInt = 1 := by decide
  have ee : fX 32 3 = fM 0 5 := Int32.toInt_inj.mp hc1
  have ek : fX 32 4 = fM 0 4 := Int32.toInt_inj.mp hc2
  unfold sX11_redo at e1; (repeat first | rw [spl_d] at e1 | rw [spl2_d] at e1)
  unfold sX12_redo at e2; (repeat first | rw [spl_d] at e2 | rw [spl2_d] at e2)
  rw [← ee, ← ek] at e2
  by_cases c : (fX 32 3).toInt < (fX 32 4).toInt
  case neg =>
    rw [if_neg c] at e1
    rw [if_pos (by omega)] at e2
    obtain ⟨a1, b1⟩ := Prod.mk.inj e1
    obtain ⟨a2, b2⟩ := Prod.mk.inj e2
    rw [a1, a2, b1, b2]; exact ⟨rfl, h, hc⟩
  rw [if_pos c] at e1
  rw [if_neg (by omega)] at e2
  have cd := bn_clI hd.1
  obtain ⟨w1, w2, w3, w4⟩ := hc.2.2 (fX 32 3).toNatClampNeg (by omega)
  have pb : 0 ≤ (fX 33 (fX 32 3).toNatClampNeg).toInt ∧ (fX 33 (fX 32 3).toNatClampNeg).toInt ≤ 70 := hI 33 _
  obtain ⟨a1, b1⟩ := Prod.mk.inj e1
  obtain ⟨a2, b2⟩ := Prod.mk.inj e2
  obtain ⟨u1, u2⟩ := bX_becomes (fX 33 (fX 32 3).toNatClampNeg) (fX 35 (fX 32 3).toNatClampNeg) fX LX
  refine ⟨by rw [a1, a2], ?_, ?_⟩
  · refine h.put (p := fX 33 (fX 32 3).toNatClampNeg) (q := fM 2 (fX 32 3).toNatClampNeg) (v := fX 35 (fX 32 3).toNatClampNeg) ⟨pb.1, by omega⟩ w1 w4 (by rw [b1, sg_up_n (by decide), u2 1 (by decide) (by decide)]) (by rw [b1, sg_up_n (by decide), u1]) (by rw [b2, sg_up_s, sgu_n (by decide), sg_up_n (by decide)]) (by rw [b2, sg_up_n (by decide), sg_up_s, w3])
  · refine ⟨?_, ?_, fun i hi => ?_⟩
    · rw [b1, sg_up_s, sgu_s, b2, sg_up_s, sgu_s]
    · rw [b1, sg_up_s, sgu_n (by decide), u2 32 (by decide) (by decide), b2, sg_up_s, sgu_n (by decide), sg_up_n (by decide)]; exact hc2
    · rw [b1, sg_up_s, sgu_n (by decide), u2 32 (by decide) (by decide)] at hi
      rw [b1, sg_up_n (by decide), sg_up_n (by decide), sg_up_n (by decide), sg_up_n (by decide), u2 33 (by decide) (by decide), u2 34 (by decide) (by decide), u2 35 (by decide) (by decide), u2 1 (by decide) (by decide), b2, sg_up_n (by decide), sg_up_n (by decide), sg_up_n (by decide), sg_up_n (by decide), sg_up_n (by decide), sg_up_n (by decide)]
      exact hc.2.2 i hi
/-! SITTERS COME -/
theorem bX_come (a b c t : Int32) (f : sg_F) (L : sg_L) (hs : 0 ≤ (f 1 3).toInt ∧ (f 1 3).toInt < 8) : ∃ f1 : sg_F, sX0_comes a b c t f L = (f 1 3 + 1 - 1, f1) ∧ f1 2 = sgu (sgu (sgu (sgu (sgu (sgu (f 2) (8 * (f 1 3).toNatClampNeg) a) (8 * (f 1 3).toNatClampNeg + 1) b) (8 * (f 1 3).toNatClampNeg + 2) c) (8 * (f 1 3).toNatClampNeg + 3) 1) (8 * (f 1 3).toNatClampNeg + 4) 1) (8 * (f 1 3).toNatClampNeg + 5) t ∧ f1 1 3 = f 1 3 + 1 ∧ ∀ k : Nat, k ≠ 1 → k ≠ 2 → k ≠ 9 → f1 k = f k := by
  have k8 : (8 : Int32).toInt = 8 := by decide
  have k1 : (1 : Int32).toInt = 1 := by decide
  have k2 : (2 : Int32).toInt = 2 := by decide
  have k3 : (3 : Int32).toInt = 3 := by decide
  have k4 : (4 : Int32).toInt = 4 := by decide
  have k5 : (5 : Int32).toInt = 5 := by decide
  have em : (f 1 3 * 8).toInt = (f 1 3).toInt * 8 := bn_mulI k8 (by omega) (by omega)
  have cs := bn_clI hs.1
  have c0 := bn_clI (x := f 1 3 * 8) (by omega)
  have i1 : (f 1 3 * 8 + 1).toInt = (f 1 3 * 8).toInt + 1 := (bn_addI (by omega) (by omega)).trans (by omega)
  have i2 : (f 1 3 * 8 + 2).toInt = (f 1 3 * 8).toInt + 2 := (bn_addI (by omega) (by omega)).trans (by omega)
  have i3 : (f 1 3 * 8 + 3).toInt = (f 1 3 * 8).toInt + 3 := (bn_addI (by omega) (by omega)).trans (by omega)
  have i4 : (f 1 3 * 8 + 4).toInt = (f 1 3 * 8).toInt + 4 := (bn_addI (by omega) (by omega)).trans (by omega)
  have i5 : (f 1 3 * 8 + 5).toInt = (f 1 3 * 8).toInt + 5 := (bn_addI (by omega) (by omega)).trans (by omega)
  have c1 := bn_clI (x := f 1 3 * 8 + 1) (by omega)
  have c2 := bn_clI (x := f 1 3 * 8 + 2) (by omega)
  have c3 := bn_clI (x := f 1 3 * 8 + 3) (by omega)
  have c4 := bn_clI (x := f 1 3 * 8 + 4) (by omega)
  have c5 := bn_clI (x := f 1 3 * 8 + 5) (by omega)
  unfold sX0_comes; (repeat first | rw [spl_d] | rw [spl2_d])
  rw [if_pos hs.2]
  simp only [sg_up_s, sg_upup]
  rw [show (f 1 3 * 8).toNatClampNeg = 8 * (f 1 3).toNatClampNeg from by omega, show (f 1 3 * 8 + 1).toNatClampNeg = 8 * (f 1 3).toNatClampNeg + 1 from by omega, show (f 1 3 * 8 + 2).toNatClampNeg = 8 * (f 1 3).toNatClampNeg + 2 from by omega, show (f 1 3 * 8 + 3).toNatClampNeg = 8 * (f 1 3).toNatClampNeg + 3 from by omega, show (f 1 3 * 8 + 4).toNatClampNeg = 8 * (f 1 3).toNatClampNeg + 4 from by omega, show (f 1 3 * 8 + 5).toNatClampNeg = 8 * (f 1 3).toNatClampNeg + 5 from by omega]
  refine ⟨_, rfl, ?_, ?_, fun k h1 h2 h9 => ?_⟩
  · rw [sg_up_n (by decide), bX_forget _ _ _ 2 (by decide), sg_up_s]
  · rw [sg_up_s, sgu_s]
  · rw [sg_up_n h1, bX_forget _ _ _ k h9, sg_up_n h2]
theorem bM_clk {k x : Int32} {n : Nat} (hk : k.toInt = (n : Int)) (hn : n ≤ 56) (hs : 0 ≤ x.toInt ∧ x.toInt < 8) : (k + x).toNatClampNeg = n + x.toNatClampNeg := by
  have i : (k + x).toInt = k.toInt + x.toInt := bn_addI (by omega) (by omega)
  have c := bn_clI hs.1
  have c1 := bn_clI (x := k + x) (by omega)
  omega
theorem bM_adds (a b c t : Int32) (f : sg_F) (L : sg_L) (hs : 0 ≤ (f 0 6).toInt ∧ (f 0 6).toInt < 8) : sX12_adds a b c t f L 1 = sgu (sgu (sgu (sgu (sgu (sgu (sgu (sgu (f 1) (f 0 6).toNatClampNeg a) (8 + (f 0 6).toNatClampNeg) b) (16 + (f 0 6).toNatClampNeg) c) (24 + (f 0 6).toNatClampNeg) 1) (32 + (f 0 6).toNatClampNeg) 1) (40 + (f 0 6).toNatClampNeg) t) (48 + (f 0 6).toNatClampNeg) 0) (56 + (f 0 6).toNatClampNeg) 0 ∧ sX12_adds a b c t f L 0 = sgu (f 0) 6 (f 0 6 + 1) ∧ ∀ k : Nat, k ≠ 0 → k ≠ 1 → sX12_adds a b c t f L k = f k := by
  first
  | (have E : sX12_adds a b c t f L = sg_up (sg_up f 1 (sgu (sgu (sgu (sgu (sgu (sgu (sgu (sgu (f 1) (f 0 6).toNatClampNeg a) (8 + (f 0 6).toNatClampNeg) b) (16 + (f 0 6).toNatClampNeg) c) (24 + (f 0 6).toNatClampNeg) 1) (32 + (f 0 6).toNatClampNeg) 1) (40 + (f 0 6).toNatClampNeg) t) (48 + (f 0 6).toNatClampNeg) 0) (56 + (f 0 6).toNatClampNeg) 0)) 0 (sgu (f 0) 6 (f 0 6 + 1)) := by
       have e1 : ((8 : Int32) + f 0 6).toNatClampNeg = 8 + (f 0 6).toNatClampNeg := bM_clk (n := 8) (by decide) (by decide) hs
       have e2 : ((16 : Int32) + f 0 6).toNatClampNeg = 16 + (f 0 6).toNatClampNeg := bM_clk (n := 16) (by decide) (by decide) hs
       have e3 : ((24 : Int32) + f 0 6).toNatClampNeg = 24 + (f 0 6).toNatClampNeg := bM_clk (n := 24) (by decide) (by decide) hs
       have e4 : ((32 : Int32) + f 0 6).toNatClampNeg = 32 + (f 0 6).toNatClampNeg := bM_clk (n := 32) (by decide) (by decide) hs
       have e5 : ((40 : Int32) + f 0 6).toNatClampNeg = 40 + (f 0 6).toNatClampNeg := bM_clk (n := 40) (by decide) (by decide) hs
       have e6 : ((48 : Int32) + f 0 6).toNatClampNeg = 48 + (f 0 6).toNatClampNeg := bM_clk (n := 48) (by decide) (by decide) hs
       have e7 : ((56 : Int32) + f 0 6).toNatClampNeg = 56 + (f 0 6).toNatClampNeg := bM_clk (n := 56) (by decide) (by decide) hs
       unfold sX12_adds; simp only [spl_d, spl2_d, sg_up_s, sg_upup]
       rw [e1, e2, e3, e4, e5, e6, e7, sg_up_n (by decide)]
     rw [E]; exact ⟨by rw [sg_up_n (by decide), sg_up_s], by rw [sg_up_s], fun k h0 h1 => by rw [sg_up_n h0, sg_up_n h1]⟩)
  | (
     have k8 : (8 : Int32).toInt = 8 := by decide
     have k16 : (16 : Int32).toInt = 16 := by decide
     have k24 : (24 : Int32).toInt = 24 := by decide
     have k32 : (32 : Int32).toInt = 32 := by decide
     have k40 : (40 : Int32).toInt = 40 := by decide
     have k48 : (48 : Int32).toInt = 48 := by decide
     have k56 : (56 : Int32).toInt = 56 := by decide
     have cs := bn_clI hs.1
     have i1 : (8 + f 0 6).toInt = 8 + (f 0 6).toInt := (bn_addI (by omega) (by omega)).trans (by omega)
     have i2 : (16 + f 0 6).toInt = 16 + (f 0 6).toInt := (bn_addI (by omega) (by omega)).trans (by omega)
     have i3 : (24 + f 0 6).toInt = 24 + (f 0 6).toInt := (bn_addI (by omega) (by omega)).trans (by omega)
     have i4 : (32 + f 0 6).toInt = 32 + (f 0 6).toInt := (bn_addI (by omega) (by omega)).trans (by omega)
     have i5 : (40 + f 0 6).toInt = 40 + (f 0 6).toInt := (bn_addI (by omega) (by omega)).trans (by omega)
     have i6 : (48 + f 0 6).toInt = 48 + (f 0 6).toInt := (bn_addI (by omega) (by omega)).trans (by omega)
     have i7 : (56 + f 0 6).toInt = 56 + (f 0 6).toInt := (bn_addI (by omega) (by omega)).trans (by omega)
     have c1 := bn_clI (x := 8 + f 0 6) (by omega)
     have c2 := bn_clI (x := 16 + f 0 6) (by omega)
     have c3 := bn_clI (x := 24 + f 0 6) (by omega)
     have c4 := bn_clI (x := 32 + f 0 6) (by omega)
     have c5 := bn_clI (x := 40 + f 0 6) (by omega)
     have c6 := bn_clI (x := 48 + f 0 6) (by omega)
     have c7 := bn_clI (x := 56 + f 0 6) (by omega)
     unfold sX12_adds; simp only [spl_d, spl2_d, sg_up_s, sg_upup]
     rw [show (8 + f 0 6).toNatClampNeg = 8 + (f 0 6).toNatClampNeg from by omega, show (16 + f 0 6).toNatClampNeg = 16 + (f 0 6).toNatClampNeg from by omega, show (24 + f 0 6).toNatClampNeg = 24 + (f 0 6).toNatClampNeg from by omega, show (32 + f 0 6).toNatClampNeg = 32 + (f 0 6).toNatClampNeg from by omega, show (40 + f 0 6).toNatClampNeg = 40 + (f 0 6).toNatClampNeg from by omega, show (48 + f 0 6).toNatClampNeg = 48 + (f 0 6).toNatClampNeg from by omega, show (56 + f 0 6).toNatClampNeg = 56 + (f 0 6).toNatClampNeg from by omega]
     refine ⟨?_, ?_, fun k h0 h1 => ?_⟩
     · rw [sg_up_n (by decide), sg_up_s]
     · rw [sg_up_n (by decide)]
     · rw [sg_up_n h0, sg_up_n h1])
theorem rNum.come {fX fX1 fM fM1 : sg_F} (h : rNum fX fM) {a b c t : Int32} (hs : 0 ≤ (fX 1 3).toInt ∧ (fX 1 3).toInt < 8) (x1 : fX1 2 = sgu (sgu (sgu (sgu (sgu (sgu (fX 2) (8 * (fX 1 3).toNatClampNeg) a) (8 * (fX 1 3).toNatClampNeg + 1) b) (8 * (fX 1 3).toNatClampNeg + 2) c) (8 * (fX 1 3).toNatClampNeg + 3) 1) (8 * (fX 1 3).toNatClampNeg + 4) 1) (8 * (fX 1 3).toNatClampNeg + 5) t) (x2 : fX1 1 3 = fX 1 3 + 1) (m1 : fM1 1 = sgu (sgu (sgu (sgu (sgu (sgu (sgu (sgu (fM 1) (fM 0 6).toNatClampNeg a) (8 + (fM 0 6).toNatClampNeg) b) (16 + (fM 0 6).toNatClampNeg) c) (24 + (fM 0 6).toNatClampNeg) 1) (32 + (fM 0 6).toNatClampNeg) 1) (40 + (fM 0 6).toNatClampNeg) t) (48 + (fM 0 6).toNatClampNeg) 0) (56 + (fM 0 6).toNatClampNeg) 0) (m2 : fM1 0 6 = fM 0 6 + 1) : rNum fX1 fM1 := by
  have k1 : (1 : Int32).toInt = 1 := by decide
  have ee : fX 1 3 = fM 0 6 := Int32.toInt_inj.mp h.1
  rw [← ee] at m1 m2
  have e1 : (fX 1 3 + 1).toInt = (fX 1 3).toInt + 1 := (bn_addI (by omega) (by omega)).trans (by omega)
  have cs := bn_clI hs.1
  obtain ⟨S, eS⟩ : ∃ z : Nat, z = (fX 1 3).toNatClampNeg := ⟨_, rfl⟩
  rw [← eS] at x1 m1 cs
  have hS : S < 8 := by omega
  refine ⟨by rw [x2, m2], fun p hp => ?_, fun s h1 h2 => ?_⟩
  · rw [x1, m1]
    rcases (show p = 8 * S ∨ p = 8 * S + 1 ∨ p = 8 * S + 2 ∨ p = 8 * S + 3 ∨ p = 8 * S + 4 ∨ p = 8 * S + 5 ∨ p = 8 * S + 6 ∨ p = 8 * S + 7 ∨ (p / 8 ≠ S) from by omega) with q | q | q | q | q | q | q | q | q
    · have z := npl_s (a := S) (b := 0) hS (by omega)
      rw [q, show npl (8 * S) = S from by rw [← Nat.add_zero (8 * S), z]; omega]
      rw [sgu_n (by omega), sgu_n (by omega), sgu_n (by omega), sgu_n (by omega), sgu_n (by omega), sgu_s, sgu_n (by omega), sgu_n (by omega), sgu_n (by omega), sgu_n (by omega), sgu_n (by omega), sgu_n (by omega), sgu_n (by omega), sgu_s]
    · have z := npl_s (a := S) (b := 1) hS (by omega)
      rw [q, z, show 8 * 1 + S = 8 + S from by omega]
      rw [sgu_n (by omega), sgu_n (by omega), sgu_n (by omega), sgu_n (by omega), sgu_s, sgu_n (by omega), sgu_n (by omega), sgu_n (by omega), sgu_n (by omega), sgu_n (by omega), sgu_n (by omega), sgu_s]
    · have z := npl_s (a := S) (b := 2) hS (by omega)
      rw [q, z, show 8 * 2 + S = 16 + S from by omega]
      rw [sgu_n (by omega), sgu_n (by omega), sgu_n (by omega), sgu_s, sgu_n (by omega), sgu_n (by omega), sgu_n (by omega), sgu_n (by omega), sgu_n (by omega), sgu_s]
    · have z := npl_s (a := S) (b := 3) hS (by omega)
      rw [q, z, show 8 * 3 + S = 24 + S from by omega]
      rw [sgu_n (by omega), sgu_n (by omega), sgu_s, sgu_n (by omega), sgu_n (by omega), sgu_n (by omega), sgu_n (by omega), sgu_s]
    · have z := npl_s (a := S) (b := 4) hS (by omega)
      rw [q, z, show 8 * 4 + S = 32 + S from by omega]
      rw [sgu_n (by omega), sgu_s, sgu_n (by omega), sgu_n (by omega), sgu_n (by omega), sgu_s]
    · have z := npl_s (a := S) (b := 5) hS (by omega)
      rw [q, z, show 8 * 5 + S = 40 + S from by omega]
      rw [sgu_s, sgu_n (by omega), sgu_n (by omega), sgu_s]
    · have z := npl_s (a := S) (b := 6) hS (by omega)
      rw [q, z, show 8 * 6 + S = 48 + S from by omega]
      rw [sgu_n (by omega), sgu_n (by omega), sgu_n (by omega), sgu_n (by omega), sgu_n (by omega), sgu_n (by omega), sgu_n (by omega), sgu_s]
      exact (h.2.2 S (by omega) hS).1
    · have z := npl_s (a := S) (b := 7) hS (by omega)
      rw [q, z, show 8 * 7 + S = 56 + S from by omega]
      rw [sgu_n (by omega), sgu_n (by omega), sgu_n (by omega), sgu_n (by omega), sgu_n (by omega), sgu_n (by omega), sgu_s]
      exact (h.2.2 S (by omega) hS).2
    · have hn : ∀ w : Nat, w < 8 → npl p ≠ 8 * w + S := by
        intro w hw z
        rw [← npl_s hS hw] at z
        have := npl_inj z
        omega
      have g0 := hn 0 (by omega)
      have g1 := hn 1 (by omega)
      have g2 := hn 2 (by omega)
      have g3 := hn 3 (by omega)
      have g4 := hn 4 (by omega)
      have g5 := hn 5 (by omega)
      have g6 := hn 6 (by omega)
      have g7 := hn 7 (by omega)
      rw [sgu_n (by omega), sgu_n (by omega), sgu_n (by omega), sgu_n (by omega), sgu_n (by omega), sgu_n (by omega), sgu_n (by omega), sgu_n (by omega), sgu_n (by omega), sgu_n (by omega), sgu_n (by omega), sgu_n (by omega), sgu_n (by omega), sgu_n (by omega)]
      exact h.2.1 p hp
  · rw [x2, e1] at h1
    rw [x1]
    rw [sgu_n (by omega), sgu_n (by omega), sgu_n (by omega), sgu_n (by omega), sgu_n (by omega), sgu_n (by omega), sgu_n (by omega), sgu_n (by omega), sgu_n (by omega), sgu_n (by omega), sgu_n (by omega), sgu_n (by omega)]
    exact h.2.2 s (by omega) h2
theorem rNum.sitter {fX fX1 fM fM1 : sg_F} {LX LM : sg_L} {v t r1 r2 : Int32} (h : rNum fX fM) (hI : sgI loX hiX fX) (e1 : (r1, fX1) = sX11_sitter v t fX LX) (e2 : (r2, fM1) = sX12_sitter v t fM LM) : r1 = r2 ∧ rNum fX1 fM1 ∧ (fX 1 3).toInt ≤ (fX1 1 3).toInt := by
  have hb : 0 ≤ (fX 1 3).toInt ∧ (fX 1 3).toInt ≤ 8 := hI 1 3
  have ee : fX 1 3 = fM 0 6 := Int32.toInt_inj.mp h.1
  have k1 : (1 : Int32).toInt = 1 := by decide
  have j1 : (1 : Int64).toInt = 1 := by decide
  have j12 : (12 : Int64).toInt = 12 := by decide
  have ev := Int32.toInt_toInt64 v
  have et := Int32.toInt_toInt64 t
  have e5 : (5 : Int32).toInt = 5 := by decide
  have l5 : mlo 5 = 1 := by decide
  have h5 : mhi 5 = 12 := by decide
  unfold sX11_sitter at e1; (repeat first | rw [spl_d] at e1 | rw [spl2_d] at e1)
  unfold sX12_sitter at e2; (repeat first | rw [spl_d] at e2 | rw [spl2_d] at e2)
  rw [pX_isSetting, pX_fits t fX LX (by rw [e5]; decide), e5, l5, h5] at e1
  rw [pM_isSetting, pM_within, ev, et, j1, j12, ← ee] at e2
  by_cases c1 : 0 ≤ v.toInt ∧ v.toInt ≤ 60
  case neg =>
    rw [if_neg c1, if_neg zk0] at e1 e2
    obtain ⟨a1, b1⟩ := Prod.mk.inj e1
    obtain ⟨a2, b2⟩ := Prod.mk.inj e2
    rw [a1, a2, b1, b2]; exact ⟨rfl, h, Int.le_refl _⟩
  rw [if_pos c1, if_pos rfl] at e1 e2
  by_cases c2 : 1 ≤ t.toInt ∧ t.toInt ≤ 12
  case neg =>
    rw [if_neg c2, if_neg zk0] at e1 e2
    obtain ⟨a1, b1⟩ := Prod.mk.inj e1
    obtain ⟨a2, b2⟩ := Prod.mk.inj e2
    rw [a1, a2, b1, b2]; exact ⟨rfl, h, Int.le_refl _⟩
  rw [if_pos c2, if_pos rfl] at e1 e2
  by_cases c3 : (fX 1 3).toInt < 8
  · rw [if_neg (by omega)] at e2
    obtain ⟨f1, q1, q2, q3, q4⟩ := bX_come v v v t fX LX ⟨hb.1, c3⟩
    obtain ⟨u1, u2, u3⟩ := bM_adds v v v t fM LM (by rw [← ee]; exact ⟨hb.1, c3⟩)
    rw [q1] at e1
    obtain ⟨a1, b1⟩ := Prod.mk.inj e1
    obtain ⟨a2, b2⟩ := Prod.mk.inj e2
    have u0 : sX12_adds v v v t fM LM 0 6 = fX 1 3 + 1 := by rw [u2, sgu_s, ee]
    have e9 : (fX 1 3 + 1).toInt = (fX 1 3).toInt + 1 := (bn_addI (by omega) (by omega)).trans (by omega)
    refine ⟨by rw [a1, a2, u0], ?_, ?_⟩
    · rw [b1, b2]
      exact h.come ⟨hb.1, c3⟩ q2 q3 u1 (by rw [u0, ee])
    · rw [b1]; show (fX 1 3).toInt ≤ (f1 1 3).toInt; rw [q3, e9]; omega
  · rw [if_pos (by omega)] at e2
    have e1 : (r1, fX1) = sX0_comes v v v t fX LX := e1
    unfold sX0_comes at e1; (repeat first | rw [spl_d] at e1 | rw [spl2_d] at e1)
    rw [if_neg c3] at e1
    obtain ⟨a1, b1⟩ := Prod.mk.inj e1
    obtain ⟨a2, b2⟩ := Prod.mk.inj e2
    rw [a1, a2, b1, b2]; exact ⟨rfl, h, Int.le_refl _⟩
/-! elements of rows of bytes are bytes -/
def rByte (fX : sg_F) (LX : sg_L) : Prop := ∀ t : Nat, t < 6 → (fX (40 + 2 * t) 1).toInt = 0 → ∀ i : Nat, (i : Int) < (fX (40 + 2 * t) 2).toInt → -128 ≤ (LX (41 + 2 * t) i).toInt ∧ (LX (41 + 2 * t) i).toInt ≤ 127
theorem rByte.zero : rByte f0X L0 := by
  intro t ht h
  rw [f0X_sh ht, sgu_s] at h
  exact absurd h (by decide)
theorem rByte.fr {fX fX1 : sg_F} {LX : sg_L} (h : rByte fX LX) (a : ∀ t j : Nat, fX1 (40 + 2 * t) j = fX (40 + 2 * t) j) : rByte fX1 LX := by
  intro t ht h1 i hi
  rw [a] at h1 hi
  exact h t ht h1 i hi
theorem rByte.keep {fX fX1 : sg_F} {LX : sg_L} {d w r : Int32} (h : rByte fX LX) (e1 : (r, fX1) = sX11_keep d w fX LX) : rByte fX1 LX := by
  rw [bX_keep] at e1
  by_cases q : 0 ≤ d.toInt ∧ d.toInt ≤ 5 ∧ -1 ≤ w.toInt ∧ w.toInt < (fX 36 2).toInt
  · rw [if_pos q] at e1
    obtain ⟨-, a⟩ := Prod.mk.inj e1
    intro t ht h1 i hi
    by_cases z : t = d.toNatClampNeg
    · exfalso
      rw [a, z, shD_s1] at h1
      by_cases y : w.toInt < 0
      · rw [if_pos y] at h1; exact absurd h1 (by decide)
      · rw [if_neg y] at h1; exact absurd h1 (by decide)
    · rw [a, shD_n (by omega)] at h1 hi
      exact h t ht h1 i hi
  · rw [if_neg q] at e1
    obtain ⟨-, a⟩ := Prod.mk.inj e1
    rw [a]; exact h
theorem rByte.row {fX fX1 : sg_F} {LX LX1 : sg_L} {d s n r : Int32} (h : rByte fX LX) (e1 : (r, fX1, LX1) = sX11_row d s n fX LX) : rByte fX1 LX1 := by
  have h1 := bX_row d s n fX LX
  rw [← e1] at h1
  rcases h1 with ⟨q1, q2, q3, q4, q5, q6, q⟩ | ⟨q, r9, g⟩
  · obtain ⟨-, a⟩ := Prod.mk.inj q
    obtain ⟨a, b⟩ := Prod.mk.inj a
    intro t ht h1 i hi
    by_cases z : t = d.toNatClampNeg
    · rw [a, z, shR_s2] at hi
      rw [b, z, sg_up_s]
      unfold zfill
      rw [if_pos ⟨Nat.zero_le _, by have := bn_clI (x := n) (by omega); omega⟩]
      decide
    · rw [a, shR_n (by omega)] at h1 hi
      rw [b, sg_up_n (by omega)]
      exact h t ht h1 i hi
  · obtain ⟨-, a⟩ := Prod.mk.inj g
    obtain ⟨a, b⟩ := Prod.mk.inj a
    rw [a, b]; exact h
theorem byte_cut (v : Int64) : -128 ≤ (cutF 0 v).toInt ∧ (cutF 0 v).toInt ≤ 127 := by
  unfold cutF
  rw [if_pos rfl, Int32.toInt_toInt64, Int8.toInt_toInt32]
  have h1 := Int8.le_toInt (Int32.toInt8 (Int64.toInt32 v))
  have h2 := Int8.toInt_lt (Int32.toInt8 (Int64.toInt32 v))
  exact ⟨by omega, by omega⟩
theorem rByte.put {fX : sg_F} {LX LX1 : sg_L} {d i r : Int32} {v : Int64} (h : rByte fX LX) (hI : sgI loX hiX fX) (e1 : (r, LX1) = sX11_put d i v fX LX) : rByte fX LX1 := by
  obtain ⟨hs, hb⟩ := shB hI
  have a1 := rfX_at d i fX LX hs hb
  have o1 := okX_iff a1
  unfold sX11_put at e1; (repeat first | rw [spl_d] at e1 | rw [spl2_d] at e1)
  rw [bX_cut] at e1
  by_cases q : sX11_refusalAt d i fX LX = 0
  · rw [if_pos q] at e1
    obtain ⟨-, b⟩ := Prod.mk.inj e1
    intro t ht h1 j hj
    rw [b]
    by_cases z : t = d.toNatClampNeg
    · rw [z, sg_up_s]
      by_cases y : j = i.toNatClampNeg
      · rw [y, sgu_s, ← z, h1]; exact byte_cut v
      · rw [sgu_n y, ← z]; exact h t ht h1 j hj
    · rw [sg_up_n (by omega)]; exact h t ht h1 j hj
  · rw [if_neg q] at e1
    obtain ⟨-, b⟩ := Prod.mk.inj e1
    rw [b]; exact h
/-- what shift leaves of the class's elements -/
theorem bX_shift (d i e j n : Int32) (f : sg_F) (L : sg_L) (hI : sgI loX hiX f) : (sX11_shift d i e j n f L).2 = L ∨ (0 ≤ d.toInt ∧ d.toInt ≤ 5 ∧ 0 ≤ e.toInt ∧ e.toInt ≤ 5 ∧ 0 ≤ i.toInt ∧ 0 ≤ j.toInt ∧ 0 ≤ n.toInt ∧ (f (40 + 2 * d.toNatClampNeg) 1).toInt = (f (40 + 2 * e.toNatClampNeg) 1).toInt ∧ i.toInt + n.toInt ≤ (f (40 + 2 * d.toNatClampNeg) 2).toInt ∧ j.toInt + n.toInt ≤ (f (40 + 2 * e.toNatClampNeg) 2).toInt ∧ (sX11_shift d i e j n f L).2 = sg_up L (41 + 2 * e.toNatClampNeg) (va_cpy (L (41 + 2 * d.toNatClampNeg)) (L (41 + 2 * e.toNatClampNeg)) i.toNatClampNeg j.toNatClampNeg n.toNatClampNeg)) := by
  obtain ⟨hs, hb⟩ := shB hI
  have k0 : (0 : Int32).toInt = 0 := by decide
  have k1 : (1 : Int32).toInt = 1 := by decide
  unfold sX11_shift sX7_isRow; (repeat first | rw [spl_d] | rw [spl2_d])
  rw [pX_isShelf, pX_isShelf]
  by_cases q1 : 0 ≤ d.toInt ∧ d.toInt ≤ 5
  case neg => rw [if_neg q1, if_neg zk0]; exact Or.inl rfl
  by_cases q2 : 0 ≤ e.toInt ∧ e.toInt ≤ 5
  case neg => rw [if_pos q1, if_pos rfl, if_neg q2, if_neg zk0]; exact Or.inl rfl
  have ed := bn_clI q1.1
  have ee := bn_clI q2.1
  rw [pX_hasPlaces _ _ _ _ _ (hb d.toNatClampNeg (by omega)), pX_hasPlaces _ _ _ _ _ (hb e.toNatClampNeg (by omega)), if_pos q1, if_pos rfl, if_pos q2, if_pos rfl]
  by_cases q3 : (f (40 + 2 * d.toNatClampNeg) 1).toInt = -1
  · rw [if_pos q3]; exact Or.inl rfl
  rw [if_neg q3]
  by_cases q4 : (f (40 + 2 * e.toNatClampNeg) 1).toInt = -1
  · rw [if_pos q4]; exact Or.inl rfl
  rw [if_neg q4]
  by_cases q5 : (f (40 + 2 * d.toNatClampNeg) 1).toInt < 0
  · rw [if_pos q5, if_pos k0]; exact Or.inl rfl
  rw [if_neg q5, if_neg (by rw [k1]; decide)]
  by_cases q6 : (f (40 + 2 * d.toNatClampNeg) 1).toInt = (f (40 + 2 * e.toNatClampNeg) 1).toInt
  case neg => rw [if_neg q6]; exact Or.inl rfl
  rw [if_pos q6]
  by_cases q7 : 0 ≤ i.toInt ∧ 0 ≤ n.toInt ∧ i.toInt + n.toInt ≤ (f (40 + 2 * d.toNatClampNeg) 2).toInt
  case neg => rw [if_neg q7, if_neg zk0]; exact Or.inl rfl
  rw [if_pos q7, if_pos rfl]
  by_cases q8 : 0 ≤ j.toInt ∧ 0 ≤ n.toInt ∧ j.toInt + n.toInt ≤ (f (40 + 2 * e.toNatClampNeg) 2).toInt
  case neg => rw [if_neg q8, if_neg zk0]; exact Or.inl rfl
  rw [if_pos q8, if_pos rfl]
  exact Or.inr ⟨q1.1, q1.2, q2.1, q2.2, q7.1, q8.1, q7.2.1, q6, q7.2.2, q8.2.2, rfl⟩
theorem rByte.shift {fX : sg_F} {LX LX1 : sg_L} {d i e j n r : Int32} (h : rByte fX LX) (hI : sgI loX hiX fX) (e1 : (r, LX1) = sX11_shift d i e j n fX LX) : rByte fX LX1 := by
  have a := bX_shift d i e j n fX LX hI
  rw [← e1] at a
  rcases a with a | ⟨q1, q2, q3, q4, q5, q6, q7, q8, q9, q10, a⟩
  · have a : LX1 = LX := a
    rw [a]; exact h
  · have a : LX1 = _ := a
    have ed := bn_clI q1
    have ee := bn_clI q3
    have ei := bn_clI q5
    have ej := bn_clI q6
    have en := bn_clI q7
    intro t ht h1 x hx
    rw [a]
    by_cases z : t = e.toNatClampNeg
    · rw [z, sg_up_s]
      unfold va_cpy
      by_cases w : j.toNatClampNeg ≤ x ∧ x < j.toNatClampNeg + n.toNatClampNeg
      · rw [if_pos w]
        exact h d.toNatClampNeg (by omega) (by rw [q8, ← z]; exact h1) _ (by omega)
      · rw [if_neg w, ← z]; exact h t ht h1 x hx
    · rw [sg_up_n (by omega)]; exact h t ht h1 x hx
/-! sitters from a row -/
theorem l2i_byte {w : Int64} (h : -128 ≤ w.toInt ∧ w.toInt ≤ 127) : (Int64.toInt32 w).toInt = w.toInt := bn_l2i (by omega) (by omega)
/-- a step from the row: who comes, on both sides -/
theorem bX_from (t : Nat) (x : Int32) (f : sg_F) (L : sg_L) (hx : 0 ≤ x.toInt ∧ x.toInt ≤ 56) (hb : 0 ≤ (f 1 3).toInt ∧ (f 1 3).toInt ≤ 8) (hw : ∀ q : Nat, q < 4 → -128 ≤ (L (41 + 2 * t) (x.toNatClampNeg + q)).toInt ∧ (L (41 + 2 * t) (x.toNatClampNeg + q)).toInt ≤ 127) : sX11_comesFrom t x f L = if ((0 ≤ (L (41 + 2 * t) x.toNatClampNeg).toInt ∧ (L (41 + 2 * t) x.toNatClampNeg).toInt ≤ 60) ∧ (0 ≤ (L (41 + 2 * t) (x.toNatClampNeg + 1)).toInt ∧ (L (41 + 2 * t) (x.toNatClampNeg + 1)).toInt ≤ 60) ∧ (0 ≤ (L (41 + 2 * t) (x.toNatClampNeg + 2)).toInt ∧ (L (41 + 2 * t) (x.toNatClampNeg + 2)).toInt ≤ 60) ∧ (1 ≤ (L (41 + 2 * t) (x.toNatClampNeg + 3)).toInt ∧ (L (41 + 2 * t) (x.toNatClampNeg + 3)).toInt ≤ 12)) ∧ (f 1 3).toInt < 8 then (1, (sX0_comes (Int64.toInt32 (L (41 + 2 * t) x.toNatClampNeg)) (Int64.toInt32 (L (41 + 2 * t) (x.toNatClampNeg + 1))) (Int64.toInt32 (L (41 + 2 * t) (x.toNatClampNeg + 2))) (Int64.toInt32 (L (41 + 2 * t) (x.toNatClampNeg + 3))) f L).2) else (0, f) := by
  have k1 : (1 : Int32).toInt = 1 := by decide
  have k2 : (2 : Int32).toInt = 2 := by decide
  have k3 : (3 : Int32).toInt = 3 := by decide
  have m3 : (-3 : Int32).toInt = -3 := by decide
  have e5 : (5 : Int32).toInt = 5 := by decide
  have l5 : mlo 5 = 1 := by decide
  have h5 : mhi 5 = 12 := by decide
  have c0 := bn_clI hx.1
  have i1 : (x + 1).toInt = x.toInt + 1 := (bn_addI (by omega) (by omega)).trans (by omega)
  have i2 : (x + 2).toInt = x.toInt + 2 := (bn_addI (by omega) (by omega)).trans (by omega)
  have i3 : (x + 3).toInt = x.toInt + 3 := (bn_addI (by omega) (by omega)).trans (by omega)
  have c1 := bn_clI (x := x + 1) (by omega)
  have c2 := bn_clI (x := x + 2) (by omega)
  have c3 := bn_clI (x := x + 3) (by omega)
  have w0 := hw 0 (by omega)
  have w1 := hw 1 (by omega)
  have w2 := hw 2 (by omega)
  have w3 := hw 3 (by omega)
  rw [Nat.add_zero] at w0
  unfold sX11_comesFrom; (repeat first | rw [spl_d] | rw [spl2_d])
  rw [show (x + 1).toNatClampNeg = x.toNatClampNeg + 1 from by omega, show (x + 2).toNatClampNeg = x.toNatClampNeg + 2 from by omega, show (x + 3).toNatClampNeg = x.toNatClampNeg + 3 from by omega]
  rw [pX_isSetting, pX_isSetting, pX_isSetting, pX_fits _ f L (by rw [e5]; decide), e5, l5, h5, l2i_byte w0, l2i_byte w1, l2i_byte w2, l2i_byte w3]
  by_cases q0 : 0 ≤ (L (41 + 2 * t) x.toNatClampNeg).toInt ∧ (L (41 + 2 * t) x.toNatClampNeg).toInt ≤ 60
  case neg => rw [if_neg q0, if_neg zk0, if_neg (fun z => q0 z.1.1)]
  rw [if_pos q0, if_pos rfl]
  by_cases q1 : 0 ≤ (L (41 + 2 * t) (x.toNatClampNeg + 1)).toInt ∧ (L (41 + 2 * t) (x.toNatClampNeg + 1)).toInt ≤ 60
  case neg => rw [if_neg q1, if_neg zk0, if_neg (fun z => q1 z.1.2.1)]
  rw [if_pos q1, if_pos rfl]
  by_cases q2 : 0 ≤ (L (41 + 2 * t) (x.toNatClampNeg + 2)).toInt ∧ (L (41 + 2 * t) (x.toNatClampNeg + 2)).toInt ≤ 60
  case neg => rw [if_neg q2, if_neg zk0, if_neg (fun z => q2 z.1.2.2.1)]
  rw [if_pos q2, if_pos rfl]
  by_cases q3 : 1 ≤ (L (41 + 2 * t) (x.toNatClampNeg + 3)).toInt ∧ (L (41 + 2 * t) (x.toNatClampNeg + 3)).toInt ≤ 12
  case neg => rw [if_neg q3, if_neg zk0, if_neg (fun z => q3 z.1.2.2.2)]
  rw [if_pos q3, if_pos rfl]
  by_cases q4 : (f 1 3).toInt < 8
  · refine Eq.trans ?_ (if_pos ⟨⟨q0, q1, q2, q3⟩, q4⟩).symm
    obtain ⟨f1, z1, -, -, -⟩ := bX_come (Int64.toInt32 (L (41 + 2 * t) x.toNatClampNeg)) (Int64.toInt32 (L (41 + 2 * t) (x.toNatClampNeg + 1))) (Int64.toInt32 (L (41 + 2 * t) (x.toNatClampNeg + 2))) (Int64.toInt32 (L (41 + 2 * t) (x.toNatClampNeg + 3))) f L ⟨hb.1, q4⟩
    have e9 : (f 1 3 + 1).toInt = (f 1 3).toInt + 1 := (bn_addI (by omega) (by omega)).trans (by omega)
    have e8 : (f 1 3 + 1 - 1).toInt = (f 1 3 + 1).toInt - 1 := (bn_subI (by omega) (by omega)).trans (by omega)
    rw [z1, if_neg (show ¬ (f 1 3 + 1 - 1).toInt < 0 from by omega)]
  · refine Eq.trans ?_ (if_neg (fun z => q4 z.2)).symm
    have z1 : sX0_comes (Int64.toInt32 (L (41 + 2 * t) x.toNatClampNeg)) (Int64.toInt32 (L (41 + 2 * t) (x.toNatClampNeg + 1))) (Int64.toInt32 (L (41 + 2 * t) (x.toNatClampNeg + 2))) (Int64.toInt32 (L (41 + 2 * t) (x.toNatClampNeg + 3))) f L = (-3, f) := by
      unfold sX0_comes; (repeat first | rw [spl_d] | rw [spl2_d])
      rw [if_neg q4]
    rw [z1, if_pos (show (-3 : Int32).toInt < 0 from by decide)]
theorem bX_from1 (t : Nat) (x : Int32) (f : sg_F) (L : sg_L) (hx : 0 ≤ x.toInt ∧ x.toInt ≤ 56) (hb : 0 ≤ (f 1 3).toInt ∧ (f 1 3).toInt ≤ 8) (hw : ∀ q : Nat, q < 4 → -128 ≤ (L (41 + 2 * t) (x.toNatClampNeg + q)).toInt ∧ (L (41 + 2 * t) (x.toNatClampNeg + q)).toInt ≤ 127) (c : ((0 ≤ (L (41 + 2 * t) x.toNatClampNeg).toInt ∧ (L (41 + 2 * t) x.toNatClampNeg).toInt ≤ 60) ∧ (0 ≤ (L (41 + 2 * t) (x.toNatClampNeg + 1)).toInt ∧ (L (41 + 2 * t) (x.toNatClampNeg + 1)).toInt ≤ 60) ∧ (0 ≤ (L (41 + 2 * t) (x.toNatClampNeg + 2)).toInt ∧ (L (41 + 2 * t) (x.toNatClampNeg + 2)).toInt ≤ 60) ∧ (1 ≤ (L (41 + 2 * t) (x.toNatClampNeg + 3)).toInt ∧ (L (41 + 2 * t) (x.toNatClampNeg + 3)).toInt ≤ 12)) ∧ (f 1 3).toInt < 8) : sX11_comesFrom t x f L = (1, (sX0_comes (Int64.toInt32 (L (41 + 2 * t) x.toNatClampNeg)) (Int64.toInt32 (L (41 + 2 * t) (x.toNatClampNeg + 1))) (Int64.toInt32 (L (41 + 2 * t) (x.toNatClampNeg + 2))) (Int64.toInt32 (L (41 + 2 * t) (x.toNatClampNeg + 3))) f L).2) := (bX_from t x f L hx hb hw).trans (if_pos c)
theorem bX_from0 (t : Nat) (x : Int32) (f : sg_F) (L : sg_L) (hx : 0 ≤ x.toInt ∧ x.toInt ≤ 56) (hb : 0 ≤ (f 1 3).toInt ∧ (f 1 3).toInt ≤ 8) (hw : ∀ q : Nat, q < 4 → -128 ≤ (L (41 + 2 * t) (x.toNatClampNeg + q)).toInt ∧ (L (41 + 2 * t) (x.toNatClampNeg + q)).toInt ≤ 127) (c : ¬ (((0 ≤ (L (41 + 2 * t) x.toNatClampNeg).toInt ∧ (L (41 + 2 * t) x.toNatClampNeg).toInt ≤ 60) ∧ (0 ≤ (L (41 + 2 * t) (x.toNatClampNeg + 1)).toInt ∧ (L (41 + 2 * t) (x.toNatClampNeg + 1)).toInt ≤ 60) ∧ (0 ≤ (L (41 + 2 * t) (x.toNatClampNeg + 2)).toInt ∧ (L (41 + 2 * t) (x.toNatClampNeg + 2)).toInt ≤ 60) ∧ (1 ≤ (L (41 + 2 * t) (x.toNatClampNeg + 3)).toInt ∧ (L (41 + 2 * t) (x.toNatClampNeg + 3)).toInt ≤ 12)) ∧ (f 1 3).toInt < 8)) : sX11_comesFrom t x f L = (0, f) := (bX_from t x f L hx hb hw).trans (if_neg c)
theorem bM_stop (d i n y : Int32) (m : Nat) (g : sg_F) (L : sg_L) : sX12_sitters_l69 d i n (m + 1) y 0 g L = (y, g) := by
  show sX12_sitters_h69 d i n (sX12_sitters_l69 d i n m) y 0 g L = (y, g)
  unfold sX12_sitters_h69; (repeat first | rw [spl_d] | rw [spl2_d])
  rw [if_pos (by decide)]
theorem from_two (d i n u : Int32) (len : Int) (LX LM : sg_L) (hd : 0 ≤ d.toInt ∧ d.toInt ≤ 5) (hi : 0 ≤ i.toInt) (hn : 1 ≤ n.toInt ∧ n.toInt ≤ 8) (hlen : 0 ≤ len ∧ len ≤ 60) (hel : ∀ j : Nat, (j : Int) < len → LX (41 + 2 * d.toNatClampNeg) j = LM 24 (60 * d.toNatClampNeg + j)) (hby : ∀ j : Nat, (j : Int) < len → -128 ≤ (LX (41 + 2 * d.toNatClampNeg) j).toInt ∧ (LX (41 + 2 * d.toNatClampNeg) j).toInt ≤ 127) : ∀ (m m2 : Nat) (y z : Int32) (f g : sg_F), z.toInt = i.toInt + 4 * y.toInt → (y.toInt = 0 ∨ z.toInt ≤ len) → 0 ≤ y.toInt → y.toInt ≤ n.toInt → n.toInt - y.toInt < (m : Int) → n.toInt - y.toInt + 2 < (m2 : Int) → (f (40 + 2 * d.toNatClampNeg) 2).toInt = len → (g 23 d.toNatClampNeg).toInt = len → rNum f g → 0 ≤ (f 1 3).toInt ∧ (f 1 3).toInt ≤ 8 → ∃ (r : Int32) (f1 g1 : sg_F), sX11_fromRow_l6 d.toNatClampNeg u n m y z f LX = (r, f1) ∧ sX12_sitters_l69 d i n m2 y 1 g LM = (r, g1) ∧ rNum f1 g1 ∧ (f 1 3).toInt ≤ (f1 1 3).toInt := by
  have k1 : (1 : Int32).toInt = 1 := by decide
  have k0 : (0 : Int32).toInt = 0 := by decide
  have k2 : (2 : Int32).toInt = 2 := by decide
  have k3 : (3 : Int32).toInt = 3 := by decide
  have k4 : (4 : Int32).toInt = 4 := by decide
  have k60 : (60 : Int32).toInt = 60 := by decide
  have j0 : (0 : Int64).toInt = 0 := by decide
  have j1 : (1 : Int64).toInt = 1 := by decide
  have j12 : (12 : Int64).toInt = 12 := by decide
  have cd := bn_clI hd.1
  intro m
  induction m with
  | zero => intro m2 y z f g _ _ _ _ h; exact absurd h (by omega)
  | succ m ih =>
    intro m2 y z f g hz hzl hy hyn hm hm2 hf hg hN hb
    match m2, hm2 with
    | 0, h => exact absurd h (by omega)
    | 1, h => exact absurd h (by omega)
    | m2 + 2, hm2 =>
      have gx : sX11_fromRow_l6 d.toNatClampNeg u n (m + 1) y z f LX = sX11_fromRow_h6 d.toNatClampNeg u n (sX11_fromRow_l6 d.toNatClampNeg u n m) y z f LX := rfl
      have gm : sX12_sitters_l69 d i n (m2 + 2) y 1 g LM = sX12_sitters_h69 d i n (sX12_sitters_l69 d i n (m2 + 1)) y 1 g LM := rfl
      rw [gx, gm]
      unfold sX11_fromRow_h6 sX12_sitters_h69; (repeat first | rw [spl_d] | rw [spl2_d])
      rw [if_neg (show ¬ (1 : Int32).toInt = 0 by decide)]
      by_cases c1 : y.toInt < n.toInt
      case neg => rw [if_neg c1, if_neg c1]; exact ⟨y, f, g, rfl, rfl, hN, Int.le_refl _⟩
      rw [if_pos c1, if_pos c1, pX_hasPlaces _ _ _ _ _ (by omega), hf, k4]
      have e1 : (g 23 d.toNatClampNeg - 4).toInt = (g 23 d.toNatClampNeg).toInt - 4 := (bn_subI (by omega) (by omega)).trans (by omega)
      have e2 : (4 * y).toInt = 4 * y.toInt := bn_mulJ k4 (by omega) (by omega)
      have e3 : (g 23 d.toNatClampNeg - 4 - 4 * y).toInt = (g 23 d.toNatClampNeg - 4).toInt - (4 * y).toInt := bn_subI (by omega) (by omega)
      rw [e3, e1, e2, hg]
      by_cases c2 : 0 ≤ z.toInt ∧ (0 : Int) ≤ 4 ∧ z.toInt + 4 ≤ len
      case neg =>
        rw [if_neg c2, if_neg zk0, if_pos (by omega), bM_stop]
        exact ⟨y, f, g, rfl, rfl, hN, Int.le_refl _⟩
      rw [if_pos c2, if_pos rfl, if_neg (show ¬ len - 4 - 4 * y.toInt < i.toInt from by omega)]
      have ee : f 1 3 = g 0 6 := Int32.toInt_inj.mp hN.1
      have cz := bn_clI c2.1
      have em : (60 * d).toInt = 60 * d.toInt := bn_mulJ k60 (by omega) (by omega)
      have ea : (60 * d + i).toInt = (60 * d).toInt + i.toInt := bn_addI (by omega) (by omega)
      have ek : (60 * d + i + 4 * y).toInt = (60 * d + i).toInt + (4 * y).toInt := bn_addI (by omega) (by omega)
      have ck := bn_clI (x := 60 * d + i + 4 * y) (by omega)
      have q1 : (60 * d + i + 4 * y + 1).toInt = (60 * d + i + 4 * y).toInt + 1 := (bn_addI (by omega) (by omega)).trans (by omega)
      have q2 : (60 * d + i + 4 * y + 2).toInt = (60 * d + i + 4 * y).toInt + 2 := (bn_addI (by omega) (by omega)).trans (by omega)
      have q3 : (60 * d + i + 4 * y + 3).toInt = (60 * d + i + 4 * y).toInt + 3 := (bn_addI (by omega) (by omega)).trans (by omega)
      have ck1 := bn_clI (x := 60 * d + i + 4 * y + 1) (by omega)
      have ck2 := bn_clI (x := 60 * d + i + 4 * y + 2) (by omega)
      have ck3 := bn_clI (x := 60 * d + i + 4 * y + 3) (by omega)
      have w0 : LM 24 (60 * d + i + 4 * y).toNatClampNeg = LX (41 + 2 * d.toNatClampNeg) z.toNatClampNeg := by rw [hel _ (by omega)]; exact congrArg _ (by omega)
      have w1 : LM 24 (60 * d + i + 4 * y + 1).toNatClampNeg = LX (41 + 2 * d.toNatClampNeg) (z.toNatClampNeg + 1) := by rw [hel _ (by omega)]; exact congrArg _ (by omega)
      have w2 : LM 24 (60 * d + i + 4 * y + 2).toNatClampNeg = LX (41 + 2 * d.toNatClampNeg) (z.toNatClampNeg + 2) := by rw [hel _ (by omega)]; exact congrArg _ (by omega)
      have w3 : LM 24 (60 * d + i + 4 * y + 3).toNatClampNeg = LX (41 + 2 * d.toNatClampNeg) (z.toNatClampNeg + 3) := by rw [hel _ (by omega)]; exact congrArg _ (by omega)
      rw [w0, w1, w2, w3, pM_isSetting, pM_isSetting, pM_isSetting, pM_within, j1, j12, ← ee]
      have F0 := bX_from0 d.toNatClampNeg z f LX ⟨c2.1, by omega⟩ hb (fun q hq => hby _ (by omega))
      have F1 := bX_from1 d.toNatClampNeg z f LX ⟨c2.1, by omega⟩ hb (fun q hq => hby _ (by omega))
      obtain ⟨A0, hA0⟩ : ∃ v : Int64, v = LX (41 + 2 * d.toNatClampNeg) z.toNatClampNeg := ⟨_, rfl⟩
      obtain ⟨A1, hA1⟩ : ∃ v : Int64, v = LX (41 + 2 * d.toNatClampNeg) (z.toNatClampNeg + 1) := ⟨_, rfl⟩
      obtain ⟨A2, hA2⟩ : ∃ v : Int64, v = LX (41 + 2 * d.toNatClampNeg) (z.toNatClampNeg + 2) := ⟨_, rfl⟩
      obtain ⟨A3, hA3⟩ : ∃ v : Int64, v = LX (41 + 2 * d.toNatClampNeg) (z.toNatClampNeg + 3) := ⟨_, rfl⟩
      rw [← hA0, ← hA1, ← hA2, ← hA3] at F0 F1 ⊢
      have stop : ∃ (r : Int32) (f1 g1 : sg_F), (y, f) = (r, f1) ∧ sX12_sitters_l69 d i n (m2 + 1) y 0 g LM = (r, g1) ∧ rNum f1 g1 ∧ (f 1 3).toInt ≤ (f1 1 3).toInt := ⟨y, f, g, rfl, bM_stop d i n y m2 g LM, hN, Int.le_refl _⟩
      by_cases c3 : (f 1 3).toInt < 8
      case neg => rw [F0 (fun w => c3 w.2), if_pos k0, if_neg c3]; exact stop
      rw [if_pos c3]
      by_cases s0 : 0 ≤ A0.toInt ∧ A0.toInt ≤ 60
      case neg => rw [F0 (fun w => s0 w.1.1), if_pos k0, if_neg s0, if_neg zk0]; exact stop
      rw [if_pos s0, if_pos rfl]
      by_cases s1 : 0 ≤ A1.toInt ∧ A1.toInt ≤ 60
      case neg => rw [F0 (fun w => s1 w.1.2.1), if_pos k0, if_neg s1, if_neg zk0]; exact stop
      rw [if_pos s1, if_pos rfl]
      by_cases s2 : 0 ≤ A2.toInt ∧ A2.toInt ≤ 60
      case neg => rw [F0 (fun w => s2 w.1.2.2.1), if_pos k0, if_neg s2, if_neg zk0]; exact stop
      rw [if_pos s2, if_pos rfl]
      by_cases s3 : 1 ≤ A3.toInt ∧ A3.toInt ≤ 12
      case neg => rw [F0 (fun w => s3 w.1.2.2.2), if_pos k0, if_neg s3, if_neg zk0]; exact stop
      rw [if_pos s3, if_pos rfl, F1 ⟨⟨s0, s1, s2, s3⟩, c3⟩, if_neg (show ¬ (1 : Int32).toInt = 0 by decide)]
      obtain ⟨f1, p1, p2, p3, p4⟩ := bX_come (Int64.toInt32 A0) (Int64.toInt32 A1) (Int64.toInt32 A2) (Int64.toInt32 A3) f LX ⟨hb.1, c3⟩
      obtain ⟨u1, u2, u3⟩ := bM_adds (Int64.toInt32 A0) (Int64.toInt32 A1) (Int64.toInt32 A2) (Int64.toInt32 A3) g LM (by rw [← ee]; exact ⟨hb.1, c3⟩)
      rw [p1]
      have e9 : (f 1 3 + 1).toInt = (f 1 3).toInt + 1 := (bn_addI (by omega) (by omega)).trans (by omega)
      have f13 : (f1 1 3).toInt = (f 1 3).toInt + 1 := by rw [p3]; exact e9
      have ey : (y + 1).toInt = y.toInt + 1 := (bn_addI (by omega) (by omega)).trans (by omega)
      have ez : (z + 4).toInt = z.toInt + 4 := (bn_addI (by omega) (by omega)).trans (by omega)
      obtain ⟨r, f2, g2, o1, o2, o3, o4⟩ := ih (m2 + 1) (y + 1) (z + 4) f1 (sX12_adds (Int64.toInt32 A0) (Int64.toInt32 A1) (Int64.toInt32 A2) (Int64.toInt32 A3) g LM) (by omega) (by omega) (by omega) (by omega) (by omega) (by omega) (by rw [p4 _ (by omega) (by omega) (by omega)]; exact hf) (by rw [u3 23 (by decide) (by decide)]; exact hg) (hN.come ⟨hb.1, c3⟩ p2 p3 u1 (by rw [u2, sgu_s])) (by omega)
      exact ⟨r, f2, g2, o1, o2, o3, by omega⟩
theorem rNum.sitters {fX fX1 fM fM1 : sg_F} {LX LM : sg_L} {d i n r1 r2 : Int32} (h : rNum fX fM) (hs : rShelf fX fM) (he : rEl fX LX LM) (hy : rByte fX LX) (hI : sgI loX hiX fX) (h9 : (fX 36 2).toInt ≤ 50) (e1 : (r1, fX1) = sX11_sitters d i n fX LX) (e2 : (r2, fM1) = sX12_sitters d i n fM LM) : r1 = r2 ∧ rNum fX1 fM1 ∧ (fX 1 3).toInt ≤ (fX1 1 3).toInt := by
  have hb : 0 ≤ (fX 1 3).toInt ∧ (fX 1 3).toInt ≤ 8 := hI 1 3
  obtain ⟨hs1, hs2⟩ := shB hI
  have k0 : (0 : Int32).toInt = 0 := by decide
  have j1 : (1 : Int64).toInt = 1 := by decide
  have j8 : (8 : Int64).toInt = 8 := by decide
  have en := Int32.toInt_toInt64 n
  unfold sX11_sitters at e1; (repeat first | rw [spl_d] at e1 | rw [spl2_d] at e1)
  unfold sX12_sitters sX12_sitters_b44 at e2; (repeat first | rw [spl_d] at e2 | rw [spl2_d] at e2)
  rw [pX_isShelf] at e1
  rw [pM_isShelf, pM_within, j1, j8, en] at e2
  by_cases q1 : 0 ≤ d.toInt ∧ d.toInt ≤ 5
  case neg =>
    rw [if_neg q1, if_neg zk0] at e1 e2
    obtain ⟨a1, b1⟩ := Prod.mk.inj e1
    obtain ⟨a2, b2⟩ := Prod.mk.inj e2
    rw [a1, a2, b1, b2]; exact ⟨rfl, h, Int.le_refl _⟩
  rw [if_pos q1, if_pos rfl] at e1 e2
  by_cases q2 : 1 ≤ n.toInt ∧ n.toInt ≤ 8
  case neg =>
    rw [if_neg q2, if_neg zk0] at e2
    obtain ⟨a2, b2⟩ := Prod.mk.inj e2
    by_cases q3 : n.toInt < 1
    · rw [if_pos q3] at e1
      obtain ⟨a1, b1⟩ := Prod.mk.inj e1
      rw [a1, a2, b1, b2]; exact ⟨rfl, h, Int.le_refl _⟩
    · rw [if_neg q3, if_pos (by omega)] at e1
      obtain ⟨a1, b1⟩ := Prod.mk.inj e1
      rw [a1, a2, b1, b2]; exact ⟨rfl, h, Int.le_refl _⟩
  rw [if_pos q2, if_pos rfl] at e2
  rw [if_neg (by omega), if_neg (by omega)] at e1
  have cd := bn_clI q1.1
  have kb := hs2 d.toNatClampNeg (by omega)
  rcases hs.at q1.1 q1.2 with ⟨a, b⟩ | ⟨a, b, c1, c2⟩ | ⟨a, a4, b, c⟩
  · rw [if_pos a] at e1
    rw [if_pos (by omega), if_neg (by omega), bM_stop] at e2
    obtain ⟨a1, b1⟩ := Prod.mk.inj e1
    obtain ⟨a2, b2⟩ := Prod.mk.inj e2
    rw [a1, a2, b1, b2]; exact ⟨rfl, h, Int.le_refl _⟩
  · rw [if_neg (by omega), if_neg (by omega)] at e1
    rw [if_neg (by omega), if_neg (by omega)] at e2
    obtain ⟨a1, b1⟩ := Prod.mk.inj e1
    obtain ⟨a2, b2⟩ := Prod.mk.inj e2
    rw [a1, a2, b1, b2]; exact ⟨rfl, h, Int.le_refl _⟩
  · by_cases z : (fX (40 + 2 * d.toNatClampNeg) 1).toInt = 0
    · rw [if_neg (by omega), if_pos z] at e1
      rw [if_neg (by omega), if_pos (by omega), if_pos (by omega)] at e2
      have e1 : (r1, fX1) = sX11_fromRow_l6 d.toNatClampNeg i n 9 0 i fX LX := e1
      by_cases y : i.toInt < 0
      · rw [if_pos y, bM_stop] at e2
        have gx : sX11_fromRow_l6 d.toNatClampNeg i n 9 0 i fX LX = sX11_fromRow_h6 d.toNatClampNeg i n (sX11_fromRow_l6 d.toNatClampNeg i n 8) 0 i fX LX := rfl
        rw [gx] at e1
        unfold sX11_fromRow_h6 at e1; (repeat first | rw [spl_d] at e1 | rw [spl2_d] at e1)
        rw [if_pos (by omega), pX_hasPlaces _ _ _ _ _ kb, if_neg (show ¬ (0 ≤ i.toInt ∧ 0 ≤ (4 : Int32).toInt ∧ i.toInt + (4 : Int32).toInt ≤ (fX (40 + 2 * d.toNatClampNeg) 2).toInt) from fun w => by omega), if_neg zk0] at e1
        obtain ⟨a1, b1⟩ := Prod.mk.inj e1
        obtain ⟨a2, b2⟩ := Prod.mk.inj e2
        rw [a1, a2, b1, b2]; exact ⟨rfl, h, Int.le_refl _⟩
      · rw [if_neg y] at e2
        obtain ⟨r, f1, g1, o1, o2, o3, o4⟩ := from_two d i n i (fX (40 + 2 * d.toNatClampNeg) 2).toInt LX LM q1 (by omega) q2 kb (fun j hj => he _ (by omega) a j hj) (fun j hj => hy _ (by omega) z j hj) 9 30 0 i fX fM (by omega) (Or.inl k0) (by omega) (by omega) (by omega) (by omega) rfl c.symm h hb
        rw [o1] at e1
        rw [o2] at e2
        obtain ⟨a1, b1⟩ := Prod.mk.inj e1
        obtain ⟨a2, b2⟩ := Prod.mk.inj e2
        rw [a1, a2, b1, b2]; exact ⟨rfl, o3, o4⟩
    · rw [if_neg (by omega), if_neg z] at e1
      rw [if_neg (by omega), if_neg (by omega)] at e2
      obtain ⟨a1, b1⟩ := Prod.mk.inj e1
      obtain ⟨a2, b2⟩ := Prod.mk.inj e2
      rw [a1, a2, b1, b2]; exact ⟨rfl, h, Int.le_refl _⟩
/-! THE TAPE, COUNTS -/
/-- the tapes of both are the same -/
def rTape (fX fM : sg_F) : Prop := (fX 4 1).toInt = (fM 0 9).toInt ∧ ∀ i : Nat, (i : Int) < (fX 4 1).toInt → fX 5 i = fM 6 i
theorem rTape.zero : rTape f0X f0M := ⟨by decide, fun i h => absurd h (by rw [show ((f0X 4 1).toInt) = 0 from by decide]; omega)⟩
theorem rTape.fr {fX fX1 fM fM1 : sg_F} (h : rTape fX fM) (a : fX1 4 1 = fX 4 1) (b : ∀ j : Nat, fX1 5 j = fX 5 j) (c : fM1 0 9 = fM 0 9) (d : ∀ j : Nat, fM1 6 j = fM 6 j) : rTape fX1 fM1 := by
  refine ⟨by rw [a, c]; exact h.1, fun i hi => ?_⟩
  rw [b, d]
  rw [a] at hi
  exact h.2 i hi
theorem bX_forgetAll_l (L : sg_L) (k : Nat) (hk : k ≠ 9) : ∀ (n : Nat) (a : Int32) (f : sg_F), sX0_forgetAll_l2 n a f L k = f k := by
  intro n
  induction n with
  | zero => intro a f; rfl
  | succ n ih =>
    intro a f
    show sX0_forgetAll_h2 (sX0_forgetAll_l2 n) a f L k = f k
    unfold sX0_forgetAll_h2; (repeat first | rw [spl_d] | rw [spl2_d])
    by_cases c : a.toInt < 8
    · rw [if_pos c, ih, bX_forget _ _ _ k hk]
    · rw [if_neg c]
theorem bX_forgetAll (f : sg_F) (L : sg_L) (k : Nat) (hk : k ≠ 9) : sX0_forgetAll f L k = f k := bX_forgetAll_l L k hk 9 0 f
theorem bX_isRead1 (f : sg_F) (L : sg_L) : (sX5_isRead f L).2 4 1 = 0 := by
  unfold sX5_isRead
  rw [spl_d, spl_d, spl_d]
  generalize sX5_lines _ L = g
  (repeat first | rw [spl_d] | rw [spl2_d])
  split
  · rfl
  · rfl
theorem bX_law1 (f : sg_F) (L : sg_L) : (sX11_law f L).2 4 1 = 0 := by
  have h := bX_isRead1 f L
  unfold sX11_law
  obtain ⟨o, eo⟩ : ∃ z : Int32 × sg_F, z = sX5_isRead f L := ⟨_, rfl⟩
  rw [← eo] at h ⊢
  rw [spl2_d]
  by_cases c : o.1.toInt = 1
  · rw [if_pos c, spl_d]
    dsimp only
    rw [bX_forgetAll _ _ 4 (by decide)]
    exact h
  · rw [if_neg c]
    exact h
theorem bM_law_l (L : sg_L) : ∀ (n : Nat) (a b : Int32) (f : sg_F), f 0 9 = 0 → (sX12_law_l37 n a b f L).2 0 9 = 0 := by
  intro n
  induction n with
  | zero => intro a b f h; exact h
  | succ n ih =>
    intro a b f h
    show (sX12_law_h37 (sX12_law_l37 n) a b f L).2 0 9 = 0
    unfold sX12_law_h37; (repeat first | rw [spl_d] | rw [spl2_d])
    by_cases c : b.toInt < a.toInt
    · rw [if_pos c]
      exact ih _ _ _ (by rw [sg_up_n (by decide)]; exact h)
    · rw [if_neg c]
      show sg_up f 0 (sgu (f 0) 11 a) 0 9 = 0
      rw [sg_up_s, sgu_n (by decide)]; exact h
theorem bM_law1 (f : sg_F) (L : sg_L) : (sX12_law f L).2 0 9 = 0 := by
  unfold sX12_law
  rw [spl_d]
  generalize sX12_workOut (-1) (f 0 9) f L = o
  (repeat first | rw [spl_d] | rw [spl2_d])
  split
  · exact bM_law_l L _ _ _ _ (by rw [sg_up_s, sgu_s])
  · rfl
theorem rTape.law {fX fX1 fM fM1 : sg_F} {LX LM : sg_L} {r1 r2 : Int32} (e1 : (r1, fX1) = sX11_law fX LX) (e2 : (r2, fM1) = sX12_law fM LM) : rTape fX1 fM1 := by
  have a := bX_law1 fX LX
  have b := bM_law1 fM LM
  rw [← e1] at a
  rw [← e2] at b
  have a : fX1 4 1 = 0 := a
  have b : fM1 0 9 = 0 := b
  exact ⟨by rw [a, b], fun i hi => absurd hi (by rw [a, show ((0 : Int32).toInt) = 0 from by decide]; omega)⟩
theorem rTape.feed {fX fX1 fM fM1 : sg_F} {LX LM : sg_L} {x r1 r2 : Int32} (h : rTape fX fM) (hI : sgI loX hiX fX) (e1 : (r1, fX1) = sX11_feed x fX LX) (e2 : (r2, fM1) = sX12_feed x fM LM) : r1 = r2 ∧ rTape fX1 fM1 := by
  have hb : 0 ≤ (fX 4 1).toInt ∧ (fX 4 1).toInt ≤ 120 := hI 4 1
  have ee : fX 4 1 = fM 0 9 := Int32.toInt_inj.mp h.1
  have k0 : (0 : Int64).toInt = 0 := by decide
  have k2 : (255 : Int64).toInt = 255 := by decide
  have ex := Int32.toInt_toInt64 x
  have k1 : (1 : Int32).toInt = 1 := by decide
  unfold sX11_feed sX5_takes at e1; (repeat first | rw [spl_d] at e1 | rw [spl2_d] at e1)
  unfold sX12_feed at e2; (repeat first | rw [spl_d] at e2 | rw [spl2_d] at e2)
  rw [pM_within, k0, k2, ex, ← ee] at e2
  by_cases c1 : x.toInt < 0
  · rw [if_pos c1] at e1
    rw [if_neg (show ¬ (0 ≤ x.toInt ∧ x.toInt ≤ 255) from fun z => by omega), if_neg zk0] at e2
    obtain ⟨a1, b1⟩ := Prod.mk.inj e1
    obtain ⟨a2, b2⟩ := Prod.mk.inj e2
    rw [a1, a2, b1, b2]; exact ⟨rfl, h⟩
  rw [if_neg c1] at e1
  by_cases c2 : 255 < x.toInt
  · rw [if_pos c2] at e1
    rw [if_neg (show ¬ (0 ≤ x.toInt ∧ x.toInt ≤ 255) from fun z => by omega), if_neg zk0] at e2
    obtain ⟨a1, b1⟩ := Prod.mk.inj e1
    obtain ⟨a2, b2⟩ := Prod.mk.inj e2
    rw [a1, a2, b1, b2]; exact ⟨rfl, h⟩
  rw [if_neg c2] at e1
  rw [if_pos (show 0 ≤ x.toInt ∧ x.toInt ≤ 255 from ⟨by omega, by omega⟩), if_pos rfl] at e2
  by_cases c3 : (fX 4 1).toInt < 120
  · rw [if_pos c3] at e1
    rw [if_neg (show ¬ (fX 4 1).toInt = 120 from by omega)] at e2
    have e9 : (fX 4 1 + 1).toInt = (fX 4 1).toInt + 1 := (bn_addI (by omega) (by omega)).trans (by omega)
    obtain ⟨a1, b1⟩ := Prod.mk.inj e1
    obtain ⟨a2, b2⟩ := Prod.mk.inj e2
    have a1 : r1 = fX 4 1 + 1 := a1
    have b1 : fX1 = sg_up (sg_up fX 5 (sgu (fX 5) (fX 4 1).toNatClampNeg x)) 4 (sgu (sg_up fX 5 (sgu (fX 5) (fX 4 1).toNatClampNeg x) 4) 1 (fX 4 1 + 1)) := b1
    have m1 : fX1 4 1 = fX 4 1 + 1 := by rw [b1, sg_up_s, sgu_s]
    have m2 : fX1 5 = sgu (fX 5) (fX 4 1).toNatClampNeg x := by rw [b1, sg_up_n (show (5 : Nat) ≠ 4 by decide), sg_up_s]
    have n1 : fM1 0 9 = fX 4 1 + 1 := by rw [b2, sg_up_s, sgu_s]
    have n2 : fM1 6 = sgu (fM 6) (fX 4 1).toNatClampNeg x := by rw [b2, sg_up_n (show (6 : Nat) ≠ 0 by decide), sg_up_s]
    have ec := bn_clI hb.1
    refine ⟨by rw [a1, a2], by rw [m1, n1], fun i hi => ?_⟩
    rw [m1, e9] at hi
    rw [m2, n2]
    by_cases z : i = (fX 4 1).toNatClampNeg
    · rw [z, sgu_s, sgu_s]
    · rw [sgu_n z, sgu_n z]; exact h.2 i (by omega)
  · rw [if_neg c3] at e1
    rw [if_pos (show (fX 4 1).toInt = 120 from by omega)] at e2
    obtain ⟨a1, b1⟩ := Prod.mk.inj e1
    obtain ⟨a2, b2⟩ := Prod.mk.inj e2
    have a1 : r1 = -3 := a1
    have b1 : fX1 = fX := b1
    rw [a1, a2, b1, b2]; exact ⟨rfl, h⟩
theorem cnt_two {fX fM : sg_F} {LX LM : sg_L} {x r1 r2 : Int32} (h1 : rNum fX fM) (h2 : rTape fX fM) (h3 : rChg fX fM) (h4 : rDesk fX fM) (h5 : rTrace fX fM) (e1 : r1 = sX11_count x fX LX) (e2 : r2 = sX12_count x fM LM) : r1 = r2 := by
  unfold sX11_count at e1; (repeat first | rw [spl_d] at e1 | rw [spl2_d] at e1)
  unfold sX12_count at e2; (repeat first | rw [spl_d] at e2 | rw [spl2_d] at e2)
  rw [e1, e2, show fX 1 3 = fM 0 6 from Int32.toInt_inj.mp h1.1, show fX 4 1 = fM 0 9 from Int32.toInt_inj.mp h2.1, show fX 32 3 = fM 0 5 from Int32.toInt_inj.mp h3.1, show fX 36 2 = fM 0 45 from Int32.toInt_inj.mp h4.1, show fX 36 3 = fM 0 48 from Int32.toInt_inj.mp h5.1]
/-! THE LAW: a text, what is read in it, and what it gives, as functions of the text alone. pR: where reading stands behind, whether no fault was met (else it stands at the fault), the signs, the value by names -/
abbrev pV : Type := (Nat → Int32) → Int32
abbrev pR : Type := Nat × Bool × List Int32 × pV
def pnx (T : Nat → Int32) (n a : Nat) : Int := if a < n then (T a).toInt else -1
def pwk (s : Int) (a b : Int32) : Int32 := if s = 42 then a * b else if s = 47 then (if b.toInt = 0 then 0 else a / b) else if s = 37 then (if b.toInt = 0 then 0 else a - a / b * b) else if s = 43 then a + b else if s = 45 then a - b else if s = 60 then (if a.toInt < b.toInt then 1 else 0) else if s = 61 then (if a.toInt = b.toInt then 1 else 0) else if s = 62 then (if b.toInt < a.toInt then 1 else 0) else if s = 38 then (if a.toInt = 0 then 0 else if b.toInt = 0 then 0 else 1) else (if a.toInt = 0 then (if b.toInt = 0 then 0 else 1) else 1)
theorem pwk_42 {s : Int} {a b : Int32} (h : s = 42) : pwk s a b = a * b := by
  unfold pwk
  rw [if_pos h]
theorem pwk_43 {s : Int} {a b : Int32} (h : s = 43) : pwk s a b = a + b := by
  unfold pwk
  rw [if_neg (show ¬ s = 42 from by omega), if_neg (show ¬ s = 47 from by omega), if_neg (show ¬ s = 37 from by omega), if_pos h]
theorem pwk_45 {s : Int} {a b : Int32} (h : s = 45) : pwk s a b = a - b := by
  unfold pwk
  rw [if_neg (show ¬ s = 42 from by omega), if_neg (show ¬ s = 47 from by omega), if_neg (show ¬ s = 37 from by omega), if_neg (show ¬ s = 43 from by omega), if_pos h]
theorem pwk_47 {s : Int} {a b : Int32} (h : s = 47) : pwk s a b = if b.toInt = 0 then 0 else a / b := by
  unfold pwk
  rw [if_neg (show ¬ s = 42 from by omega), if_pos h]
theorem pwk_37 {s : Int} {a b : Int32} (h : s = 37) : pwk s a b = if b.toInt = 0 then 0 else a - a / b * b := by
  unfold pwk
  rw [if_neg (show ¬ s = 42 from by omega), if_neg (show ¬ s = 47 from by omega), if_pos h]
theorem pwk_60 {s : Int} {a b : Int32} (h : s = 60) : pwk s a b = if a.toInt < b.toInt then 1 else 0 := by
  unfold pwk
  rw [if_neg (show ¬ s = 42 from by omega), if_neg (show ¬ s = 47 from by omega), if_neg (show ¬ s = 37 from by omega), if_neg (show ¬ s = 43 from by omega), if_neg (show ¬ s = 45 from by omega), if_pos h]
theorem pwk_61 {s : Int} {a b : Int32} (h : s = 61) : pwk s a b = if a.toInt = b.toInt then 1 else 0 := by
  unfold pwk
  rw [if_neg (show ¬ s = 42 from by omega), if_neg (show ¬ s = 47 from by omega), if_neg (show ¬ s = 37 from by omega), if_neg (show ¬ s = 43 from by omega), if_neg (show ¬ s = 45 from by omega), if_neg (show ¬ s = 60 from by omega), if_pos h]
theorem pwk_62 {s : Int} {a b : Int32} (h : s = 62) : pwk s a b = if b.toInt < a.toInt then 1 else 0 := by
  unfold pwk
  rw [if_neg (show ¬ s = 42 from by omega), if_neg (show ¬ s = 47 from by omega), if_neg (show ¬ s = 37 from by omega), if_neg (show ¬ s = 43 from by omega), if_neg (show ¬ s = 45 from by omega), if_neg (show ¬ s = 60 from by omega), if_neg (show ¬ s = 61 from by omega), if_pos h]
theorem pwk_38 {s : Int} {a b : Int32} (h : s = 38) : pwk s a b = if a.toInt = 0 then 0 else if b.toInt = 0 then 0 else 1 := by
  unfold pwk
  rw [if_neg (show ¬ s = 42 from by omega), if_neg (show ¬ s = 47 from by omega), if_neg (show ¬ s = 37 from by omega), if_neg (show ¬ s = 43 from by omega), if_neg (show ¬ s = 45 from by omega), if_neg (show ¬ s = 60 from by omega), if_neg (show ¬ s = 61 from by omega), if_neg (show ¬ s = 62 from by omega), if_pos h]
theorem pwk_124 {s : Int} {a b : Int32} (h : s = 124) : pwk s a b = if a.toInt = 0 then (if b.toInt = 0 then 0 else 1) else 1 := by
  unfold pwk
  rw [if_neg (show ¬ s = 42 from by omega), if_neg (show ¬ s = 47 from by omega), if_neg (show ¬ s = 37 from by omega), if_neg (show ¬ s = 43 from by omega), if_neg (show ¬ s = 45 from by omega), if_neg (show ¬ s = 60 from by omega), if_neg (show ¬ s = 61 from by omega), if_neg (show ¬ s = 62 from by omega), if_neg (show ¬ s = 38 from by omega)]
def pS (k : Nat) (z : Int) : Bool := match k with
  | 0 => decide (z = 42 ∨ z = 47 ∨ z = 37)
  | 1 => decide (z = 43 ∨ z = 45)
  | 2 => decide (z = 60 ∨ z = 61 ∨ z = 62)
  | 3 => decide (z = 38)
  | _ => decide (z = 124)
def pbin (z : Int) : Prop := z = 42 ∨ z = 47 ∨ z = 37 ∨ z = 43 ∨ z = 45 ∨ z = 60 ∨ z = 61 ∨ z = 62 ∨ z = 38 ∨ z = 124
theorem pS_bin {k : Nat} {z : Int} (h : pS k z = true) : pbin z := by
  unfold pS at h
  unfold pbin
  split at h <;> (have h := of_decide_eq_true h; omega)
theorem pS_0 {z : Int} (h : z = 42 ∨ z = 47 ∨ z = 37) : pS 0 z = true := decide_eq_true h
theorem pS_0n {z : Int} (h : ¬ (z = 42 ∨ z = 47 ∨ z = 37)) : ¬ pS 0 z = true := fun w => h (of_decide_eq_true w)
theorem pS_1 {z : Int} (h : z = 43 ∨ z = 45) : pS 1 z = true := decide_eq_true h
theorem pS_1n {z : Int} (h : ¬ (z = 43 ∨ z = 45)) : ¬ pS 1 z = true := fun w => h (of_decide_eq_true w)
theorem pS_2 {z : Int} (h : z = 60 ∨ z = 61 ∨ z = 62) : pS 2 z = true := decide_eq_true h
theorem pS_2n {z : Int} (h : ¬ (z = 60 ∨ z = 61 ∨ z = 62)) : ¬ pS 2 z = true := fun w => h (of_decide_eq_true w)
theorem pS_3 {z : Int} (h : z = 38) : pS 3 z = true := decide_eq_true h
theorem pS_3n {z : Int} (h : ¬ (z = 38)) : ¬ pS 3 z = true := fun w => h (of_decide_eq_true w)
theorem pS_4 {z : Int} (h : z = 124) : pS 4 z = true := decide_eq_true h
theorem pS_4n {z : Int} (h : ¬ (z = 124)) : ¬ pS 4 z = true := fun w => h (of_decide_eq_true w)
def pLoop (S : Int → Bool) (op : Nat → pR) (T : Nat → Int32) (n : Nat) : Nat → pR → pR
  | 0, r => r
  | q + 1, r => if r.2.1 = true then (if S (pnx T n r.1) = true then pLoop S op T n q ((op (r.1 + 1)).1, (op (r.1 + 1)).2.1, r.2.2.1 ++ (op (r.1 + 1)).2.2.1 ++ [T r.1], fun N => pwk (pnx T n r.1) (r.2.2.2 N) ((op (r.1 + 1)).2.2.2 N)) else r) else r
def pDig (T : Nat → Int32) (n : Nat) : Nat → Nat → Int32 → Nat × Int32
  | 0, a, v => (a, v)
  | q + 1, a, v => if 48 ≤ pnx T n a ∧ pnx T n a ≤ 57 then pDig T n q (a + 1) (v * 10 + T a - 48) else (a, v)
def pni (s : Int) : Nat := if s = 100 then 0 else if s = 117 then 1 else if s = 115 then 2 else if s = 119 then 3 else if s = 104 then 4 else 5
def pnam (s : Int) : Prop := s = 100 ∨ s = 117 ∨ s = 115 ∨ s = 119 ∨ s = 104 ∨ s = 107
def pbad (a : Nat) : pR := (a, false, [], fun _ => 0)
noncomputable def pOpd (o : Bool) (E O : Nat → pR) (T : Nat → Int32) (n a : Nat) : pR :=
  if 48 ≤ pnx T n a ∧ pnx T n a ≤ 57 then ((pDig T n 4 a 0).1, true, [1000 + (pDig T n 4 a 0).2], fun _ => (pDig T n 4 a 0).2) else
  if pnx T n a = 100 ∨ pnx T n a = 117 ∨ pnx T n a = 115 ∨ pnx T n a = 119 ∨ pnx T n a = 104 ∨ pnx T n a = 107 then (a + 1, true, [T a], fun N => N (pni (pnx T n a))) else
  if o = true ∧ pnx T n a = 40 then (if (E (a + 1)).2.1 = true then (if pnx T n (E (a + 1)).1 = 41 then ((E (a + 1)).1 + 1, true, (E (a + 1)).2.2.1, (E (a + 1)).2.2.2) else pbad (E (a + 1)).1) else pbad (E (a + 1)).1) else
  if o = true ∧ pnx T n a = 33 then ((O (a + 1)).1, (O (a + 1)).2.1, (O (a + 1)).2.2.1 ++ [33], fun N => if ((O (a + 1)).2.2.2 N).toInt = 0 then 1 else 0) else
  if o = true ∧ pnx T n a = 45 then ((O (a + 1)).1, (O (a + 1)).2.1, (O (a + 1)).2.2.1 ++ [126], fun N => -((O (a + 1)).2.2.2 N)) else pbad a
noncomputable def pChain (k q : Nat) (op : Nat → pR) (T : Nat → Int32) (n a : Nat) : pR := pLoop (pS k) op T n q (op a)
noncomputable def pExp (op : Nat → pR) (T : Nat → Int32) (n : Nat) : Nat → pR := pChain 4 121 (pChain 3 121 (pChain 2 1 (pChain 1 121 (pChain 0 121 op T n) T n) T n) T n) T n
noncomputable def pO (T : Nat → Int32) (n : Nat) : Nat → Nat → pR
  | 0 => pOpd false pbad pbad T n
  | r + 1 => pOpd true (pExp (pO T n r) T n) (pO T n r) T n
/-! signs at work on values: the latest first -/
def pnv (N : Nat → Int32) (s : Int32) : Int32 := if s.toInt = 100 ∨ s.toInt = 117 ∨ s.toInt = 115 ∨ s.toInt = 119 ∨ s.toInt = 104 ∨ s.toInt = 107 then N (pni s.toInt) else s - 1000
def pex1 (N : Nat → Int32) (s : Int32) (st : List Int32) : Option (List Int32) :=
  if s.toInt = 42 ∨ s.toInt = 47 ∨ s.toInt = 37 ∨ s.toInt = 43 ∨ s.toInt = 45 ∨ s.toInt = 60 ∨ s.toInt = 61 ∨ s.toInt = 62 ∨ s.toInt = 38 ∨ s.toInt = 124 then (match st with
    | b :: a :: r => some (pwk s.toInt a b :: r)
    | _ => none) else
  if s.toInt = 33 then (match st with
    | a :: r => some ((if a.toInt = 0 then 1 else 0) :: r)
    | _ => none) else
  if s.toInt = 126 then (match st with
    | a :: r => some (-a :: r)
    | _ => none) else some (pnv N s :: st)
def pex (N : Nat → Int32) : List Int32 → List Int32 → Option (List Int32)
  | [], st => some st
  | s :: c, st => (pex1 N s st).bind (pex N c)
theorem pex_app {N : Nat → Int32} {d : List Int32} : ∀ (c st s1 : List Int32), pex N c st = some s1 → pex N (c ++ d) st = pex N d s1 := by
  intro c
  induction c with
  | nil =>
    intro st s1 h
    have h : some st = some s1 := h
    obtain rfl := Option.some.inj h
    rfl
  | cons s c ih =>
    intro st s1 h
    have h : (pex1 N s st).bind (pex N c) = some s1 := h
    show (pex1 N s st).bind (pex N (c ++ d)) = _
    cases e : pex1 N s st with
    | none => rw [e] at h; exact absurd h (by intro z; cases z)
    | some t => rw [e] at h; exact ih t s1 h
theorem pex_one {N : Nat → Int32} {s : Int32} {st t : List Int32} (h : pex1 N s st = some t) : pex N [s] st = some t := by
  show (pex1 N s st).bind (pex N []) = some t
  rw [h]; rfl
theorem pex1_bin {N : Nat → Int32} {s a b : Int32} {r : List Int32} (h : pbin s.toInt) : pex1 N s (b :: a :: r) = some (pwk s.toInt a b :: r) := by
  unfold pex1
  unfold pbin at h
  rw [if_pos h]
theorem pnx_lt {T : Nat → Int32} {n a : Nat} (h : pnx T n a ≠ -1) : a < n ∧ pnx T n a = (T a).toInt := by
  unfold pnx at h ⊢
  by_cases c : a < n
  · rw [if_pos c]; exact ⟨c, rfl⟩
  · rw [if_neg c] at h; exact absurd rfl h
/-- what is known of reading from a on -/
def pG (n : Nat) (r : pR) (a : Nat) : Prop := r.2.1 = true → a < r.1 ∧ r.1 ≤ n ∧ r.2.2.1.length + a ≤ r.1 ∧ (∀ s : Int32, s ∈ r.2.2.1 → s.toInt ≠ 59 ∧ s.toInt ≠ 63) ∧ ∀ (N : Nat → Int32) (st : List Int32), pex N r.2.2.1 st = some (r.2.2.2 N :: st)
theorem pLoop_G {k n : Nat} {op : Nat → pR} {T : Nat → Int32} (ho : ∀ a : Nat, pG n (op a) a) : ∀ (q : Nat) (r : pR) (a : Nat), pG n r a → pG n (pLoop (pS k) op T n q r) a := by
  intro q
  induction q with
  | zero => intro r a h; exact h
  | succ q ih =>
    intro r a h
    show pG n (if r.2.1 = true then (if pS k (pnx T n r.1) = true then pLoop (pS k) op T n q ((op (r.1 + 1)).1, (op (r.1 + 1)).2.1, r.2.2.1 ++ (op (r.1 + 1)).2.2.1 ++ [T r.1], fun N => pwk (pnx T n r.1) (r.2.2.2 N) ((op (r.1 + 1)).2.2.2 N)) else r) else r) a
    by_cases c1 : r.2.1 = true
    · rw [if_pos c1]
      by_cases c2 : pS k (pnx T n r.1) = true
      · rw [if_pos c2]
        refine ih _ a (fun hw => ?_)
        have hb := pS_bin c2
        obtain ⟨g1, g2⟩ := pnx_lt (T := T) (n := n) (a := r.1) (by unfold pbin at hb; omega)
        obtain ⟨h1, h2, h3, h4, h5⟩ := h c1
        obtain ⟨k1, k2, k3, k4, k5⟩ := ho (r.1 + 1) hw
        refine ⟨by show a < (op (r.1 + 1)).1; omega, k2, ?_, ?_, ?_⟩
        · show (r.2.2.1 ++ (op (r.1 + 1)).2.2.1 ++ [T r.1]).length + a ≤ (op (r.1 + 1)).1
          rw [List.length_append, List.length_append]
          have : [T r.1].length = 1 := rfl
          omega
        · intro s hs
          have hs : s ∈ r.2.2.1 ++ (op (r.1 + 1)).2.2.1 ++ [T r.1] := hs
          rcases List.mem_append.mp hs with hs | hs
          · rcases List.mem_append.mp hs with hs | hs
            · exact h4 s hs
            · exact k4 s hs
          · have e := List.mem_singleton.mp hs
            rw [e, ← g2]
            unfold pbin at hb
            omega
        · intro N st
          show pex N (r.2.2.1 ++ (op (r.1 + 1)).2.2.1 ++ [T r.1]) st = some (pwk (pnx T n r.1) (r.2.2.2 N) ((op (r.1 + 1)).2.2.2 N) :: st)
          rw [List.append_assoc, pex_app _ _ _ (h5 N st), pex_app _ _ _ (k5 N _)]
          refine pex_one ?_
          rw [pex1_bin (by rw [← g2]; exact hb), g2]
      · rw [if_neg c2]; exact h
    · rw [if_neg c1]; exact h
theorem pDig_le {T : Nat → Int32} {n : Nat} : ∀ (q a : Nat) (v : Int32), a ≤ (pDig T n q a v).1 ∧ (a ≤ n → (pDig T n q a v).1 ≤ n) := by
  intro q
  induction q with
  | zero => intro a v; exact ⟨Nat.le_refl _, fun h => h⟩
  | succ q ih =>
    intro a v
    show a ≤ (if 48 ≤ pnx T n a ∧ pnx T n a ≤ 57 then pDig T n q (a + 1) (v * 10 + T a - 48) else (a, v)).1 ∧ (a ≤ n → (if 48 ≤ pnx T n a ∧ pnx T n a ≤ 57 then pDig T n q (a + 1) (v * 10 + T a - 48) else (a, v)).1 ≤ n)
    by_cases c : 48 ≤ pnx T n a ∧ pnx T n a ≤ 57
    · rw [if_pos c]
      have g := (pnx_lt (T := T) (n := n) (a := a) (by omega)).1
      have h := ih (a + 1) (v * 10 + T a - 48)
      exact ⟨by omega, fun _ => h.2 (by omega)⟩
    · rw [if_neg c]; exact ⟨Nat.le_refl _, fun h => h⟩
def pbd (q : Nat) : Int := match q with
  | 4 => 1
  | 3 => 10
  | 2 => 100
  | 1 => 1000
  | _ => 10000
theorem pDig_b {T : Nat → Int32} {n : Nat} : ∀ (q a : Nat) (v : Int32), q ≤ 4 → 0 ≤ v.toInt → v.toInt < pbd q → 0 ≤ (pDig T n q a v).2.toInt ∧ (pDig T n q a v).2.toInt < 10000 := by
  intro q
  induction q with
  | zero => intro a v _ h1 h2; exact ⟨h1, h2⟩
  | succ q ih =>
    intro a v hq h1 h2
    show 0 ≤ (if 48 ≤ pnx T n a ∧ pnx T n a ≤ 57 then pDig T n q (a + 1) (v * 10 + T a - 48) else (a, v)).2.toInt ∧ (if 48 ≤ pnx T n a ∧ pnx T n a ≤ 57 then pDig T n q (a + 1) (v * 10 + T a - 48) else (a, v)).2.toInt < 10000
    have hb : pbd (q + 1) * 10 = pbd q ∧ pbd (q + 1) ≤ 1000 := by
      rcases (show q = 0 ∨ q = 1 ∨ q = 2 ∨ q = 3 from by omega) with rfl | rfl | rfl | rfl <;> decide
    by_cases c : 48 ≤ pnx T n a ∧ pnx T n a ≤ 57
    · rw [if_pos c]
      have g := (pnx_lt (T := T) (n := n) (a := a) (by omega)).2
      have k10 : (10 : Int32).toInt = 10 := by decide
      have k48 : (48 : Int32).toInt = 48 := by decide
      have e1 : (v * 10).toInt = v.toInt * 10 := bn_mulI k10 (by omega) (by omega)
      have e2 : (v * 10 + T a).toInt = (v * 10).toInt + (T a).toInt := bn_addI (by omega) (by omega)
      have e3 : (v * 10 + T a - 48).toInt = (v * 10 + T a).toInt - 48 := (bn_subI (by omega) (by omega)).trans (by omega)
      exact ih (a + 1) _ (by omega) (by omega) (by omega)
    · rw [if_neg c]; exact ⟨h1, by show v.toInt < 10000; omega⟩
theorem pbad_G {n a : Nat} {r : pR} (h : r.2.1 = false) : pG n r a := fun z => by rw [h] at z; cases z
theorem pOpd_G {o : Bool} {E O : Nat → pR} {T : Nat → Int32} {n : Nat} (hE : ∀ a : Nat, pG n (E a) a) (hO : ∀ a : Nat, pG n (O a) a) (a : Nat) : pG n (pOpd o E O T n a) a := by
  unfold pOpd
  by_cases c1 : 48 ≤ pnx T n a ∧ pnx T n a ≤ 57
  · rw [if_pos c1]
    have g := pnx_lt (T := T) (n := n) (a := a) (by omega)
    have e : pDig T n 4 a 0 = pDig T n 3 (a + 1) (0 * 10 + T a - 48) := by
      show (if 48 ≤ pnx T n a ∧ pnx T n a ≤ 57 then pDig T n 3 (a + 1) (0 * 10 + T a - 48) else (a, 0)) = _
      rw [if_pos c1]
    have l := pDig_le (T := T) (n := n) 3 (a + 1) (0 * 10 + T a - 48)
    have b := pDig_b (T := T) (n := n) 4 a 0 (Nat.le_refl _) (by decide) (by decide)
    rw [← e] at l
    have k1000 : (1000 : Int32).toInt = 1000 := by decide
    have e1 : (1000 + (pDig T n 4 a 0).2).toInt = 1000 + (pDig T n 4 a 0).2.toInt := (bn_addI (by omega) (by omega)).trans (by omega)
    intro _
    refine ⟨by show a < (pDig T n 4 a 0).1; omega, l.2 (by omega), ?_, ?_, ?_⟩
    · show 1 + a ≤ (pDig T n 4 a 0).1; omega
    · intro s hs
      have e := List.mem_singleton.mp hs
      rw [e]; omega
    · intro N st
      refine pex_one ?_
      unfold pex1
      rw [if_neg (by omega), if_neg (by omega), if_neg (by omega)]
      unfold pnv
      rw [if_neg (by omega)]
      have e2 : (1000 + (pDig T n 4 a 0).2 - 1000).toInt = (1000 + (pDig T n 4 a 0).2).toInt - 1000 := (bn_subI (by omega) (by omega)).trans (by omega)
      rw [show 1000 + (pDig T n 4 a 0).2 - 1000 = (pDig T n 4 a 0).2 from Int32.toInt_inj.mp (by omega)]
  rw [if_neg c1]
  by_cases c2 : pnx T n a = 100 ∨ pnx T n a = 117 ∨ pnx T n a = 115 ∨ pnx T n a = 119 ∨ pnx T n a = 104 ∨ pnx T n a = 107
  · rw [if_pos c2]
    have g := pnx_lt (T := T) (n := n) (a := a) (by omega)
    intro _
    refine ⟨by show a < a + 1; omega, by show a + 1 ≤ n; omega, by show 1 + a ≤ a + 1; omega, ?_, ?_⟩
    · intro s hs
      have e := List.mem_singleton.mp hs
      rw [e, ← g.2]; omega
    · intro N st
      refine pex_one ?_
      unfold pex1
      rw [← g.2, if_neg (by omega), if_neg (by omega), if_neg (by omega)]
      unfold pnv
      rw [← g.2, if_pos c2]
  rw [if_neg c2]
  by_cases c3 : o = true ∧ pnx T n a = 40
  · rw [if_pos c3]
    by_cases d1 : (E (a + 1)).2.1 = true
    · rw [if_pos d1]
      by_cases d2 : pnx T n (E (a + 1)).1 = 41
      · rw [if_pos d2]
        have g := pnx_lt (T := T) (n := n) (a := (E (a + 1)).1) (by omega)
        obtain ⟨h1, h2, h3, h4, h5⟩ := hE (a + 1) d1
        intro _
        exact ⟨by show a < (E (a + 1)).1 + 1; omega, by show (E (a + 1)).1 + 1 ≤ n; omega, by show (E (a + 1)).2.2.1.length + a ≤ (E (a + 1)).1 + 1; omega, h4, h5⟩
      · rw [if_neg d2]; exact pbad_G rfl
    · rw [if_neg d1]; exact pbad_G rfl
  rw [if_neg c3]
  by_cases c4 : o = true ∧ pnx T n a = 33
  · rw [if_pos c4]
    intro hw
    obtain ⟨h1, h2, h3, h4, h5⟩ := hO (a + 1) hw
    refine ⟨by show a < (O (a + 1)).1; omega, h2, ?_, ?_, ?_⟩
    · show ((O (a + 1)).2.2.1 ++ [33]).length + a ≤ (O (a + 1)).1
      rw [List.length_append]
      have : [(33 : Int32)].length = 1 := rfl
      omega
    · intro s hs
      rcases List.mem_append.mp hs with hs | hs
      · exact h4 s hs
      · have e := List.mem_singleton.mp hs
        rw [e]; decide
    · intro N st
      show pex N ((O (a + 1)).2.2.1 ++ [33]) st = some ((if ((O (a + 1)).2.2.2 N).toInt = 0 then 1 else 0) :: st)
      rw [pex_app _ _ _ (h5 N st)]
      refine pex_one ?_
      unfold pex1
      rw [if_neg (by decide), if_pos (by decide)]
  rw [if_neg c4]
  by_cases c5 : o = true ∧ pnx T n a = 45
  · rw [if_pos c5]
    intro hw
    obtain ⟨h1, h2, h3, h4, h5⟩ := hO (a + 1) hw
    refine ⟨by show a < (O (a + 1)).1; omega, h2, ?_, ?_, ?_⟩
    · show ((O (a + 1)).2.2.1 ++ [126]).length + a ≤ (O (a + 1)).1
      rw [List.length_append]
      have : [(126 : Int32)].length = 1 := rfl
      omega
    · intro s hs
      rcases List.mem_append.mp hs with hs | hs
      · exact h4 s hs
      · have e := List.mem_singleton.mp hs
        rw [e]; decide
    · intro N st
      show pex N ((O (a + 1)).2.2.1 ++ [126]) st = some (-((O (a + 1)).2.2.2 N) :: st)
      rw [pex_app _ _ _ (h5 N st)]
      refine pex_one ?_
      unfold pex1
      rw [if_neg (by decide), if_neg (by decide), if_pos (by decide)]
  rw [if_neg c5]; exact pbad_G rfl
theorem pChain_G {k q n : Nat} {op : Nat → pR} {T : Nat → Int32} (ho : ∀ a : Nat, pG n (op a) a) (a : Nat) : pG n (pChain k q op T n a) a := pLoop_G ho q _ a (ho a)
theorem pExp_G {n : Nat} {op : Nat → pR} {T : Nat → Int32} (ho : ∀ a : Nat, pG n (op a) a) (a : Nat) : pG n (pExp op T n a) a := pChain_G (pChain_G (pChain_G (pChain_G (pChain_G ho)))) a
theorem pO_G {T : Nat → Int32} {n : Nat} : ∀ (r a : Nat), pG n (pO T n r a) a := by
  intro r
  induction r with
  | zero => intro a; exact pOpd_G (fun _ => pbad_G rfl) (fun _ => pbad_G rfl) a
  | succ r ih => intro a; exact pOpd_G (pExp_G ih) ih a
