/-! DESKS -/
/-- what a row of numbers shows from a place on -/
def trL (g : Nat → Int32) : Nat → List Int32 → Prop := fun i l => match l with
  | [] => True
  | b :: t => g i = b ∧ trL g (i + 1) t
theorem trL.kp {g g1 : Nat → Int32} : ∀ (l : List Int32) (i : Nat), trL g i l → (∀ j : Nat, j < i + l.length → g1 j = g j) → trL g1 i l := by
  intro l
  induction l with
  | nil => intro i _ _; exact trivial
  | cons b t ih =>
    intro i h k
    have h : g i = b ∧ trL g (i + 1) t := h
    have e : (b :: t).length = t.length + 1 := rfl
    exact ⟨(k i (by omega)).trans h.1, ih (i + 1) h.2 (fun j hj => k j (by omega))⟩
theorem trL.ap {g : Nat → Int32} {m : List Int32} : ∀ (l : List Int32) (i : Nat), trL g i l → trL g (i + l.length) m → trL g i (l ++ m) := by
  intro l
  induction l with
  | nil => intro i _ h; exact h
  | cons b t ih =>
    intro i h k
    have h : g i = b ∧ trL g (i + 1) t := h
    have e : (b :: t).length = t.length + 1 := rfl
    rw [e, show i + (t.length + 1) = i + 1 + t.length from by omega] at k
    exact ⟨h.1, ih (i + 1) h.2 k⟩
theorem trL.eq {g g1 : Nat → Int32} : ∀ (l : List Int32) (i : Nat), trL g i l → trL g1 i l → ∀ j : Nat, i ≤ j → j < i + l.length → g j = g1 j := by
  intro l
  induction l with
  | nil =>
    intro i _ _ j h1 h2
    have e : ([] : List Int32).length = 0 := rfl
    exact absurd h2 (by omega)
  | cons b t ih =>
    intro i h k j h1 h2
    have h : g i = b ∧ trL g (i + 1) t := h
    have k : g1 i = b ∧ trL g1 (i + 1) t := k
    have e : (b :: t).length = t.length + 1 := rfl
    by_cases z : j = i
    · rw [z, h.1, k.1]
    · exact ih (i + 1) h.2 k.2 j (by omega) (by omega)
theorem pr_eta {α β : Type} (o : α × β) : (o.1, o.2) = o := rfl
/-- an act's answer; how many bodies ran; the number stands; the trace -/
def acP (a r tr n r0 : Nat) (c1 N T : Int32) (l : List Int32) (f : sg_F) (o : Int32 × sg_F) : Prop := o.1 = T ∧ o.2 a r = c1 ∧ o.2 a n = N ∧ (∀ i : Nat, i < r0 → o.2 tr i = f tr i) ∧ trL (o.2 tr) r0 l
abbrev acB (a r tr r0 : Nat) (b : Int32) (f : sg_F) : sg_F := sg_up (sg_up f tr (sgu (f tr) r0 b)) a (sgu (sg_up f tr (sgu (f tr) r0 b) a) r (sg_up f tr (sgu (f tr) r0 b) a r + 1))
theorem acB.r {a r tr r0 : Nat} {b c c1 : Int32} {f : sg_F} (hat : a ≠ tr) (h : f a r = c) (e : c + 1 = c1) : acB a r tr r0 b f a r = c1 := by
  unfold acB
  rw [sg_up_s, sgu_s, sg_up_n hat, h, e]
theorem acB.n {a r tr n r0 : Nat} {b N : Int32} {f : sg_F} (hat : a ≠ tr) (hnr : n ≠ r) (h : f a n = N) : acB a r tr r0 b f a n = N := by
  unfold acB
  rw [sg_up_s, sgu_n hnr, sg_up_n hat, h]
theorem acB.t {a r tr r0 : Nat} {b : Int32} {f : sg_F} (hat : tr ≠ a) : acB a r tr r0 b f tr r0 = b := by
  unfold acB
  rw [sg_up_n hat, sg_up_s, sgu_s]
theorem acB.o {a r tr r0 i : Nat} {b : Int32} {f : sg_F} (hat : tr ≠ a) (h : i < r0) : acB a r tr r0 b f tr i = f tr i := by
  unfold acB
  rw [sg_up_n hat, sg_up_s, sgu_n (by omega)]
theorem acP.leaf {a r tr n r0 : Nat} {c c1 N T b : Int32} {f : sg_F} (hat : a ≠ tr) (hta : tr ≠ a) (hnr : n ≠ r) (h : f a r = c) (e : c + 1 = c1) (hn : f a n = N) {R : Int32} (eR : R = T) : acP a r tr n r0 c1 N T [b] f (R, acB a r tr r0 b f) :=
  ⟨eR, acB.r hat h e, acB.n hat hnr hn, fun _ hi => acB.o hta hi, acB.t hta, trivial⟩
theorem acP.cons {a r tr n r0 : Nat} {c1 N T b : Int32} {l : List Int32} {f : sg_F} {o : Int32 × sg_F} (hta : tr ≠ a) (h : acP a r tr n (r0 + 1) c1 N T l (acB a r tr r0 b f) o) : acP a r tr n r0 c1 N T (b :: l) f o :=
  ⟨h.1, h.2.1, h.2.2.1, fun i hi => (h.2.2.2.1 i (by omega)).trans (acB.o hta hi), (h.2.2.2.1 r0 (by omega)).trans (acB.t hta), h.2.2.2.2⟩
theorem acP.map {a r tr n r0 : Nat} {c1 N T : Int32} {l : List Int32} {f : sg_F} {o : Int32 × sg_F} (h : acP a r tr n r0 c1 N T l f o) {R T1 : Int32} (e : o.1 = T → R = T1) : acP a r tr n r0 c1 N T1 l f (R, o.2) :=
  ⟨e h.1, h.2⟩
theorem acP.two {a r tr n r0 r1 : Nat} {c1 c2 N T T2 : Int32} {l l2 : List Int32} {f : sg_F} {o o2 : Int32 × sg_F} (h : acP a r tr n r0 c1 N T l f o) (k : acP a r tr n r1 c2 N T2 l2 o.2 o2) (hr : r0 + l.length = r1) {l3 : List Int32} (hl : l ++ l2 = l3) {R T1 : Int32} (e : o.1 = T → o2.1 = T2 → R = T1) : acP a r tr n r0 c2 N T1 l3 f (R, o2.2) := by
  subst hr hl
  exact ⟨e h.1 k.1, k.2.1, k.2.2.1, fun i hi => (k.2.2.2.1 i (by omega)).trans (h.2.2.2.1 i hi), trL.ap l r0 (trL.kp l r0 h.2.2.2.2 (fun j hj => k.2.2.2.1 j hj)) k.2.2.2.2⟩
/-- what an act of a desk answers, by its kind; which bodies run -/
def acR (k w : Nat) (x n : Int32) : Int32 := match k, w with
  | 0, 0 => (x + n)
  | 0, 1 => ((x + n) * 2)
  | 0, 2 => (x ^^^ n)
  | 0, 3 => (((x + n) * 2) - (1 ^^^ n))
  | 1, 0 => ((x + n) + 3)
  | 1, 1 => (((x + n) + 3) * 2)
  | 1, 2 => (x ^^^ n)
  | 1, 3 => ((((x + n) + 3) * 2) - (1 ^^^ n))
  | 2, 0 => (x + n)
  | 2, 1 => (-((x + n) * 2))
  | 2, 2 => (x ^^^ n)
  | 2, 3 => ((-((x + n) * 2)) - (1 ^^^ n))
  | 3, 0 => (x + n)
  | 3, 1 => (-(((x + 1) + n) * 2))
  | 3, 2 => ((x ^^^ n) * 3)
  | 3, 3 => ((-(((x + 1) + n) * 2)) - ((1 ^^^ n) * 3))
  | 4, 0 => ((x + n) + 3)
  | 4, 1 => (((x + n) + 3) * 2)
  | 4, 2 => ((x ^^^ n) - ((2 + n) + 3))
  | 4, 3 => ((((x + n) + 3) * 2) - ((1 ^^^ n) - ((2 + n) + 3)))
  | 5, 0 => (x + n)
  | 5, 1 => (-(((x + 1) + n) * 2))
  | 5, 2 => ((x ^^^ n) * 3)
  | 5, 3 => (((-(((x + 1) + n) * 2)) - ((1 ^^^ n) * 3)) ^^^ 5)
  | 6, 0 => ((x + n) * 2)
  | 6, 1 => (((x + n) * 2) * 2)
  | 6, 2 => (x ^^^ n)
  | 6, 3 => ((((x + n) * 2) * 2) - (1 ^^^ n))
  | 7, 0 => ((x + n) + 3)
  | 7, 1 => ((((x + n) + 3) * 2) + ((2 ^^^ n) - ((2 + n) + 3)))
  | 7, 2 => ((x ^^^ n) - ((2 + n) + 3))
  | 7, 3 => ((((((x + n) + 3) * 2) + ((2 ^^^ n) - ((2 + n) + 3))) - ((1 ^^^ n) - ((2 + n) + 3))) - 1)
  | _, _ => 0
def acL (k w : Nat) : List Int32 := match k, w with
  | 0, 0 => [1]
  | 0, 1 => [10, 1]
  | 0, 2 => [11]
  | 0, 3 => [2, 10, 1, 11]
  | 1, 0 => [20, 1]
  | 1, 1 => [10, 20, 1]
  | 1, 2 => [11]
  | 1, 3 => [2, 10, 20, 1, 11]
  | 2, 0 => [1]
  | 2, 1 => [30, 10, 1]
  | 2, 2 => [11]
  | 2, 3 => [2, 30, 10, 1, 11]
  | 3, 0 => [1]
  | 3, 1 => [41, 30, 10, 1]
  | 3, 2 => [40, 11]
  | 3, 3 => [2, 41, 30, 10, 1, 40, 11]
  | 4, 0 => [20, 1]
  | 4, 1 => [10, 20, 1]
  | 4, 2 => [50, 11, 20, 1]
  | 4, 3 => [2, 10, 20, 1, 50, 11, 20, 1]
  | 5, 0 => [1]
  | 5, 1 => [41, 30, 10, 1]
  | 5, 2 => [40, 11]
  | 5, 3 => [60, 2, 41, 30, 10, 1, 40, 11]
  | 6, 0 => [70, 1]
  | 6, 1 => [10, 70, 1]
  | 6, 2 => [11]
  | 6, 3 => [2, 10, 70, 1, 11]
  | 7, 0 => [20, 1]
  | 7, 1 => [80, 10, 20, 1, 50, 11, 20, 1]
  | 7, 2 => [50, 11, 20, 1]
  | 7, 3 => [81, 2, 80, 10, 20, 1, 50, 11, 20, 1, 50, 11, 20, 1]
  | _, _ => []
/-- an act's answer, count and trace as told -/
def acO (a b : Nat) (tr : Nat) (k w : Nat) (x n : Int32) (o : Int32 × sg_F) : Prop := o.1 = acR k w x n ∧ (o.2 a b).toInt = ((acL k w).length : Int) ∧ trL (o.2 tr) 0 (acL k w)
theorem acP.O {a r tr n k w : Nat} {c1 N T x : Int32} {l : List Int32} {f : sg_F} {o : Int32 × sg_F} (h : acP a r tr n 0 c1 N T l f o) (e1 : T = acR k w x N) (e2 : c1.toInt = (l.length : Int)) (e3 : l = acL k w) : acO a r tr k w x N o := by
  subst e1 e3
  exact ⟨h.1, by rw [h.2.1]; exact e2, h.2.2.2.2⟩
theorem ac_sX3_does_0_0_0_f0_f0 (x N : Int32) (f : sg_F) (L : sg_L) (h : f 36 3 = 0) (hn : f 36 5 = N) : acP 36 3 38 5 0 1 N (x + N) [1] f (sX3_does_0_0_0_f0_f0 x f L) := by
  unfold sX3_does_0_0_0_f0_f0 sX3_does_0_0_0_f0_f0_b53 sX3_runs_1_m1_1_f1_f0; (repeat first | rw [spl_d] | rw [spl2_d])
  exact acP.leaf (by decide) (by decide) (by decide) h (by decide) hn (by show x + acB 36 3 38 0 1 f 36 5 = (x + N); rw [acB.n (by decide) (by decide) hn])
theorem ac_sX3_does_0_0_1_f1_f0 (x N : Int32) (f : sg_F) (L : sg_L) (h : f 36 3 = 1) (hn : f 36 5 = N) : acP 36 3 38 5 1 2 N (x + N) [1] f (sX3_does_0_0_1_f1_f0 x f L) := by
  unfold sX3_does_0_0_1_f1_f0 sX3_does_0_0_1_f1_f0_b53 sX3_runs_1_m1_2_f2_f0; (repeat first | rw [spl_d] | rw [spl2_d])
  exact acP.leaf (by decide) (by decide) (by decide) h (by decide) hn (by show x + acB 36 3 38 1 1 f 36 5 = (x + N); rw [acB.n (by decide) (by decide) hn])
theorem ac_sX3_runs_10_m1_1_f1_f0 (x N : Int32) (f : sg_F) (L : sg_L) (h : f 36 3 = 1) (hn : f 36 5 = N) : acP 36 3 38 5 1 2 N ((x + N) * 2) [1] f (sX3_runs_10_m1_1_f1_f0 x f L) := by
  unfold sX3_runs_10_m1_1_f1_f0; (repeat first | rw [spl_d] | rw [spl2_d])
  exact acP.map (ac_sX3_does_0_0_1_f1_f0 x N f L h hn) (fun z => by rw [z])
theorem ac_sX3_does_0_1_0_f0_f0 (x N : Int32) (f : sg_F) (L : sg_L) (h : f 36 3 = 0) (hn : f 36 5 = N) : acP 36 3 38 5 0 2 N ((x + N) * 2) [10, 1] f (sX3_does_0_1_0_f0_f0 x f L) := by
  unfold sX3_does_0_1_0_f0_f0 sX3_does_0_1_0_f0_f0_b53; (repeat first | rw [spl_d] | rw [spl2_d]); rw [pr_eta]
  exact acP.cons (by decide) (ac_sX3_runs_10_m1_1_f1_f0 x N (acB 36 3 38 0 10 f) L (acB.r (by decide) h (by decide)) (acB.n (by decide) (by decide) hn))
theorem ac_sX3_does_0_2_0_f0_f0 (x N : Int32) (f : sg_F) (L : sg_L) (h : f 36 3 = 0) (hn : f 36 5 = N) : acP 36 3 38 5 0 1 N (x ^^^ N) [11] f (sX3_does_0_2_0_f0_f0 x f L) := by
  unfold sX3_does_0_2_0_f0_f0 sX3_does_0_2_0_f0_f0_b53 sX3_runs_11_m1_1_f1_f0; (repeat first | rw [spl_d] | rw [spl2_d])
  exact acP.leaf (by decide) (by decide) (by decide) h (by decide) hn (by show x ^^^ acB 36 3 38 0 11 f 36 5 = (x ^^^ N); rw [acB.n (by decide) (by decide) hn])
theorem ac_sX3_does_0_0_2_f2_f0 (x N : Int32) (f : sg_F) (L : sg_L) (h : f 36 3 = 2) (hn : f 36 5 = N) : acP 36 3 38 5 2 3 N (x + N) [1] f (sX3_does_0_0_2_f2_f0 x f L) := by
  unfold sX3_does_0_0_2_f2_f0 sX3_does_0_0_2_f2_f0_b53 sX3_runs_1_m1_3_f3_f0; (repeat first | rw [spl_d] | rw [spl2_d])
  exact acP.leaf (by decide) (by decide) (by decide) h (by decide) hn (by show x + acB 36 3 38 2 1 f 36 5 = (x + N); rw [acB.n (by decide) (by decide) hn])
theorem ac_sX3_runs_10_m1_2_f2_f0 (x N : Int32) (f : sg_F) (L : sg_L) (h : f 36 3 = 2) (hn : f 36 5 = N) : acP 36 3 38 5 2 3 N ((x + N) * 2) [1] f (sX3_runs_10_m1_2_f2_f0 x f L) := by
  unfold sX3_runs_10_m1_2_f2_f0; (repeat first | rw [spl_d] | rw [spl2_d])
  exact acP.map (ac_sX3_does_0_0_2_f2_f0 x N f L h hn) (fun z => by rw [z])
theorem ac_sX3_does_0_1_1_f1_f0 (x N : Int32) (f : sg_F) (L : sg_L) (h : f 36 3 = 1) (hn : f 36 5 = N) : acP 36 3 38 5 1 3 N ((x + N) * 2) [10, 1] f (sX3_does_0_1_1_f1_f0 x f L) := by
  unfold sX3_does_0_1_1_f1_f0 sX3_does_0_1_1_f1_f0_b53; (repeat first | rw [spl_d] | rw [spl2_d]); rw [pr_eta]
  exact acP.cons (by decide) (ac_sX3_runs_10_m1_2_f2_f0 x N (acB 36 3 38 1 10 f) L (acB.r (by decide) h (by decide)) (acB.n (by decide) (by decide) hn))
theorem ac_sX3_does_0_2_1_f3_f0 (x N : Int32) (f : sg_F) (L : sg_L) (h : f 36 3 = 3) (hn : f 36 5 = N) : acP 36 3 38 5 3 4 N (x ^^^ N) [11] f (sX3_does_0_2_1_f3_f0 x f L) := by
  unfold sX3_does_0_2_1_f3_f0 sX3_does_0_2_1_f3_f0_b53 sX3_runs_11_m1_2_f4_f0; (repeat first | rw [spl_d] | rw [spl2_d])
  exact acP.leaf (by decide) (by decide) (by decide) h (by decide) hn (by show x ^^^ acB 36 3 38 3 11 f 36 5 = (x ^^^ N); rw [acB.n (by decide) (by decide) hn])
theorem ac_sX3_runs_2_m1_1_f1_f0 (x N : Int32) (f : sg_F) (L : sg_L) (h : f 36 3 = 1) (hn : f 36 5 = N) : acP 36 3 38 5 1 4 N (((x + N) * 2) - (1 ^^^ N)) [10, 1, 11] f (sX3_runs_2_m1_1_f1_f0 x f L) := by
  unfold sX3_runs_2_m1_1_f1_f0; (repeat first | rw [spl_d] | rw [spl2_d])
  exact acP.two (ac_sX3_does_0_1_1_f1_f0 x N f L h hn) (ac_sX3_does_0_2_1_f3_f0 1 N (sX3_does_0_1_1_f1_f0 x f L).2 L (ac_sX3_does_0_1_1_f1_f0 x N f L h hn).2.1 (ac_sX3_does_0_1_1_f1_f0 x N f L h hn).2.2.1) rfl rfl (fun z1 z2 => by rw [z1, z2])
theorem ac_sX3_does_0_3_0_f0_f0 (x N : Int32) (f : sg_F) (L : sg_L) (h : f 36 3 = 0) (hn : f 36 5 = N) : acP 36 3 38 5 0 4 N (((x + N) * 2) - (1 ^^^ N)) [2, 10, 1, 11] f (sX3_does_0_3_0_f0_f0 x f L) := by
  unfold sX3_does_0_3_0_f0_f0 sX3_does_0_3_0_f0_f0_b53; (repeat first | rw [spl_d] | rw [spl2_d]); rw [pr_eta]
  exact acP.cons (by decide) (ac_sX3_runs_2_m1_1_f1_f0 x N (acB 36 3 38 0 2 f) L (acB.r (by decide) h (by decide)) (acB.n (by decide) (by decide) hn))
theorem ac_sX3_does_0_0_1_f1_f1 (x N : Int32) (f : sg_F) (L : sg_L) (h : f 36 3 = 1) (hn : f 36 5 = N) : acP 36 3 38 5 1 2 N (x + N) [1] f (sX3_does_0_0_1_f1_f1 x f L) := by
  unfold sX3_does_0_0_1_f1_f1 sX3_does_0_0_1_f1_f1_b53 sX3_runs_1_m1_2_f2_f1; (repeat first | rw [spl_d] | rw [spl2_d])
  exact acP.leaf (by decide) (by decide) (by decide) h (by decide) hn (by show x + acB 36 3 38 1 1 f 36 5 = (x + N); rw [acB.n (by decide) (by decide) hn])
theorem ac_sX3_runs_20_0_1_f1_f1 (x N : Int32) (f : sg_F) (L : sg_L) (h : f 36 3 = 1) (hn : f 36 5 = N) : acP 36 3 38 5 1 2 N ((x + N) + 3) [1] f (sX3_runs_20_0_1_f1_f1 x f L) := by
  unfold sX3_runs_20_0_1_f1_f1; (repeat first | rw [spl_d] | rw [spl2_d])
  exact acP.map (ac_sX3_does_0_0_1_f1_f1 x N f L h hn) (fun z => by rw [z])
theorem ac_sX3_does_1_0_0_f0_f1 (x N : Int32) (f : sg_F) (L : sg_L) (h : f 36 3 = 0) (hn : f 36 5 = N) : acP 36 3 38 5 0 2 N ((x + N) + 3) [20, 1] f (sX3_does_1_0_0_f0_f1 x f L) := by
  unfold sX3_does_1_0_0_f0_f1 sX3_does_1_0_0_f0_f1_b53; (repeat first | rw [spl_d] | rw [spl2_d]); rw [pr_eta]
  exact acP.cons (by decide) (ac_sX3_runs_20_0_1_f1_f1 x N (acB 36 3 38 0 20 f) L (acB.r (by decide) h (by decide)) (acB.n (by decide) (by decide) hn))
theorem ac_sX3_does_0_0_2_f2_f1 (x N : Int32) (f : sg_F) (L : sg_L) (h : f 36 3 = 2) (hn : f 36 5 = N) : acP 36 3 38 5 2 3 N (x + N) [1] f (sX3_does_0_0_2_f2_f1 x f L) := by
  unfold sX3_does_0_0_2_f2_f1 sX3_does_0_0_2_f2_f1_b53 sX3_runs_1_m1_3_f3_f1; (repeat first | rw [spl_d] | rw [spl2_d])
  exact acP.leaf (by decide) (by decide) (by decide) h (by decide) hn (by show x + acB 36 3 38 2 1 f 36 5 = (x + N); rw [acB.n (by decide) (by decide) hn])
theorem ac_sX3_runs_20_0_2_f2_f1 (x N : Int32) (f : sg_F) (L : sg_L) (h : f 36 3 = 2) (hn : f 36 5 = N) : acP 36 3 38 5 2 3 N ((x + N) + 3) [1] f (sX3_runs_20_0_2_f2_f1 x f L) := by
  unfold sX3_runs_20_0_2_f2_f1; (repeat first | rw [spl_d] | rw [spl2_d])
  exact acP.map (ac_sX3_does_0_0_2_f2_f1 x N f L h hn) (fun z => by rw [z])
theorem ac_sX3_does_1_0_1_f1_f1 (x N : Int32) (f : sg_F) (L : sg_L) (h : f 36 3 = 1) (hn : f 36 5 = N) : acP 36 3 38 5 1 3 N ((x + N) + 3) [20, 1] f (sX3_does_1_0_1_f1_f1 x f L) := by
  unfold sX3_does_1_0_1_f1_f1 sX3_does_1_0_1_f1_f1_b53; (repeat first | rw [spl_d] | rw [spl2_d]); rw [pr_eta]
  exact acP.cons (by decide) (ac_sX3_runs_20_0_2_f2_f1 x N (acB 36 3 38 1 20 f) L (acB.r (by decide) h (by decide)) (acB.n (by decide) (by decide) hn))
theorem ac_sX3_runs_10_m1_1_f1_f1 (x N : Int32) (f : sg_F) (L : sg_L) (h : f 36 3 = 1) (hn : f 36 5 = N) : acP 36 3 38 5 1 3 N (((x + N) + 3) * 2) [20, 1] f (sX3_runs_10_m1_1_f1_f1 x f L) := by
  unfold sX3_runs_10_m1_1_f1_f1; (repeat first | rw [spl_d] | rw [spl2_d])
  exact acP.map (ac_sX3_does_1_0_1_f1_f1 x N f L h hn) (fun z => by rw [z])
theorem ac_sX3_does_1_1_0_f0_f1 (x N : Int32) (f : sg_F) (L : sg_L) (h : f 36 3 = 0) (hn : f 36 5 = N) : acP 36 3 38 5 0 3 N (((x + N) + 3) * 2) [10, 20, 1] f (sX3_does_1_1_0_f0_f1 x f L) := by
  unfold sX3_does_1_1_0_f0_f1 sX3_does_1_1_0_f0_f1_b53; (repeat first | rw [spl_d] | rw [spl2_d]); rw [pr_eta]
  exact acP.cons (by decide) (ac_sX3_runs_10_m1_1_f1_f1 x N (acB 36 3 38 0 10 f) L (acB.r (by decide) h (by decide)) (acB.n (by decide) (by decide) hn))
theorem ac_sX3_does_1_2_0_f0_f1 (x N : Int32) (f : sg_F) (L : sg_L) (h : f 36 3 = 0) (hn : f 36 5 = N) : acP 36 3 38 5 0 1 N (x ^^^ N) [11] f (sX3_does_1_2_0_f0_f1 x f L) := by
  unfold sX3_does_1_2_0_f0_f1 sX3_does_1_2_0_f0_f1_b53 sX3_runs_11_m1_1_f1_f1; (repeat first | rw [spl_d] | rw [spl2_d])
  exact acP.leaf (by decide) (by decide) (by decide) h (by decide) hn (by show x ^^^ acB 36 3 38 0 11 f 36 5 = (x ^^^ N); rw [acB.n (by decide) (by decide) hn])
theorem ac_sX3_does_0_0_3_f3_f1 (x N : Int32) (f : sg_F) (L : sg_L) (h : f 36 3 = 3) (hn : f 36 5 = N) : acP 36 3 38 5 3 4 N (x + N) [1] f (sX3_does_0_0_3_f3_f1 x f L) := by
  unfold sX3_does_0_0_3_f3_f1 sX3_does_0_0_3_f3_f1_b53 sX3_runs_1_m1_4_f4_f1; (repeat first | rw [spl_d] | rw [spl2_d])
  exact acP.leaf (by decide) (by decide) (by decide) h (by decide) hn (by show x + acB 36 3 38 3 1 f 36 5 = (x + N); rw [acB.n (by decide) (by decide) hn])
theorem ac_sX3_runs_20_0_3_f3_f1 (x N : Int32) (f : sg_F) (L : sg_L) (h : f 36 3 = 3) (hn : f 36 5 = N) : acP 36 3 38 5 3 4 N ((x + N) + 3) [1] f (sX3_runs_20_0_3_f3_f1 x f L) := by
  unfold sX3_runs_20_0_3_f3_f1; (repeat first | rw [spl_d] | rw [spl2_d])
  exact acP.map (ac_sX3_does_0_0_3_f3_f1 x N f L h hn) (fun z => by rw [z])
theorem ac_sX3_does_1_0_2_f2_f1 (x N : Int32) (f : sg_F) (L : sg_L) (h : f 36 3 = 2) (hn : f 36 5 = N) : acP 36 3 38 5 2 4 N ((x + N) + 3) [20, 1] f (sX3_does_1_0_2_f2_f1 x f L) := by
  unfold sX3_does_1_0_2_f2_f1 sX3_does_1_0_2_f2_f1_b53; (repeat first | rw [spl_d] | rw [spl2_d]); rw [pr_eta]
  exact acP.cons (by decide) (ac_sX3_runs_20_0_3_f3_f1 x N (acB 36 3 38 2 20 f) L (acB.r (by decide) h (by decide)) (acB.n (by decide) (by decide) hn))
theorem ac_sX3_runs_10_m1_2_f2_f1 (x N : Int32) (f : sg_F) (L : sg_L) (h : f 36 3 = 2) (hn : f 36 5 = N) : acP 36 3 38 5 2 4 N (((x + N) + 3) * 2) [20, 1] f (sX3_runs_10_m1_2_f2_f1 x f L) := by
  unfold sX3_runs_10_m1_2_f2_f1; (repeat first | rw [spl_d] | rw [spl2_d])
  exact acP.map (ac_sX3_does_1_0_2_f2_f1 x N f L h hn) (fun z => by rw [z])
theorem ac_sX3_does_1_1_1_f1_f1 (x N : Int32) (f : sg_F) (L : sg_L) (h : f 36 3 = 1) (hn : f 36 5 = N) : acP 36 3 38 5 1 4 N (((x + N) + 3) * 2) [10, 20, 1] f (sX3_does_1_1_1_f1_f1 x f L) := by
  unfold sX3_does_1_1_1_f1_f1 sX3_does_1_1_1_f1_f1_b53; (repeat first | rw [spl_d] | rw [spl2_d]); rw [pr_eta]
  exact acP.cons (by decide) (ac_sX3_runs_10_m1_2_f2_f1 x N (acB 36 3 38 1 10 f) L (acB.r (by decide) h (by decide)) (acB.n (by decide) (by decide) hn))
theorem ac_sX3_does_1_2_1_f4_f1 (x N : Int32) (f : sg_F) (L : sg_L) (h : f 36 3 = 4) (hn : f 36 5 = N) : acP 36 3 38 5 4 5 N (x ^^^ N) [11] f (sX3_does_1_2_1_f4_f1 x f L) := by
  unfold sX3_does_1_2_1_f4_f1 sX3_does_1_2_1_f4_f1_b53 sX3_runs_11_m1_2_f5_f1; (repeat first | rw [spl_d] | rw [spl2_d])
  exact acP.leaf (by decide) (by decide) (by decide) h (by decide) hn (by show x ^^^ acB 36 3 38 4 11 f 36 5 = (x ^^^ N); rw [acB.n (by decide) (by decide) hn])
theorem ac_sX3_runs_2_m1_1_f1_f1 (x N : Int32) (f : sg_F) (L : sg_L) (h : f 36 3 = 1) (hn : f 36 5 = N) : acP 36 3 38 5 1 5 N ((((x + N) + 3) * 2) - (1 ^^^ N)) [10, 20, 1, 11] f (sX3_runs_2_m1_1_f1_f1 x f L) := by
  unfold sX3_runs_2_m1_1_f1_f1; (repeat first | rw [spl_d] | rw [spl2_d])
  exact acP.two (ac_sX3_does_1_1_1_f1_f1 x N f L h hn) (ac_sX3_does_1_2_1_f4_f1 1 N (sX3_does_1_1_1_f1_f1 x f L).2 L (ac_sX3_does_1_1_1_f1_f1 x N f L h hn).2.1 (ac_sX3_does_1_1_1_f1_f1 x N f L h hn).2.2.1) rfl rfl (fun z1 z2 => by rw [z1, z2])
theorem ac_sX3_does_1_3_0_f0_f1 (x N : Int32) (f : sg_F) (L : sg_L) (h : f 36 3 = 0) (hn : f 36 5 = N) : acP 36 3 38 5 0 5 N ((((x + N) + 3) * 2) - (1 ^^^ N)) [2, 10, 20, 1, 11] f (sX3_does_1_3_0_f0_f1 x f L) := by
  unfold sX3_does_1_3_0_f0_f1 sX3_does_1_3_0_f0_f1_b53; (repeat first | rw [spl_d] | rw [spl2_d]); rw [pr_eta]
  exact acP.cons (by decide) (ac_sX3_runs_2_m1_1_f1_f1 x N (acB 36 3 38 0 2 f) L (acB.r (by decide) h (by decide)) (acB.n (by decide) (by decide) hn))
theorem ac_sX3_does_2_0_0_f0_f2 (x N : Int32) (f : sg_F) (L : sg_L) (h : f 36 3 = 0) (hn : f 36 5 = N) : acP 36 3 38 5 0 1 N (x + N) [1] f (sX3_does_2_0_0_f0_f2 x f L) := by
  unfold sX3_does_2_0_0_f0_f2 sX3_does_2_0_0_f0_f2_b53 sX3_runs_1_m1_1_f1_f2; (repeat first | rw [spl_d] | rw [spl2_d])
  exact acP.leaf (by decide) (by decide) (by decide) h (by decide) hn (by show x + acB 36 3 38 0 1 f 36 5 = (x + N); rw [acB.n (by decide) (by decide) hn])
theorem ac_sX3_does_2_0_2_f2_f2 (x N : Int32) (f : sg_F) (L : sg_L) (h : f 36 3 = 2) (hn : f 36 5 = N) : acP 36 3 38 5 2 3 N (x + N) [1] f (sX3_does_2_0_2_f2_f2 x f L) := by
  unfold sX3_does_2_0_2_f2_f2 sX3_does_2_0_2_f2_f2_b53 sX3_runs_1_m1_3_f3_f2; (repeat first | rw [spl_d] | rw [spl2_d])
  exact acP.leaf (by decide) (by decide) (by decide) h (by decide) hn (by show x + acB 36 3 38 2 1 f 36 5 = (x + N); rw [acB.n (by decide) (by decide) hn])
theorem ac_sX3_runs_10_m1_2_f2_f2 (x N : Int32) (f : sg_F) (L : sg_L) (h : f 36 3 = 2) (hn : f 36 5 = N) : acP 36 3 38 5 2 3 N ((x + N) * 2) [1] f (sX3_runs_10_m1_2_f2_f2 x f L) := by
  unfold sX3_runs_10_m1_2_f2_f2; (repeat first | rw [spl_d] | rw [spl2_d])
  exact acP.map (ac_sX3_does_2_0_2_f2_f2 x N f L h hn) (fun z => by rw [z])
theorem ac_sX3_does_0_1_1_f1_f2 (x N : Int32) (f : sg_F) (L : sg_L) (h : f 36 3 = 1) (hn : f 36 5 = N) : acP 36 3 38 5 1 3 N ((x + N) * 2) [10, 1] f (sX3_does_0_1_1_f1_f2 x f L) := by
  unfold sX3_does_0_1_1_f1_f2 sX3_does_0_1_1_f1_f2_b53; (repeat first | rw [spl_d] | rw [spl2_d]); rw [pr_eta]
  exact acP.cons (by decide) (ac_sX3_runs_10_m1_2_f2_f2 x N (acB 36 3 38 1 10 f) L (acB.r (by decide) h (by decide)) (acB.n (by decide) (by decide) hn))
theorem ac_sX3_runs_30_0_1_f1_f2 (x N : Int32) (f : sg_F) (L : sg_L) (h : f 36 3 = 1) (hn : f 36 5 = N) : acP 36 3 38 5 1 3 N (-((x + N) * 2)) [10, 1] f (sX3_runs_30_0_1_f1_f2 x f L) := by
  unfold sX3_runs_30_0_1_f1_f2; (repeat first | rw [spl_d] | rw [spl2_d])
  exact acP.map (ac_sX3_does_0_1_1_f1_f2 x N f L h hn) (fun z => by rw [z])
theorem ac_sX3_does_2_1_0_f0_f2 (x N : Int32) (f : sg_F) (L : sg_L) (h : f 36 3 = 0) (hn : f 36 5 = N) : acP 36 3 38 5 0 3 N (-((x + N) * 2)) [30, 10, 1] f (sX3_does_2_1_0_f0_f2 x f L) := by
  unfold sX3_does_2_1_0_f0_f2 sX3_does_2_1_0_f0_f2_b53; (repeat first | rw [spl_d] | rw [spl2_d]); rw [pr_eta]
  exact acP.cons (by decide) (ac_sX3_runs_30_0_1_f1_f2 x N (acB 36 3 38 0 30 f) L (acB.r (by decide) h (by decide)) (acB.n (by decide) (by decide) hn))
theorem ac_sX3_does_2_2_0_f0_f2 (x N : Int32) (f : sg_F) (L : sg_L) (h : f 36 3 = 0) (hn : f 36 5 = N) : acP 36 3 38 5 0 1 N (x ^^^ N) [11] f (sX3_does_2_2_0_f0_f2 x f L) := by
  unfold sX3_does_2_2_0_f0_f2 sX3_does_2_2_0_f0_f2_b53 sX3_runs_11_m1_1_f1_f2; (repeat first | rw [spl_d] | rw [spl2_d])
  exact acP.leaf (by decide) (by decide) (by decide) h (by decide) hn (by show x ^^^ acB 36 3 38 0 11 f 36 5 = (x ^^^ N); rw [acB.n (by decide) (by decide) hn])
theorem ac_sX3_does_2_0_3_f3_f2 (x N : Int32) (f : sg_F) (L : sg_L) (h : f 36 3 = 3) (hn : f 36 5 = N) : acP 36 3 38 5 3 4 N (x + N) [1] f (sX3_does_2_0_3_f3_f2 x f L) := by
  unfold sX3_does_2_0_3_f3_f2 sX3_does_2_0_3_f3_f2_b53 sX3_runs_1_m1_4_f4_f2; (repeat first | rw [spl_d] | rw [spl2_d])
  exact acP.leaf (by decide) (by decide) (by decide) h (by decide) hn (by show x + acB 36 3 38 3 1 f 36 5 = (x + N); rw [acB.n (by decide) (by decide) hn])
theorem ac_sX3_runs_10_m1_3_f3_f2 (x N : Int32) (f : sg_F) (L : sg_L) (h : f 36 3 = 3) (hn : f 36 5 = N) : acP 36 3 38 5 3 4 N ((x + N) * 2) [1] f (sX3_runs_10_m1_3_f3_f2 x f L) := by
  unfold sX3_runs_10_m1_3_f3_f2; (repeat first | rw [spl_d] | rw [spl2_d])
  exact acP.map (ac_sX3_does_2_0_3_f3_f2 x N f L h hn) (fun z => by rw [z])
theorem ac_sX3_does_0_1_2_f2_f2 (x N : Int32) (f : sg_F) (L : sg_L) (h : f 36 3 = 2) (hn : f 36 5 = N) : acP 36 3 38 5 2 4 N ((x + N) * 2) [10, 1] f (sX3_does_0_1_2_f2_f2 x f L) := by
  unfold sX3_does_0_1_2_f2_f2 sX3_does_0_1_2_f2_f2_b53; (repeat first | rw [spl_d] | rw [spl2_d]); rw [pr_eta]
  exact acP.cons (by decide) (ac_sX3_runs_10_m1_3_f3_f2 x N (acB 36 3 38 2 10 f) L (acB.r (by decide) h (by decide)) (acB.n (by decide) (by decide) hn))
theorem ac_sX3_runs_30_0_2_f2_f2 (x N : Int32) (f : sg_F) (L : sg_L) (h : f 36 3 = 2) (hn : f 36 5 = N) : acP 36 3 38 5 2 4 N (-((x + N) * 2)) [10, 1] f (sX3_runs_30_0_2_f2_f2 x f L) := by
  unfold sX3_runs_30_0_2_f2_f2; (repeat first | rw [spl_d] | rw [spl2_d])
  exact acP.map (ac_sX3_does_0_1_2_f2_f2 x N f L h hn) (fun z => by rw [z])
theorem ac_sX3_does_2_1_1_f1_f2 (x N : Int32) (f : sg_F) (L : sg_L) (h : f 36 3 = 1) (hn : f 36 5 = N) : acP 36 3 38 5 1 4 N (-((x + N) * 2)) [30, 10, 1] f (sX3_does_2_1_1_f1_f2 x f L) := by
  unfold sX3_does_2_1_1_f1_f2 sX3_does_2_1_1_f1_f2_b53; (repeat first | rw [spl_d] | rw [spl2_d]); rw [pr_eta]
  exact acP.cons (by decide) (ac_sX3_runs_30_0_2_f2_f2 x N (acB 36 3 38 1 30 f) L (acB.r (by decide) h (by decide)) (acB.n (by decide) (by decide) hn))
theorem ac_sX3_does_2_2_1_f4_f2 (x N : Int32) (f : sg_F) (L : sg_L) (h : f 36 3 = 4) (hn : f 36 5 = N) : acP 36 3 38 5 4 5 N (x ^^^ N) [11] f (sX3_does_2_2_1_f4_f2 x f L) := by
  unfold sX3_does_2_2_1_f4_f2 sX3_does_2_2_1_f4_f2_b53 sX3_runs_11_m1_2_f5_f2; (repeat first | rw [spl_d] | rw [spl2_d])
  exact acP.leaf (by decide) (by decide) (by decide) h (by decide) hn (by show x ^^^ acB 36 3 38 4 11 f 36 5 = (x ^^^ N); rw [acB.n (by decide) (by decide) hn])
theorem ac_sX3_runs_2_m1_1_f1_f2 (x N : Int32) (f : sg_F) (L : sg_L) (h : f 36 3 = 1) (hn : f 36 5 = N) : acP 36 3 38 5 1 5 N ((-((x + N) * 2)) - (1 ^^^ N)) [30, 10, 1, 11] f (sX3_runs_2_m1_1_f1_f2 x f L) := by
  unfold sX3_runs_2_m1_1_f1_f2; (repeat first | rw [spl_d] | rw [spl2_d])
  exact acP.two (ac_sX3_does_2_1_1_f1_f2 x N f L h hn) (ac_sX3_does_2_2_1_f4_f2 1 N (sX3_does_2_1_1_f1_f2 x f L).2 L (ac_sX3_does_2_1_1_f1_f2 x N f L h hn).2.1 (ac_sX3_does_2_1_1_f1_f2 x N f L h hn).2.2.1) rfl rfl (fun z1 z2 => by rw [z1, z2])
theorem ac_sX3_does_2_3_0_f0_f2 (x N : Int32) (f : sg_F) (L : sg_L) (h : f 36 3 = 0) (hn : f 36 5 = N) : acP 36 3 38 5 0 5 N ((-((x + N) * 2)) - (1 ^^^ N)) [2, 30, 10, 1, 11] f (sX3_does_2_3_0_f0_f2 x f L) := by
  unfold sX3_does_2_3_0_f0_f2 sX3_does_2_3_0_f0_f2_b53; (repeat first | rw [spl_d] | rw [spl2_d]); rw [pr_eta]
  exact acP.cons (by decide) (ac_sX3_runs_2_m1_1_f1_f2 x N (acB 36 3 38 0 2 f) L (acB.r (by decide) h (by decide)) (acB.n (by decide) (by decide) hn))
theorem ac_sX3_does_3_0_0_f0_f3 (x N : Int32) (f : sg_F) (L : sg_L) (h : f 36 3 = 0) (hn : f 36 5 = N) : acP 36 3 38 5 0 1 N (x + N) [1] f (sX3_does_3_0_0_f0_f3 x f L) := by
  unfold sX3_does_3_0_0_f0_f3 sX3_does_3_0_0_f0_f3_b53 sX3_runs_1_m1_1_f1_f3; (repeat first | rw [spl_d] | rw [spl2_d])
  exact acP.leaf (by decide) (by decide) (by decide) h (by decide) hn (by show x + acB 36 3 38 0 1 f 36 5 = (x + N); rw [acB.n (by decide) (by decide) hn])
theorem ac_sX3_does_3_0_3_f3_f3 (x N : Int32) (f : sg_F) (L : sg_L) (h : f 36 3 = 3) (hn : f 36 5 = N) : acP 36 3 38 5 3 4 N (x + N) [1] f (sX3_does_3_0_3_f3_f3 x f L) := by
  unfold sX3_does_3_0_3_f3_f3 sX3_does_3_0_3_f3_f3_b53 sX3_runs_1_m1_4_f4_f3; (repeat first | rw [spl_d] | rw [spl2_d])
  exact acP.leaf (by decide) (by decide) (by decide) h (by decide) hn (by show x + acB 36 3 38 3 1 f 36 5 = (x + N); rw [acB.n (by decide) (by decide) hn])
theorem ac_sX3_runs_10_m1_3_f3_f3 (x N : Int32) (f : sg_F) (L : sg_L) (h : f 36 3 = 3) (hn : f 36 5 = N) : acP 36 3 38 5 3 4 N ((x + N) * 2) [1] f (sX3_runs_10_m1_3_f3_f3 x f L) := by
  unfold sX3_runs_10_m1_3_f3_f3; (repeat first | rw [spl_d] | rw [spl2_d])
  exact acP.map (ac_sX3_does_3_0_3_f3_f3 x N f L h hn) (fun z => by rw [z])
theorem ac_sX3_does_0_1_2_f2_f3 (x N : Int32) (f : sg_F) (L : sg_L) (h : f 36 3 = 2) (hn : f 36 5 = N) : acP 36 3 38 5 2 4 N ((x + N) * 2) [10, 1] f (sX3_does_0_1_2_f2_f3 x f L) := by
  unfold sX3_does_0_1_2_f2_f3 sX3_does_0_1_2_f2_f3_b53; (repeat first | rw [spl_d] | rw [spl2_d]); rw [pr_eta]
  exact acP.cons (by decide) (ac_sX3_runs_10_m1_3_f3_f3 x N (acB 36 3 38 2 10 f) L (acB.r (by decide) h (by decide)) (acB.n (by decide) (by decide) hn))
theorem ac_sX3_runs_30_0_2_f2_f3 (x N : Int32) (f : sg_F) (L : sg_L) (h : f 36 3 = 2) (hn : f 36 5 = N) : acP 36 3 38 5 2 4 N (-((x + N) * 2)) [10, 1] f (sX3_runs_30_0_2_f2_f3 x f L) := by
  unfold sX3_runs_30_0_2_f2_f3; (repeat first | rw [spl_d] | rw [spl2_d])
  exact acP.map (ac_sX3_does_0_1_2_f2_f3 x N f L h hn) (fun z => by rw [z])
theorem ac_sX3_does_2_1_1_f1_f3 (x N : Int32) (f : sg_F) (L : sg_L) (h : f 36 3 = 1) (hn : f 36 5 = N) : acP 36 3 38 5 1 4 N (-((x + N) * 2)) [30, 10, 1] f (sX3_does_2_1_1_f1_f3 x f L) := by
  unfold sX3_does_2_1_1_f1_f3 sX3_does_2_1_1_f1_f3_b53; (repeat first | rw [spl_d] | rw [spl2_d]); rw [pr_eta]
  exact acP.cons (by decide) (ac_sX3_runs_30_0_2_f2_f3 x N (acB 36 3 38 1 30 f) L (acB.r (by decide) h (by decide)) (acB.n (by decide) (by decide) hn))
theorem ac_sX3_runs_41_2_1_f1_f3 (x N : Int32) (f : sg_F) (L : sg_L) (h : f 36 3 = 1) (hn : f 36 5 = N) : acP 36 3 38 5 1 4 N (-(((x + 1) + N) * 2)) [30, 10, 1] f (sX3_runs_41_2_1_f1_f3 x f L) := by
  unfold sX3_runs_41_2_1_f1_f3; (repeat first | rw [spl_d] | rw [spl2_d])
  exact acP.map (ac_sX3_does_2_1_1_f1_f3 (x + 1) N f L h hn) (fun z => z)
theorem ac_sX3_does_3_1_0_f0_f3 (x N : Int32) (f : sg_F) (L : sg_L) (h : f 36 3 = 0) (hn : f 36 5 = N) : acP 36 3 38 5 0 4 N (-(((x + 1) + N) * 2)) [41, 30, 10, 1] f (sX3_does_3_1_0_f0_f3 x f L) := by
  unfold sX3_does_3_1_0_f0_f3 sX3_does_3_1_0_f0_f3_b53; (repeat first | rw [spl_d] | rw [spl2_d]); rw [pr_eta]
  exact acP.cons (by decide) (ac_sX3_runs_41_2_1_f1_f3 x N (acB 36 3 38 0 41 f) L (acB.r (by decide) h (by decide)) (acB.n (by decide) (by decide) hn))
theorem ac_sX3_does_2_2_1_f1_f3 (x N : Int32) (f : sg_F) (L : sg_L) (h : f 36 3 = 1) (hn : f 36 5 = N) : acP 36 3 38 5 1 2 N (x ^^^ N) [11] f (sX3_does_2_2_1_f1_f3 x f L) := by
  unfold sX3_does_2_2_1_f1_f3 sX3_does_2_2_1_f1_f3_b53 sX3_runs_11_m1_2_f2_f3; (repeat first | rw [spl_d] | rw [spl2_d])
  exact acP.leaf (by decide) (by decide) (by decide) h (by decide) hn (by show x ^^^ acB 36 3 38 1 11 f 36 5 = (x ^^^ N); rw [acB.n (by decide) (by decide) hn])
theorem ac_sX3_runs_40_2_1_f1_f3 (x N : Int32) (f : sg_F) (L : sg_L) (h : f 36 3 = 1) (hn : f 36 5 = N) : acP 36 3 38 5 1 2 N ((x ^^^ N) * 3) [11] f (sX3_runs_40_2_1_f1_f3 x f L) := by
  unfold sX3_runs_40_2_1_f1_f3; (repeat first | rw [spl_d] | rw [spl2_d])
  exact acP.map (ac_sX3_does_2_2_1_f1_f3 x N f L h hn) (fun z => by rw [z])
theorem ac_sX3_does_3_2_0_f0_f3 (x N : Int32) (f : sg_F) (L : sg_L) (h : f 36 3 = 0) (hn : f 36 5 = N) : acP 36 3 38 5 0 2 N ((x ^^^ N) * 3) [40, 11] f (sX3_does_3_2_0_f0_f3 x f L) := by
  unfold sX3_does_3_2_0_f0_f3 sX3_does_3_2_0_f0_f3_b53; (repeat first | rw [spl_d] | rw [spl2_d]); rw [pr_eta]
  exact acP.cons (by decide) (ac_sX3_runs_40_2_1_f1_f3 x N (acB 36 3 38 0 40 f) L (acB.r (by decide) h (by decide)) (acB.n (by decide) (by decide) hn))
theorem ac_sX3_does_3_0_4_f4_f3 (x N : Int32) (f : sg_F) (L : sg_L) (h : f 36 3 = 4) (hn : f 36 5 = N) : acP 36 3 38 5 4 5 N (x + N) [1] f (sX3_does_3_0_4_f4_f3 x f L) := by
  unfold sX3_does_3_0_4_f4_f3 sX3_does_3_0_4_f4_f3_b53 sX3_runs_1_m1_5_f5_f3; (repeat first | rw [spl_d] | rw [spl2_d])
  exact acP.leaf (by decide) (by decide) (by decide) h (by decide) hn (by show x + acB 36 3 38 4 1 f 36 5 = (x + N); rw [acB.n (by decide) (by decide) hn])
theorem ac_sX3_runs_10_m1_4_f4_f3 (x N : Int32) (f : sg_F) (L : sg_L) (h : f 36 3 = 4) (hn : f 36 5 = N) : acP 36 3 38 5 4 5 N ((x + N) * 2) [1] f (sX3_runs_10_m1_4_f4_f3 x f L) := by
  unfold sX3_runs_10_m1_4_f4_f3; (repeat first | rw [spl_d] | rw [spl2_d])
  exact acP.map (ac_sX3_does_3_0_4_f4_f3 x N f L h hn) (fun z => by rw [z])
theorem ac_sX3_does_0_1_3_f3_f3 (x N : Int32) (f : sg_F) (L : sg_L) (h : f 36 3 = 3) (hn : f 36 5 = N) : acP 36 3 38 5 3 5 N ((x + N) * 2) [10, 1] f (sX3_does_0_1_3_f3_f3 x f L) := by
  unfold sX3_does_0_1_3_f3_f3 sX3_does_0_1_3_f3_f3_b53; (repeat first | rw [spl_d] | rw [spl2_d]); rw [pr_eta]
  exact acP.cons (by decide) (ac_sX3_runs_10_m1_4_f4_f3 x N (acB 36 3 38 3 10 f) L (acB.r (by decide) h (by decide)) (acB.n (by decide) (by decide) hn))
theorem ac_sX3_runs_30_0_3_f3_f3 (x N : Int32) (f : sg_F) (L : sg_L) (h : f 36 3 = 3) (hn : f 36 5 = N) : acP 36 3 38 5 3 5 N (-((x + N) * 2)) [10, 1] f (sX3_runs_30_0_3_f3_f3 x f L) := by
  unfold sX3_runs_30_0_3_f3_f3; (repeat first | rw [spl_d] | rw [spl2_d])
  exact acP.map (ac_sX3_does_0_1_3_f3_f3 x N f L h hn) (fun z => by rw [z])
theorem ac_sX3_does_2_1_2_f2_f3 (x N : Int32) (f : sg_F) (L : sg_L) (h : f 36 3 = 2) (hn : f 36 5 = N) : acP 36 3 38 5 2 5 N (-((x + N) * 2)) [30, 10, 1] f (sX3_does_2_1_2_f2_f3 x f L) := by
  unfold sX3_does_2_1_2_f2_f3 sX3_does_2_1_2_f2_f3_b53; (repeat first | rw [spl_d] | rw [spl2_d]); rw [pr_eta]
  exact acP.cons (by decide) (ac_sX3_runs_30_0_3_f3_f3 x N (acB 36 3 38 2 30 f) L (acB.r (by decide) h (by decide)) (acB.n (by decide) (by decide) hn))
theorem ac_sX3_runs_41_2_2_f2_f3 (x N : Int32) (f : sg_F) (L : sg_L) (h : f 36 3 = 2) (hn : f 36 5 = N) : acP 36 3 38 5 2 5 N (-(((x + 1) + N) * 2)) [30, 10, 1] f (sX3_runs_41_2_2_f2_f3 x f L) := by
  unfold sX3_runs_41_2_2_f2_f3; (repeat first | rw [spl_d] | rw [spl2_d])
  exact acP.map (ac_sX3_does_2_1_2_f2_f3 (x + 1) N f L h hn) (fun z => z)
theorem ac_sX3_does_3_1_1_f1_f3 (x N : Int32) (f : sg_F) (L : sg_L) (h : f 36 3 = 1) (hn : f 36 5 = N) : acP 36 3 38 5 1 5 N (-(((x + 1) + N) * 2)) [41, 30, 10, 1] f (sX3_does_3_1_1_f1_f3 x f L) := by
  unfold sX3_does_3_1_1_f1_f3 sX3_does_3_1_1_f1_f3_b53; (repeat first | rw [spl_d] | rw [spl2_d]); rw [pr_eta]
  exact acP.cons (by decide) (ac_sX3_runs_41_2_2_f2_f3 x N (acB 36 3 38 1 41 f) L (acB.r (by decide) h (by decide)) (acB.n (by decide) (by decide) hn))
theorem ac_sX3_does_2_2_2_f6_f3 (x N : Int32) (f : sg_F) (L : sg_L) (h : f 36 3 = 6) (hn : f 36 5 = N) : acP 36 3 38 5 6 7 N (x ^^^ N) [11] f (sX3_does_2_2_2_f6_f3 x f L) := by
  unfold sX3_does_2_2_2_f6_f3 sX3_does_2_2_2_f6_f3_b53 sX3_runs_11_m1_3_f7_f3; (repeat first | rw [spl_d] | rw [spl2_d])
  exact acP.leaf (by decide) (by decide) (by decide) h (by decide) hn (by show x ^^^ acB 36 3 38 6 11 f 36 5 = (x ^^^ N); rw [acB.n (by decide) (by decide) hn])
theorem ac_sX3_runs_40_2_2_f6_f3 (x N : Int32) (f : sg_F) (L : sg_L) (h : f 36 3 = 6) (hn : f 36 5 = N) : acP 36 3 38 5 6 7 N ((x ^^^ N) * 3) [11] f (sX3_runs_40_2_2_f6_f3 x f L) := by
  unfold sX3_runs_40_2_2_f6_f3; (repeat first | rw [spl_d] | rw [spl2_d])
  exact acP.map (ac_sX3_does_2_2_2_f6_f3 x N f L h hn) (fun z => by rw [z])
theorem ac_sX3_does_3_2_1_f5_f3 (x N : Int32) (f : sg_F) (L : sg_L) (h : f 36 3 = 5) (hn : f 36 5 = N) : acP 36 3 38 5 5 7 N ((x ^^^ N) * 3) [40, 11] f (sX3_does_3_2_1_f5_f3 x f L) := by
  unfold sX3_does_3_2_1_f5_f3 sX3_does_3_2_1_f5_f3_b53; (repeat first | rw [spl_d] | rw [spl2_d]); rw [pr_eta]
  exact acP.cons (by decide) (ac_sX3_runs_40_2_2_f6_f3 x N (acB 36 3 38 5 40 f) L (acB.r (by decide) h (by decide)) (acB.n (by decide) (by decide) hn))
theorem ac_sX3_runs_2_m1_1_f1_f3 (x N : Int32) (f : sg_F) (L : sg_L) (h : f 36 3 = 1) (hn : f 36 5 = N) : acP 36 3 38 5 1 7 N ((-(((x + 1) + N) * 2)) - ((1 ^^^ N) * 3)) [41, 30, 10, 1, 40, 11] f (sX3_runs_2_m1_1_f1_f3 x f L) := by
  unfold sX3_runs_2_m1_1_f1_f3; (repeat first | rw [spl_d] | rw [spl2_d])
  exact acP.two (ac_sX3_does_3_1_1_f1_f3 x N f L h hn) (ac_sX3_does_3_2_1_f5_f3 1 N (sX3_does_3_1_1_f1_f3 x f L).2 L (ac_sX3_does_3_1_1_f1_f3 x N f L h hn).2.1 (ac_sX3_does_3_1_1_f1_f3 x N f L h hn).2.2.1) rfl rfl (fun z1 z2 => by rw [z1, z2])
theorem ac_sX3_does_3_3_0_f0_f3 (x N : Int32) (f : sg_F) (L : sg_L) (h : f 36 3 = 0) (hn : f 36 5 = N) : acP 36 3 38 5 0 7 N ((-(((x + 1) + N) * 2)) - ((1 ^^^ N) * 3)) [2, 41, 30, 10, 1, 40, 11] f (sX3_does_3_3_0_f0_f3 x f L) := by
  unfold sX3_does_3_3_0_f0_f3 sX3_does_3_3_0_f0_f3_b53; (repeat first | rw [spl_d] | rw [spl2_d]); rw [pr_eta]
  exact acP.cons (by decide) (ac_sX3_runs_2_m1_1_f1_f3 x N (acB 36 3 38 0 2 f) L (acB.r (by decide) h (by decide)) (acB.n (by decide) (by decide) hn))
theorem ac_sX3_does_0_0_1_f1_f4 (x N : Int32) (f : sg_F) (L : sg_L) (h : f 36 3 = 1) (hn : f 36 5 = N) : acP 36 3 38 5 1 2 N (x + N) [1] f (sX3_does_0_0_1_f1_f4 x f L) := by
  unfold sX3_does_0_0_1_f1_f4 sX3_does_0_0_1_f1_f4_b53 sX3_runs_1_m1_2_f2_f4; (repeat first | rw [spl_d] | rw [spl2_d])
  exact acP.leaf (by decide) (by decide) (by decide) h (by decide) hn (by show x + acB 36 3 38 1 1 f 36 5 = (x + N); rw [acB.n (by decide) (by decide) hn])
theorem ac_sX3_runs_20_0_1_f1_f4 (x N : Int32) (f : sg_F) (L : sg_L) (h : f 36 3 = 1) (hn : f 36 5 = N) : acP 36 3 38 5 1 2 N ((x + N) + 3) [1] f (sX3_runs_20_0_1_f1_f4 x f L) := by
  unfold sX3_runs_20_0_1_f1_f4; (repeat first | rw [spl_d] | rw [spl2_d])
  exact acP.map (ac_sX3_does_0_0_1_f1_f4 x N f L h hn) (fun z => by rw [z])
theorem ac_sX3_does_4_0_0_f0_f4 (x N : Int32) (f : sg_F) (L : sg_L) (h : f 36 3 = 0) (hn : f 36 5 = N) : acP 36 3 38 5 0 2 N ((x + N) + 3) [20, 1] f (sX3_does_4_0_0_f0_f4 x f L) := by
  unfold sX3_does_4_0_0_f0_f4 sX3_does_4_0_0_f0_f4_b53; (repeat first | rw [spl_d] | rw [spl2_d]); rw [pr_eta]
  exact acP.cons (by decide) (ac_sX3_runs_20_0_1_f1_f4 x N (acB 36 3 38 0 20 f) L (acB.r (by decide) h (by decide)) (acB.n (by decide) (by decide) hn))
theorem ac_sX3_does_0_0_2_f2_f4 (x N : Int32) (f : sg_F) (L : sg_L) (h : f 36 3 = 2) (hn : f 36 5 = N) : acP 36 3 38 5 2 3 N (x + N) [1] f (sX3_does_0_0_2_f2_f4 x f L) := by
  unfold sX3_does_0_0_2_f2_f4 sX3_does_0_0_2_f2_f4_b53 sX3_runs_1_m1_3_f3_f4; (repeat first | rw [spl_d] | rw [spl2_d])
  exact acP.leaf (by decide) (by decide) (by decide) h (by decide) hn (by show x + acB 36 3 38 2 1 f 36 5 = (x + N); rw [acB.n (by decide) (by decide) hn])
theorem ac_sX3_runs_20_0_2_f2_f4 (x N : Int32) (f : sg_F) (L : sg_L) (h : f 36 3 = 2) (hn : f 36 5 = N) : acP 36 3 38 5 2 3 N ((x + N) + 3) [1] f (sX3_runs_20_0_2_f2_f4 x f L) := by
  unfold sX3_runs_20_0_2_f2_f4; (repeat first | rw [spl_d] | rw [spl2_d])
  exact acP.map (ac_sX3_does_0_0_2_f2_f4 x N f L h hn) (fun z => by rw [z])
theorem ac_sX3_does_4_0_1_f1_f4 (x N : Int32) (f : sg_F) (L : sg_L) (h : f 36 3 = 1) (hn : f 36 5 = N) : acP 36 3 38 5 1 3 N ((x + N) + 3) [20, 1] f (sX3_does_4_0_1_f1_f4 x f L) := by
  unfold sX3_does_4_0_1_f1_f4 sX3_does_4_0_1_f1_f4_b53; (repeat first | rw [spl_d] | rw [spl2_d]); rw [pr_eta]
  exact acP.cons (by decide) (ac_sX3_runs_20_0_2_f2_f4 x N (acB 36 3 38 1 20 f) L (acB.r (by decide) h (by decide)) (acB.n (by decide) (by decide) hn))
theorem ac_sX3_runs_10_m1_1_f1_f4 (x N : Int32) (f : sg_F) (L : sg_L) (h : f 36 3 = 1) (hn : f 36 5 = N) : acP 36 3 38 5 1 3 N (((x + N) + 3) * 2) [20, 1] f (sX3_runs_10_m1_1_f1_f4 x f L) := by
  unfold sX3_runs_10_m1_1_f1_f4; (repeat first | rw [spl_d] | rw [spl2_d])
  exact acP.map (ac_sX3_does_4_0_1_f1_f4 x N f L h hn) (fun z => by rw [z])
theorem ac_sX3_does_4_1_0_f0_f4 (x N : Int32) (f : sg_F) (L : sg_L) (h : f 36 3 = 0) (hn : f 36 5 = N) : acP 36 3 38 5 0 3 N (((x + N) + 3) * 2) [10, 20, 1] f (sX3_does_4_1_0_f0_f4 x f L) := by
  unfold sX3_does_4_1_0_f0_f4 sX3_does_4_1_0_f0_f4_b53; (repeat first | rw [spl_d] | rw [spl2_d]); rw [pr_eta]
  exact acP.cons (by decide) (ac_sX3_runs_10_m1_1_f1_f4 x N (acB 36 3 38 0 10 f) L (acB.r (by decide) h (by decide)) (acB.n (by decide) (by decide) hn))
theorem ac_sX3_does_1_2_1_f1_f4 (x N : Int32) (f : sg_F) (L : sg_L) (h : f 36 3 = 1) (hn : f 36 5 = N) : acP 36 3 38 5 1 2 N (x ^^^ N) [11] f (sX3_does_1_2_1_f1_f4 x f L) := by
  unfold sX3_does_1_2_1_f1_f4 sX3_does_1_2_1_f1_f4_b53 sX3_runs_11_m1_2_f2_f4; (repeat first | rw [spl_d] | rw [spl2_d])
  exact acP.leaf (by decide) (by decide) (by decide) h (by decide) hn (by show x ^^^ acB 36 3 38 1 11 f 36 5 = (x ^^^ N); rw [acB.n (by decide) (by decide) hn])
theorem ac_sX3_does_0_0_2_f3_f4 (x N : Int32) (f : sg_F) (L : sg_L) (h : f 36 3 = 3) (hn : f 36 5 = N) : acP 36 3 38 5 3 4 N (x + N) [1] f (sX3_does_0_0_2_f3_f4 x f L) := by
  unfold sX3_does_0_0_2_f3_f4 sX3_does_0_0_2_f3_f4_b53 sX3_runs_1_m1_3_f4_f4; (repeat first | rw [spl_d] | rw [spl2_d])
  exact acP.leaf (by decide) (by decide) (by decide) h (by decide) hn (by show x + acB 36 3 38 3 1 f 36 5 = (x + N); rw [acB.n (by decide) (by decide) hn])
theorem ac_sX3_runs_20_0_2_f3_f4 (x N : Int32) (f : sg_F) (L : sg_L) (h : f 36 3 = 3) (hn : f 36 5 = N) : acP 36 3 38 5 3 4 N ((x + N) + 3) [1] f (sX3_runs_20_0_2_f3_f4 x f L) := by
  unfold sX3_runs_20_0_2_f3_f4; (repeat first | rw [spl_d] | rw [spl2_d])
  exact acP.map (ac_sX3_does_0_0_2_f3_f4 x N f L h hn) (fun z => by rw [z])
theorem ac_sX3_does_4_0_1_f2_f4 (x N : Int32) (f : sg_F) (L : sg_L) (h : f 36 3 = 2) (hn : f 36 5 = N) : acP 36 3 38 5 2 4 N ((x + N) + 3) [20, 1] f (sX3_does_4_0_1_f2_f4 x f L) := by
  unfold sX3_does_4_0_1_f2_f4 sX3_does_4_0_1_f2_f4_b53; (repeat first | rw [spl_d] | rw [spl2_d]); rw [pr_eta]
  exact acP.cons (by decide) (ac_sX3_runs_20_0_2_f3_f4 x N (acB 36 3 38 2 20 f) L (acB.r (by decide) h (by decide)) (acB.n (by decide) (by decide) hn))
theorem ac_sX3_runs_50_1_1_f1_f4 (x N : Int32) (f : sg_F) (L : sg_L) (h : f 36 3 = 1) (hn : f 36 5 = N) : acP 36 3 38 5 1 4 N ((x ^^^ N) - ((2 + N) + 3)) [11, 20, 1] f (sX3_runs_50_1_1_f1_f4 x f L) := by
  unfold sX3_runs_50_1_1_f1_f4; (repeat first | rw [spl_d] | rw [spl2_d])
  exact acP.two (ac_sX3_does_1_2_1_f1_f4 x N f L h hn) (ac_sX3_does_4_0_1_f2_f4 2 N (sX3_does_1_2_1_f1_f4 x f L).2 L (ac_sX3_does_1_2_1_f1_f4 x N f L h hn).2.1 (ac_sX3_does_1_2_1_f1_f4 x N f L h hn).2.2.1) rfl rfl (fun z1 z2 => by rw [z1, z2])
theorem ac_sX3_does_4_2_0_f0_f4 (x N : Int32) (f : sg_F) (L : sg_L) (h : f 36 3 = 0) (hn : f 36 5 = N) : acP 36 3 38 5 0 4 N ((x ^^^ N) - ((2 + N) + 3)) [50, 11, 20, 1] f (sX3_does_4_2_0_f0_f4 x f L) := by
  unfold sX3_does_4_2_0_f0_f4 sX3_does_4_2_0_f0_f4_b53; (repeat first | rw [spl_d] | rw [spl2_d]); rw [pr_eta]
  exact acP.cons (by decide) (ac_sX3_runs_50_1_1_f1_f4 x N (acB 36 3 38 0 50 f) L (acB.r (by decide) h (by decide)) (acB.n (by decide) (by decide) hn))
theorem ac_sX3_does_0_0_3_f3_f4 (x N : Int32) (f : sg_F) (L : sg_L) (h : f 36 3 = 3) (hn : f 36 5 = N) : acP 36 3 38 5 3 4 N (x + N) [1] f (sX3_does_0_0_3_f3_f4 x f L) := by
  unfold sX3_does_0_0_3_f3_f4 sX3_does_0_0_3_f3_f4_b53 sX3_runs_1_m1_4_f4_f4; (repeat first | rw [spl_d] | rw [spl2_d])
  exact acP.leaf (by decide) (by decide) (by decide) h (by decide) hn (by show x + acB 36 3 38 3 1 f 36 5 = (x + N); rw [acB.n (by decide) (by decide) hn])
theorem ac_sX3_runs_20_0_3_f3_f4 (x N : Int32) (f : sg_F) (L : sg_L) (h : f 36 3 = 3) (hn : f 36 5 = N) : acP 36 3 38 5 3 4 N ((x + N) + 3) [1] f (sX3_runs_20_0_3_f3_f4 x f L) := by
  unfold sX3_runs_20_0_3_f3_f4; (repeat first | rw [spl_d] | rw [spl2_d])
  exact acP.map (ac_sX3_does_0_0_3_f3_f4 x N f L h hn) (fun z => by rw [z])
theorem ac_sX3_does_4_0_2_f2_f4 (x N : Int32) (f : sg_F) (L : sg_L) (h : f 36 3 = 2) (hn : f 36 5 = N) : acP 36 3 38 5 2 4 N ((x + N) + 3) [20, 1] f (sX3_does_4_0_2_f2_f4 x f L) := by
  unfold sX3_does_4_0_2_f2_f4 sX3_does_4_0_2_f2_f4_b53; (repeat first | rw [spl_d] | rw [spl2_d]); rw [pr_eta]
  exact acP.cons (by decide) (ac_sX3_runs_20_0_3_f3_f4 x N (acB 36 3 38 2 20 f) L (acB.r (by decide) h (by decide)) (acB.n (by decide) (by decide) hn))
theorem ac_sX3_runs_10_m1_2_f2_f4 (x N : Int32) (f : sg_F) (L : sg_L) (h : f 36 3 = 2) (hn : f 36 5 = N) : acP 36 3 38 5 2 4 N (((x + N) + 3) * 2) [20, 1] f (sX3_runs_10_m1_2_f2_f4 x f L) := by
  unfold sX3_runs_10_m1_2_f2_f4; (repeat first | rw [spl_d] | rw [spl2_d])
  exact acP.map (ac_sX3_does_4_0_2_f2_f4 x N f L h hn) (fun z => by rw [z])
theorem ac_sX3_does_4_1_1_f1_f4 (x N : Int32) (f : sg_F) (L : sg_L) (h : f 36 3 = 1) (hn : f 36 5 = N) : acP 36 3 38 5 1 4 N (((x + N) + 3) * 2) [10, 20, 1] f (sX3_does_4_1_1_f1_f4 x f L) := by
  unfold sX3_does_4_1_1_f1_f4 sX3_does_4_1_1_f1_f4_b53; (repeat first | rw [spl_d] | rw [spl2_d]); rw [pr_eta]
  exact acP.cons (by decide) (ac_sX3_runs_10_m1_2_f2_f4 x N (acB 36 3 38 1 10 f) L (acB.r (by decide) h (by decide)) (acB.n (by decide) (by decide) hn))
theorem ac_sX3_does_1_2_2_f5_f4 (x N : Int32) (f : sg_F) (L : sg_L) (h : f 36 3 = 5) (hn : f 36 5 = N) : acP 36 3 38 5 5 6 N (x ^^^ N) [11] f (sX3_does_1_2_2_f5_f4 x f L) := by
  unfold sX3_does_1_2_2_f5_f4 sX3_does_1_2_2_f5_f4_b53 sX3_runs_11_m1_3_f6_f4; (repeat first | rw [spl_d] | rw [spl2_d])
  exact acP.leaf (by decide) (by decide) (by decide) h (by decide) hn (by show x ^^^ acB 36 3 38 5 11 f 36 5 = (x ^^^ N); rw [acB.n (by decide) (by decide) hn])
theorem ac_sX3_does_0_0_3_f7_f4 (x N : Int32) (f : sg_F) (L : sg_L) (h : f 36 3 = 7) (hn : f 36 5 = N) : acP 36 3 38 5 7 8 N (x + N) [1] f (sX3_does_0_0_3_f7_f4 x f L) := by
  unfold sX3_does_0_0_3_f7_f4 sX3_does_0_0_3_f7_f4_b53 sX3_runs_1_m1_4_f8_f4; (repeat first | rw [spl_d] | rw [spl2_d])
  exact acP.leaf (by decide) (by decide) (by decide) h (by decide) hn (by show x + acB 36 3 38 7 1 f 36 5 = (x + N); rw [acB.n (by decide) (by decide) hn])
theorem ac_sX3_runs_20_0_3_f7_f4 (x N : Int32) (f : sg_F) (L : sg_L) (h : f 36 3 = 7) (hn : f 36 5 = N) : acP 36 3 38 5 7 8 N ((x + N) + 3) [1] f (sX3_runs_20_0_3_f7_f4 x f L) := by
  unfold sX3_runs_20_0_3_f7_f4; (repeat first | rw [spl_d] | rw [spl2_d])
  exact acP.map (ac_sX3_does_0_0_3_f7_f4 x N f L h hn) (fun z => by rw [z])
theorem ac_sX3_does_4_0_2_f6_f4 (x N : Int32) (f : sg_F) (L : sg_L) (h : f 36 3 = 6) (hn : f 36 5 = N) : acP 36 3 38 5 6 8 N ((x + N) + 3) [20, 1] f (sX3_does_4_0_2_f6_f4 x f L) := by
  unfold sX3_does_4_0_2_f6_f4 sX3_does_4_0_2_f6_f4_b53; (repeat first | rw [spl_d] | rw [spl2_d]); rw [pr_eta]
  exact acP.cons (by decide) (ac_sX3_runs_20_0_3_f7_f4 x N (acB 36 3 38 6 20 f) L (acB.r (by decide) h (by decide)) (acB.n (by decide) (by decide) hn))
theorem ac_sX3_runs_50_1_2_f5_f4 (x N : Int32) (f : sg_F) (L : sg_L) (h : f 36 3 = 5) (hn : f 36 5 = N) : acP 36 3 38 5 5 8 N ((x ^^^ N) - ((2 + N) + 3)) [11, 20, 1] f (sX3_runs_50_1_2_f5_f4 x f L) := by
  unfold sX3_runs_50_1_2_f5_f4; (repeat first | rw [spl_d] | rw [spl2_d])
  exact acP.two (ac_sX3_does_1_2_2_f5_f4 x N f L h hn) (ac_sX3_does_4_0_2_f6_f4 2 N (sX3_does_1_2_2_f5_f4 x f L).2 L (ac_sX3_does_1_2_2_f5_f4 x N f L h hn).2.1 (ac_sX3_does_1_2_2_f5_f4 x N f L h hn).2.2.1) rfl rfl (fun z1 z2 => by rw [z1, z2])
theorem ac_sX3_does_4_2_1_f4_f4 (x N : Int32) (f : sg_F) (L : sg_L) (h : f 36 3 = 4) (hn : f 36 5 = N) : acP 36 3 38 5 4 8 N ((x ^^^ N) - ((2 + N) + 3)) [50, 11, 20, 1] f (sX3_does_4_2_1_f4_f4 x f L) := by
  unfold sX3_does_4_2_1_f4_f4 sX3_does_4_2_1_f4_f4_b53; (repeat first | rw [spl_d] | rw [spl2_d]); rw [pr_eta]
  exact acP.cons (by decide) (ac_sX3_runs_50_1_2_f5_f4 x N (acB 36 3 38 4 50 f) L (acB.r (by decide) h (by decide)) (acB.n (by decide) (by decide) hn))
theorem ac_sX3_runs_2_m1_1_f1_f4 (x N : Int32) (f : sg_F) (L : sg_L) (h : f 36 3 = 1) (hn : f 36 5 = N) : acP 36 3 38 5 1 8 N ((((x + N) + 3) * 2) - ((1 ^^^ N) - ((2 + N) + 3))) [10, 20, 1, 50, 11, 20, 1] f (sX3_runs_2_m1_1_f1_f4 x f L) := by
  unfold sX3_runs_2_m1_1_f1_f4; (repeat first | rw [spl_d] | rw [spl2_d])
  exact acP.two (ac_sX3_does_4_1_1_f1_f4 x N f L h hn) (ac_sX3_does_4_2_1_f4_f4 1 N (sX3_does_4_1_1_f1_f4 x f L).2 L (ac_sX3_does_4_1_1_f1_f4 x N f L h hn).2.1 (ac_sX3_does_4_1_1_f1_f4 x N f L h hn).2.2.1) rfl rfl (fun z1 z2 => by rw [z1, z2])
theorem ac_sX3_does_4_3_0_f0_f4 (x N : Int32) (f : sg_F) (L : sg_L) (h : f 36 3 = 0) (hn : f 36 5 = N) : acP 36 3 38 5 0 8 N ((((x + N) + 3) * 2) - ((1 ^^^ N) - ((2 + N) + 3))) [2, 10, 20, 1, 50, 11, 20, 1] f (sX3_does_4_3_0_f0_f4 x f L) := by
  unfold sX3_does_4_3_0_f0_f4 sX3_does_4_3_0_f0_f4_b53; (repeat first | rw [spl_d] | rw [spl2_d]); rw [pr_eta]
  exact acP.cons (by decide) (ac_sX3_runs_2_m1_1_f1_f4 x N (acB 36 3 38 0 2 f) L (acB.r (by decide) h (by decide)) (acB.n (by decide) (by decide) hn))
theorem ac_sX3_does_5_0_0_f0_f5 (x N : Int32) (f : sg_F) (L : sg_L) (h : f 36 3 = 0) (hn : f 36 5 = N) : acP 36 3 38 5 0 1 N (x + N) [1] f (sX3_does_5_0_0_f0_f5 x f L) := by
  unfold sX3_does_5_0_0_f0_f5 sX3_does_5_0_0_f0_f5_b53 sX3_runs_1_m1_1_f1_f5; (repeat first | rw [spl_d] | rw [spl2_d])
  exact acP.leaf (by decide) (by decide) (by decide) h (by decide) hn (by show x + acB 36 3 38 0 1 f 36 5 = (x + N); rw [acB.n (by decide) (by decide) hn])
theorem ac_sX3_does_5_0_3_f3_f5 (x N : Int32) (f : sg_F) (L : sg_L) (h : f 36 3 = 3) (hn : f 36 5 = N) : acP 36 3 38 5 3 4 N (x + N) [1] f (sX3_does_5_0_3_f3_f5 x f L) := by
  unfold sX3_does_5_0_3_f3_f5 sX3_does_5_0_3_f3_f5_b53 sX3_runs_1_m1_4_f4_f5; (repeat first | rw [spl_d] | rw [spl2_d])
  exact acP.leaf (by decide) (by decide) (by decide) h (by decide) hn (by show x + acB 36 3 38 3 1 f 36 5 = (x + N); rw [acB.n (by decide) (by decide) hn])
theorem ac_sX3_runs_10_m1_3_f3_f5 (x N : Int32) (f : sg_F) (L : sg_L) (h : f 36 3 = 3) (hn : f 36 5 = N) : acP 36 3 38 5 3 4 N ((x + N) * 2) [1] f (sX3_runs_10_m1_3_f3_f5 x f L) := by
  unfold sX3_runs_10_m1_3_f3_f5; (repeat first | rw [spl_d] | rw [spl2_d])
  exact acP.map (ac_sX3_does_5_0_3_f3_f5 x N f L h hn) (fun z => by rw [z])
theorem ac_sX3_does_0_1_2_f2_f5 (x N : Int32) (f : sg_F) (L : sg_L) (h : f 36 3 = 2) (hn : f 36 5 = N) : acP 36 3 38 5 2 4 N ((x + N) * 2) [10, 1] f (sX3_does_0_1_2_f2_f5 x f L) := by
  unfold sX3_does_0_1_2_f2_f5 sX3_does_0_1_2_f2_f5_b53; (repeat first | rw [spl_d] | rw [spl2_d]); rw [pr_eta]
  exact acP.cons (by decide) (ac_sX3_runs_10_m1_3_f3_f5 x N (acB 36 3 38 2 10 f) L (acB.r (by decide) h (by decide)) (acB.n (by decide) (by decide) hn))
theorem ac_sX3_runs_30_0_2_f2_f5 (x N : Int32) (f : sg_F) (L : sg_L) (h : f 36 3 = 2) (hn : f 36 5 = N) : acP 36 3 38 5 2 4 N (-((x + N) * 2)) [10, 1] f (sX3_runs_30_0_2_f2_f5 x f L) := by
  unfold sX3_runs_30_0_2_f2_f5; (repeat first | rw [spl_d] | rw [spl2_d])
  exact acP.map (ac_sX3_does_0_1_2_f2_f5 x N f L h hn) (fun z => by rw [z])
theorem ac_sX3_does_2_1_1_f1_f5 (x N : Int32) (f : sg_F) (L : sg_L) (h : f 36 3 = 1) (hn : f 36 5 = N) : acP 36 3 38 5 1 4 N (-((x + N) * 2)) [30, 10, 1] f (sX3_does_2_1_1_f1_f5 x f L) := by
  unfold sX3_does_2_1_1_f1_f5 sX3_does_2_1_1_f1_f5_b53; (repeat first | rw [spl_d] | rw [spl2_d]); rw [pr_eta]
  exact acP.cons (by decide) (ac_sX3_runs_30_0_2_f2_f5 x N (acB 36 3 38 1 30 f) L (acB.r (by decide) h (by decide)) (acB.n (by decide) (by decide) hn))
theorem ac_sX3_runs_41_2_1_f1_f5 (x N : Int32) (f : sg_F) (L : sg_L) (h : f 36 3 = 1) (hn : f 36 5 = N) : acP 36 3 38 5 1 4 N (-(((x + 1) + N) * 2)) [30, 10, 1] f (sX3_runs_41_2_1_f1_f5 x f L) := by
  unfold sX3_runs_41_2_1_f1_f5; (repeat first | rw [spl_d] | rw [spl2_d])
  exact acP.map (ac_sX3_does_2_1_1_f1_f5 (x + 1) N f L h hn) (fun z => z)
theorem ac_sX3_does_5_1_0_f0_f5 (x N : Int32) (f : sg_F) (L : sg_L) (h : f 36 3 = 0) (hn : f 36 5 = N) : acP 36 3 38 5 0 4 N (-(((x + 1) + N) * 2)) [41, 30, 10, 1] f (sX3_does_5_1_0_f0_f5 x f L) := by
  unfold sX3_does_5_1_0_f0_f5 sX3_does_5_1_0_f0_f5_b53; (repeat first | rw [spl_d] | rw [spl2_d]); rw [pr_eta]
  exact acP.cons (by decide) (ac_sX3_runs_41_2_1_f1_f5 x N (acB 36 3 38 0 41 f) L (acB.r (by decide) h (by decide)) (acB.n (by decide) (by decide) hn))
theorem ac_sX3_does_2_2_1_f1_f5 (x N : Int32) (f : sg_F) (L : sg_L) (h : f 36 3 = 1) (hn : f 36 5 = N) : acP 36 3 38 5 1 2 N (x ^^^ N) [11] f (sX3_does_2_2_1_f1_f5 x f L) := by
  unfold sX3_does_2_2_1_f1_f5 sX3_does_2_2_1_f1_f5_b53 sX3_runs_11_m1_2_f2_f5; (repeat first | rw [spl_d] | rw [spl2_d])
  exact acP.leaf (by decide) (by decide) (by decide) h (by decide) hn (by show x ^^^ acB 36 3 38 1 11 f 36 5 = (x ^^^ N); rw [acB.n (by decide) (by decide) hn])
theorem ac_sX3_runs_40_2_1_f1_f5 (x N : Int32) (f : sg_F) (L : sg_L) (h : f 36 3 = 1) (hn : f 36 5 = N) : acP 36 3 38 5 1 2 N ((x ^^^ N) * 3) [11] f (sX3_runs_40_2_1_f1_f5 x f L) := by
  unfold sX3_runs_40_2_1_f1_f5; (repeat first | rw [spl_d] | rw [spl2_d])
  exact acP.map (ac_sX3_does_2_2_1_f1_f5 x N f L h hn) (fun z => by rw [z])
theorem ac_sX3_does_5_2_0_f0_f5 (x N : Int32) (f : sg_F) (L : sg_L) (h : f 36 3 = 0) (hn : f 36 5 = N) : acP 36 3 38 5 0 2 N ((x ^^^ N) * 3) [40, 11] f (sX3_does_5_2_0_f0_f5 x f L) := by
  unfold sX3_does_5_2_0_f0_f5 sX3_does_5_2_0_f0_f5_b53; (repeat first | rw [spl_d] | rw [spl2_d]); rw [pr_eta]
  exact acP.cons (by decide) (ac_sX3_runs_40_2_1_f1_f5 x N (acB 36 3 38 0 40 f) L (acB.r (by decide) h (by decide)) (acB.n (by decide) (by decide) hn))
theorem ac_sX3_does_5_0_5_f5_f5 (x N : Int32) (f : sg_F) (L : sg_L) (h : f 36 3 = 5) (hn : f 36 5 = N) : acP 36 3 38 5 5 6 N (x + N) [1] f (sX3_does_5_0_5_f5_f5 x f L) := by
  unfold sX3_does_5_0_5_f5_f5 sX3_does_5_0_5_f5_f5_b53 sX3_runs_1_m1_6_f6_f5; (repeat first | rw [spl_d] | rw [spl2_d])
  exact acP.leaf (by decide) (by decide) (by decide) h (by decide) hn (by show x + acB 36 3 38 5 1 f 36 5 = (x + N); rw [acB.n (by decide) (by decide) hn])
theorem ac_sX3_runs_10_m1_5_f5_f5 (x N : Int32) (f : sg_F) (L : sg_L) (h : f 36 3 = 5) (hn : f 36 5 = N) : acP 36 3 38 5 5 6 N ((x + N) * 2) [1] f (sX3_runs_10_m1_5_f5_f5 x f L) := by
  unfold sX3_runs_10_m1_5_f5_f5; (repeat first | rw [spl_d] | rw [spl2_d])
  exact acP.map (ac_sX3_does_5_0_5_f5_f5 x N f L h hn) (fun z => by rw [z])
theorem ac_sX3_does_0_1_4_f4_f5 (x N : Int32) (f : sg_F) (L : sg_L) (h : f 36 3 = 4) (hn : f 36 5 = N) : acP 36 3 38 5 4 6 N ((x + N) * 2) [10, 1] f (sX3_does_0_1_4_f4_f5 x f L) := by
  unfold sX3_does_0_1_4_f4_f5 sX3_does_0_1_4_f4_f5_b53; (repeat first | rw [spl_d] | rw [spl2_d]); rw [pr_eta]
  exact acP.cons (by decide) (ac_sX3_runs_10_m1_5_f5_f5 x N (acB 36 3 38 4 10 f) L (acB.r (by decide) h (by decide)) (acB.n (by decide) (by decide) hn))
theorem ac_sX3_runs_30_0_4_f4_f5 (x N : Int32) (f : sg_F) (L : sg_L) (h : f 36 3 = 4) (hn : f 36 5 = N) : acP 36 3 38 5 4 6 N (-((x + N) * 2)) [10, 1] f (sX3_runs_30_0_4_f4_f5 x f L) := by
  unfold sX3_runs_30_0_4_f4_f5; (repeat first | rw [spl_d] | rw [spl2_d])
  exact acP.map (ac_sX3_does_0_1_4_f4_f5 x N f L h hn) (fun z => by rw [z])
theorem ac_sX3_does_2_1_3_f3_f5 (x N : Int32) (f : sg_F) (L : sg_L) (h : f 36 3 = 3) (hn : f 36 5 = N) : acP 36 3 38 5 3 6 N (-((x + N) * 2)) [30, 10, 1] f (sX3_does_2_1_3_f3_f5 x f L) := by
  unfold sX3_does_2_1_3_f3_f5 sX3_does_2_1_3_f3_f5_b53; (repeat first | rw [spl_d] | rw [spl2_d]); rw [pr_eta]
  exact acP.cons (by decide) (ac_sX3_runs_30_0_4_f4_f5 x N (acB 36 3 38 3 30 f) L (acB.r (by decide) h (by decide)) (acB.n (by decide) (by decide) hn))
theorem ac_sX3_runs_41_2_3_f3_f5 (x N : Int32) (f : sg_F) (L : sg_L) (h : f 36 3 = 3) (hn : f 36 5 = N) : acP 36 3 38 5 3 6 N (-(((x + 1) + N) * 2)) [30, 10, 1] f (sX3_runs_41_2_3_f3_f5 x f L) := by
  unfold sX3_runs_41_2_3_f3_f5; (repeat first | rw [spl_d] | rw [spl2_d])
  exact acP.map (ac_sX3_does_2_1_3_f3_f5 (x + 1) N f L h hn) (fun z => z)
theorem ac_sX3_does_5_1_2_f2_f5 (x N : Int32) (f : sg_F) (L : sg_L) (h : f 36 3 = 2) (hn : f 36 5 = N) : acP 36 3 38 5 2 6 N (-(((x + 1) + N) * 2)) [41, 30, 10, 1] f (sX3_does_5_1_2_f2_f5 x f L) := by
  unfold sX3_does_5_1_2_f2_f5 sX3_does_5_1_2_f2_f5_b53; (repeat first | rw [spl_d] | rw [spl2_d]); rw [pr_eta]
  exact acP.cons (by decide) (ac_sX3_runs_41_2_3_f3_f5 x N (acB 36 3 38 2 41 f) L (acB.r (by decide) h (by decide)) (acB.n (by decide) (by decide) hn))
theorem ac_sX3_does_2_2_3_f7_f5 (x N : Int32) (f : sg_F) (L : sg_L) (h : f 36 3 = 7) (hn : f 36 5 = N) : acP 36 3 38 5 7 8 N (x ^^^ N) [11] f (sX3_does_2_2_3_f7_f5 x f L) := by
  unfold sX3_does_2_2_3_f7_f5 sX3_does_2_2_3_f7_f5_b53 sX3_runs_11_m1_4_f8_f5; (repeat first | rw [spl_d] | rw [spl2_d])
  exact acP.leaf (by decide) (by decide) (by decide) h (by decide) hn (by show x ^^^ acB 36 3 38 7 11 f 36 5 = (x ^^^ N); rw [acB.n (by decide) (by decide) hn])
theorem ac_sX3_runs_40_2_3_f7_f5 (x N : Int32) (f : sg_F) (L : sg_L) (h : f 36 3 = 7) (hn : f 36 5 = N) : acP 36 3 38 5 7 8 N ((x ^^^ N) * 3) [11] f (sX3_runs_40_2_3_f7_f5 x f L) := by
  unfold sX3_runs_40_2_3_f7_f5; (repeat first | rw [spl_d] | rw [spl2_d])
  exact acP.map (ac_sX3_does_2_2_3_f7_f5 x N f L h hn) (fun z => by rw [z])
theorem ac_sX3_does_5_2_2_f6_f5 (x N : Int32) (f : sg_F) (L : sg_L) (h : f 36 3 = 6) (hn : f 36 5 = N) : acP 36 3 38 5 6 8 N ((x ^^^ N) * 3) [40, 11] f (sX3_does_5_2_2_f6_f5 x f L) := by
  unfold sX3_does_5_2_2_f6_f5 sX3_does_5_2_2_f6_f5_b53; (repeat first | rw [spl_d] | rw [spl2_d]); rw [pr_eta]
  exact acP.cons (by decide) (ac_sX3_runs_40_2_3_f7_f5 x N (acB 36 3 38 6 40 f) L (acB.r (by decide) h (by decide)) (acB.n (by decide) (by decide) hn))
theorem ac_sX3_runs_2_m1_2_f2_f5 (x N : Int32) (f : sg_F) (L : sg_L) (h : f 36 3 = 2) (hn : f 36 5 = N) : acP 36 3 38 5 2 8 N ((-(((x + 1) + N) * 2)) - ((1 ^^^ N) * 3)) [41, 30, 10, 1, 40, 11] f (sX3_runs_2_m1_2_f2_f5 x f L) := by
  unfold sX3_runs_2_m1_2_f2_f5; (repeat first | rw [spl_d] | rw [spl2_d])
  exact acP.two (ac_sX3_does_5_1_2_f2_f5 x N f L h hn) (ac_sX3_does_5_2_2_f6_f5 1 N (sX3_does_5_1_2_f2_f5 x f L).2 L (ac_sX3_does_5_1_2_f2_f5 x N f L h hn).2.1 (ac_sX3_does_5_1_2_f2_f5 x N f L h hn).2.2.1) rfl rfl (fun z1 z2 => by rw [z1, z2])
theorem ac_sX3_does_3_3_1_f1_f5 (x N : Int32) (f : sg_F) (L : sg_L) (h : f 36 3 = 1) (hn : f 36 5 = N) : acP 36 3 38 5 1 8 N ((-(((x + 1) + N) * 2)) - ((1 ^^^ N) * 3)) [2, 41, 30, 10, 1, 40, 11] f (sX3_does_3_3_1_f1_f5 x f L) := by
  unfold sX3_does_3_3_1_f1_f5 sX3_does_3_3_1_f1_f5_b53; (repeat first | rw [spl_d] | rw [spl2_d]); rw [pr_eta]
  exact acP.cons (by decide) (ac_sX3_runs_2_m1_2_f2_f5 x N (acB 36 3 38 1 2 f) L (acB.r (by decide) h (by decide)) (acB.n (by decide) (by decide) hn))
theorem ac_sX3_runs_60_3_1_f1_f5 (x N : Int32) (f : sg_F) (L : sg_L) (h : f 36 3 = 1) (hn : f 36 5 = N) : acP 36 3 38 5 1 8 N (((-(((x + 1) + N) * 2)) - ((1 ^^^ N) * 3)) ^^^ 5) [2, 41, 30, 10, 1, 40, 11] f (sX3_runs_60_3_1_f1_f5 x f L) := by
  unfold sX3_runs_60_3_1_f1_f5; (repeat first | rw [spl_d] | rw [spl2_d])
  exact acP.map (ac_sX3_does_3_3_1_f1_f5 x N f L h hn) (fun z => by rw [z])
theorem ac_sX3_does_5_3_0_f0_f5 (x N : Int32) (f : sg_F) (L : sg_L) (h : f 36 3 = 0) (hn : f 36 5 = N) : acP 36 3 38 5 0 8 N (((-(((x + 1) + N) * 2)) - ((1 ^^^ N) * 3)) ^^^ 5) [60, 2, 41, 30, 10, 1, 40, 11] f (sX3_does_5_3_0_f0_f5 x f L) := by
  unfold sX3_does_5_3_0_f0_f5 sX3_does_5_3_0_f0_f5_b53; (repeat first | rw [spl_d] | rw [spl2_d]); rw [pr_eta]
  exact acP.cons (by decide) (ac_sX3_runs_60_3_1_f1_f5 x N (acB 36 3 38 0 60 f) L (acB.r (by decide) h (by decide)) (acB.n (by decide) (by decide) hn))
theorem ac_sX3_does_0_0_1_f1_f6 (x N : Int32) (f : sg_F) (L : sg_L) (h : f 36 3 = 1) (hn : f 36 5 = N) : acP 36 3 38 5 1 2 N (x + N) [1] f (sX3_does_0_0_1_f1_f6 x f L) := by
  unfold sX3_does_0_0_1_f1_f6 sX3_does_0_0_1_f1_f6_b53 sX3_runs_1_m1_2_f2_f6; (repeat first | rw [spl_d] | rw [spl2_d])
  exact acP.leaf (by decide) (by decide) (by decide) h (by decide) hn (by show x + acB 36 3 38 1 1 f 36 5 = (x + N); rw [acB.n (by decide) (by decide) hn])
theorem ac_sX3_runs_70_0_1_f1_f6 (x N : Int32) (f : sg_F) (L : sg_L) (h : f 36 3 = 1) (hn : f 36 5 = N) : acP 36 3 38 5 1 2 N ((x + N) * 2) [1] f (sX3_runs_70_0_1_f1_f6 x f L) := by
  unfold sX3_runs_70_0_1_f1_f6; (repeat first | rw [spl_d] | rw [spl2_d])
  exact acP.map (ac_sX3_does_0_0_1_f1_f6 x N f L h hn) (fun z => by rw [z])
theorem ac_sX3_does_6_0_0_f0_f6 (x N : Int32) (f : sg_F) (L : sg_L) (h : f 36 3 = 0) (hn : f 36 5 = N) : acP 36 3 38 5 0 2 N ((x + N) * 2) [70, 1] f (sX3_does_6_0_0_f0_f6 x f L) := by
  unfold sX3_does_6_0_0_f0_f6 sX3_does_6_0_0_f0_f6_b53; (repeat first | rw [spl_d] | rw [spl2_d]); rw [pr_eta]
  exact acP.cons (by decide) (ac_sX3_runs_70_0_1_f1_f6 x N (acB 36 3 38 0 70 f) L (acB.r (by decide) h (by decide)) (acB.n (by decide) (by decide) hn))
theorem ac_sX3_does_0_0_2_f2_f6 (x N : Int32) (f : sg_F) (L : sg_L) (h : f 36 3 = 2) (hn : f 36 5 = N) : acP 36 3 38 5 2 3 N (x + N) [1] f (sX3_does_0_0_2_f2_f6 x f L) := by
  unfold sX3_does_0_0_2_f2_f6 sX3_does_0_0_2_f2_f6_b53 sX3_runs_1_m1_3_f3_f6; (repeat first | rw [spl_d] | rw [spl2_d])
  exact acP.leaf (by decide) (by decide) (by decide) h (by decide) hn (by show x + acB 36 3 38 2 1 f 36 5 = (x + N); rw [acB.n (by decide) (by decide) hn])
theorem ac_sX3_runs_70_0_2_f2_f6 (x N : Int32) (f : sg_F) (L : sg_L) (h : f 36 3 = 2) (hn : f 36 5 = N) : acP 36 3 38 5 2 3 N ((x + N) * 2) [1] f (sX3_runs_70_0_2_f2_f6 x f L) := by
  unfold sX3_runs_70_0_2_f2_f6; (repeat first | rw [spl_d] | rw [spl2_d])
  exact acP.map (ac_sX3_does_0_0_2_f2_f6 x N f L h hn) (fun z => by rw [z])
theorem ac_sX3_does_6_0_1_f1_f6 (x N : Int32) (f : sg_F) (L : sg_L) (h : f 36 3 = 1) (hn : f 36 5 = N) : acP 36 3 38 5 1 3 N ((x + N) * 2) [70, 1] f (sX3_does_6_0_1_f1_f6 x f L) := by
  unfold sX3_does_6_0_1_f1_f6 sX3_does_6_0_1_f1_f6_b53; (repeat first | rw [spl_d] | rw [spl2_d]); rw [pr_eta]
  exact acP.cons (by decide) (ac_sX3_runs_70_0_2_f2_f6 x N (acB 36 3 38 1 70 f) L (acB.r (by decide) h (by decide)) (acB.n (by decide) (by decide) hn))
theorem ac_sX3_runs_10_m1_1_f1_f6 (x N : Int32) (f : sg_F) (L : sg_L) (h : f 36 3 = 1) (hn : f 36 5 = N) : acP 36 3 38 5 1 3 N (((x + N) * 2) * 2) [70, 1] f (sX3_runs_10_m1_1_f1_f6 x f L) := by
  unfold sX3_runs_10_m1_1_f1_f6; (repeat first | rw [spl_d] | rw [spl2_d])
  exact acP.map (ac_sX3_does_6_0_1_f1_f6 x N f L h hn) (fun z => by rw [z])
theorem ac_sX3_does_6_1_0_f0_f6 (x N : Int32) (f : sg_F) (L : sg_L) (h : f 36 3 = 0) (hn : f 36 5 = N) : acP 36 3 38 5 0 3 N (((x + N) * 2) * 2) [10, 70, 1] f (sX3_does_6_1_0_f0_f6 x f L) := by
  unfold sX3_does_6_1_0_f0_f6 sX3_does_6_1_0_f0_f6_b53; (repeat first | rw [spl_d] | rw [spl2_d]); rw [pr_eta]
  exact acP.cons (by decide) (ac_sX3_runs_10_m1_1_f1_f6 x N (acB 36 3 38 0 10 f) L (acB.r (by decide) h (by decide)) (acB.n (by decide) (by decide) hn))
theorem ac_sX3_does_6_2_0_f0_f6 (x N : Int32) (f : sg_F) (L : sg_L) (h : f 36 3 = 0) (hn : f 36 5 = N) : acP 36 3 38 5 0 1 N (x ^^^ N) [11] f (sX3_does_6_2_0_f0_f6 x f L) := by
  unfold sX3_does_6_2_0_f0_f6 sX3_does_6_2_0_f0_f6_b53 sX3_runs_11_m1_1_f1_f6; (repeat first | rw [spl_d] | rw [spl2_d])
  exact acP.leaf (by decide) (by decide) (by decide) h (by decide) hn (by show x ^^^ acB 36 3 38 0 11 f 36 5 = (x ^^^ N); rw [acB.n (by decide) (by decide) hn])
theorem ac_sX3_does_0_0_3_f3_f6 (x N : Int32) (f : sg_F) (L : sg_L) (h : f 36 3 = 3) (hn : f 36 5 = N) : acP 36 3 38 5 3 4 N (x + N) [1] f (sX3_does_0_0_3_f3_f6 x f L) := by
  unfold sX3_does_0_0_3_f3_f6 sX3_does_0_0_3_f3_f6_b53 sX3_runs_1_m1_4_f4_f6; (repeat first | rw [spl_d] | rw [spl2_d])
  exact acP.leaf (by decide) (by decide) (by decide) h (by decide) hn (by show x + acB 36 3 38 3 1 f 36 5 = (x + N); rw [acB.n (by decide) (by decide) hn])
theorem ac_sX3_runs_70_0_3_f3_f6 (x N : Int32) (f : sg_F) (L : sg_L) (h : f 36 3 = 3) (hn : f 36 5 = N) : acP 36 3 38 5 3 4 N ((x + N) * 2) [1] f (sX3_runs_70_0_3_f3_f6 x f L) := by
  unfold sX3_runs_70_0_3_f3_f6; (repeat first | rw [spl_d] | rw [spl2_d])
  exact acP.map (ac_sX3_does_0_0_3_f3_f6 x N f L h hn) (fun z => by rw [z])
theorem ac_sX3_does_6_0_2_f2_f6 (x N : Int32) (f : sg_F) (L : sg_L) (h : f 36 3 = 2) (hn : f 36 5 = N) : acP 36 3 38 5 2 4 N ((x + N) * 2) [70, 1] f (sX3_does_6_0_2_f2_f6 x f L) := by
  unfold sX3_does_6_0_2_f2_f6 sX3_does_6_0_2_f2_f6_b53; (repeat first | rw [spl_d] | rw [spl2_d]); rw [pr_eta]
  exact acP.cons (by decide) (ac_sX3_runs_70_0_3_f3_f6 x N (acB 36 3 38 2 70 f) L (acB.r (by decide) h (by decide)) (acB.n (by decide) (by decide) hn))
theorem ac_sX3_runs_10_m1_2_f2_f6 (x N : Int32) (f : sg_F) (L : sg_L) (h : f 36 3 = 2) (hn : f 36 5 = N) : acP 36 3 38 5 2 4 N (((x + N) * 2) * 2) [70, 1] f (sX3_runs_10_m1_2_f2_f6 x f L) := by
  unfold sX3_runs_10_m1_2_f2_f6; (repeat first | rw [spl_d] | rw [spl2_d])
  exact acP.map (ac_sX3_does_6_0_2_f2_f6 x N f L h hn) (fun z => by rw [z])
theorem ac_sX3_does_6_1_1_f1_f6 (x N : Int32) (f : sg_F) (L : sg_L) (h : f 36 3 = 1) (hn : f 36 5 = N) : acP 36 3 38 5 1 4 N (((x + N) * 2) * 2) [10, 70, 1] f (sX3_does_6_1_1_f1_f6 x f L) := by
  unfold sX3_does_6_1_1_f1_f6 sX3_does_6_1_1_f1_f6_b53; (repeat first | rw [spl_d] | rw [spl2_d]); rw [pr_eta]
  exact acP.cons (by decide) (ac_sX3_runs_10_m1_2_f2_f6 x N (acB 36 3 38 1 10 f) L (acB.r (by decide) h (by decide)) (acB.n (by decide) (by decide) hn))
theorem ac_sX3_does_6_2_1_f4_f6 (x N : Int32) (f : sg_F) (L : sg_L) (h : f 36 3 = 4) (hn : f 36 5 = N) : acP 36 3 38 5 4 5 N (x ^^^ N) [11] f (sX3_does_6_2_1_f4_f6 x f L) := by
  unfold sX3_does_6_2_1_f4_f6 sX3_does_6_2_1_f4_f6_b53 sX3_runs_11_m1_2_f5_f6; (repeat first | rw [spl_d] | rw [spl2_d])
  exact acP.leaf (by decide) (by decide) (by decide) h (by decide) hn (by show x ^^^ acB 36 3 38 4 11 f 36 5 = (x ^^^ N); rw [acB.n (by decide) (by decide) hn])
theorem ac_sX3_runs_2_m1_1_f1_f6 (x N : Int32) (f : sg_F) (L : sg_L) (h : f 36 3 = 1) (hn : f 36 5 = N) : acP 36 3 38 5 1 5 N ((((x + N) * 2) * 2) - (1 ^^^ N)) [10, 70, 1, 11] f (sX3_runs_2_m1_1_f1_f6 x f L) := by
  unfold sX3_runs_2_m1_1_f1_f6; (repeat first | rw [spl_d] | rw [spl2_d])
  exact acP.two (ac_sX3_does_6_1_1_f1_f6 x N f L h hn) (ac_sX3_does_6_2_1_f4_f6 1 N (sX3_does_6_1_1_f1_f6 x f L).2 L (ac_sX3_does_6_1_1_f1_f6 x N f L h hn).2.1 (ac_sX3_does_6_1_1_f1_f6 x N f L h hn).2.2.1) rfl rfl (fun z1 z2 => by rw [z1, z2])
theorem ac_sX3_does_6_3_0_f0_f6 (x N : Int32) (f : sg_F) (L : sg_L) (h : f 36 3 = 0) (hn : f 36 5 = N) : acP 36 3 38 5 0 5 N ((((x + N) * 2) * 2) - (1 ^^^ N)) [2, 10, 70, 1, 11] f (sX3_does_6_3_0_f0_f6 x f L) := by
  unfold sX3_does_6_3_0_f0_f6 sX3_does_6_3_0_f0_f6_b53; (repeat first | rw [spl_d] | rw [spl2_d]); rw [pr_eta]
  exact acP.cons (by decide) (ac_sX3_runs_2_m1_1_f1_f6 x N (acB 36 3 38 0 2 f) L (acB.r (by decide) h (by decide)) (acB.n (by decide) (by decide) hn))
theorem ac_sX3_does_0_0_1_f1_f7 (x N : Int32) (f : sg_F) (L : sg_L) (h : f 36 3 = 1) (hn : f 36 5 = N) : acP 36 3 38 5 1 2 N (x + N) [1] f (sX3_does_0_0_1_f1_f7 x f L) := by
  unfold sX3_does_0_0_1_f1_f7 sX3_does_0_0_1_f1_f7_b53 sX3_runs_1_m1_2_f2_f7; (repeat first | rw [spl_d] | rw [spl2_d])
  exact acP.leaf (by decide) (by decide) (by decide) h (by decide) hn (by show x + acB 36 3 38 1 1 f 36 5 = (x + N); rw [acB.n (by decide) (by decide) hn])
theorem ac_sX3_runs_20_0_1_f1_f7 (x N : Int32) (f : sg_F) (L : sg_L) (h : f 36 3 = 1) (hn : f 36 5 = N) : acP 36 3 38 5 1 2 N ((x + N) + 3) [1] f (sX3_runs_20_0_1_f1_f7 x f L) := by
  unfold sX3_runs_20_0_1_f1_f7; (repeat first | rw [spl_d] | rw [spl2_d])
  exact acP.map (ac_sX3_does_0_0_1_f1_f7 x N f L h hn) (fun z => by rw [z])
theorem ac_sX3_does_7_0_0_f0_f7 (x N : Int32) (f : sg_F) (L : sg_L) (h : f 36 3 = 0) (hn : f 36 5 = N) : acP 36 3 38 5 0 2 N ((x + N) + 3) [20, 1] f (sX3_does_7_0_0_f0_f7 x f L) := by
  unfold sX3_does_7_0_0_f0_f7 sX3_does_7_0_0_f0_f7_b53; (repeat first | rw [spl_d] | rw [spl2_d]); rw [pr_eta]
  exact acP.cons (by decide) (ac_sX3_runs_20_0_1_f1_f7 x N (acB 36 3 38 0 20 f) L (acB.r (by decide) h (by decide)) (acB.n (by decide) (by decide) hn))
theorem ac_sX3_does_0_0_3_f3_f7 (x N : Int32) (f : sg_F) (L : sg_L) (h : f 36 3 = 3) (hn : f 36 5 = N) : acP 36 3 38 5 3 4 N (x + N) [1] f (sX3_does_0_0_3_f3_f7 x f L) := by
  unfold sX3_does_0_0_3_f3_f7 sX3_does_0_0_3_f3_f7_b53 sX3_runs_1_m1_4_f4_f7; (repeat first | rw [spl_d] | rw [spl2_d])
  exact acP.leaf (by decide) (by decide) (by decide) h (by decide) hn (by show x + acB 36 3 38 3 1 f 36 5 = (x + N); rw [acB.n (by decide) (by decide) hn])
theorem ac_sX3_runs_20_0_3_f3_f7 (x N : Int32) (f : sg_F) (L : sg_L) (h : f 36 3 = 3) (hn : f 36 5 = N) : acP 36 3 38 5 3 4 N ((x + N) + 3) [1] f (sX3_runs_20_0_3_f3_f7 x f L) := by
  unfold sX3_runs_20_0_3_f3_f7; (repeat first | rw [spl_d] | rw [spl2_d])
  exact acP.map (ac_sX3_does_0_0_3_f3_f7 x N f L h hn) (fun z => by rw [z])
theorem ac_sX3_does_7_0_2_f2_f7 (x N : Int32) (f : sg_F) (L : sg_L) (h : f 36 3 = 2) (hn : f 36 5 = N) : acP 36 3 38 5 2 4 N ((x + N) + 3) [20, 1] f (sX3_does_7_0_2_f2_f7 x f L) := by
  unfold sX3_does_7_0_2_f2_f7 sX3_does_7_0_2_f2_f7_b53; (repeat first | rw [spl_d] | rw [spl2_d]); rw [pr_eta]
  exact acP.cons (by decide) (ac_sX3_runs_20_0_3_f3_f7 x N (acB 36 3 38 2 20 f) L (acB.r (by decide) h (by decide)) (acB.n (by decide) (by decide) hn))
theorem ac_sX3_runs_10_m1_2_f2_f7 (x N : Int32) (f : sg_F) (L : sg_L) (h : f 36 3 = 2) (hn : f 36 5 = N) : acP 36 3 38 5 2 4 N (((x + N) + 3) * 2) [20, 1] f (sX3_runs_10_m1_2_f2_f7 x f L) := by
  unfold sX3_runs_10_m1_2_f2_f7; (repeat first | rw [spl_d] | rw [spl2_d])
  exact acP.map (ac_sX3_does_7_0_2_f2_f7 x N f L h hn) (fun z => by rw [z])
theorem ac_sX3_does_4_1_1_f1_f7 (x N : Int32) (f : sg_F) (L : sg_L) (h : f 36 3 = 1) (hn : f 36 5 = N) : acP 36 3 38 5 1 4 N (((x + N) + 3) * 2) [10, 20, 1] f (sX3_does_4_1_1_f1_f7 x f L) := by
  unfold sX3_does_4_1_1_f1_f7 sX3_does_4_1_1_f1_f7_b53; (repeat first | rw [spl_d] | rw [spl2_d]); rw [pr_eta]
  exact acP.cons (by decide) (ac_sX3_runs_10_m1_2_f2_f7 x N (acB 36 3 38 1 10 f) L (acB.r (by decide) h (by decide)) (acB.n (by decide) (by decide) hn))
theorem ac_sX3_does_1_2_2_f5_f7 (x N : Int32) (f : sg_F) (L : sg_L) (h : f 36 3 = 5) (hn : f 36 5 = N) : acP 36 3 38 5 5 6 N (x ^^^ N) [11] f (sX3_does_1_2_2_f5_f7 x f L) := by
  unfold sX3_does_1_2_2_f5_f7 sX3_does_1_2_2_f5_f7_b53 sX3_runs_11_m1_3_f6_f7; (repeat first | rw [spl_d] | rw [spl2_d])
  exact acP.leaf (by decide) (by decide) (by decide) h (by decide) hn (by show x ^^^ acB 36 3 38 5 11 f 36 5 = (x ^^^ N); rw [acB.n (by decide) (by decide) hn])
theorem ac_sX3_does_0_0_3_f7_f7 (x N : Int32) (f : sg_F) (L : sg_L) (h : f 36 3 = 7) (hn : f 36 5 = N) : acP 36 3 38 5 7 8 N (x + N) [1] f (sX3_does_0_0_3_f7_f7 x f L) := by
  unfold sX3_does_0_0_3_f7_f7 sX3_does_0_0_3_f7_f7_b53 sX3_runs_1_m1_4_f8_f7; (repeat first | rw [spl_d] | rw [spl2_d])
  exact acP.leaf (by decide) (by decide) (by decide) h (by decide) hn (by show x + acB 36 3 38 7 1 f 36 5 = (x + N); rw [acB.n (by decide) (by decide) hn])
theorem ac_sX3_runs_20_0_3_f7_f7 (x N : Int32) (f : sg_F) (L : sg_L) (h : f 36 3 = 7) (hn : f 36 5 = N) : acP 36 3 38 5 7 8 N ((x + N) + 3) [1] f (sX3_runs_20_0_3_f7_f7 x f L) := by
  unfold sX3_runs_20_0_3_f7_f7; (repeat first | rw [spl_d] | rw [spl2_d])
  exact acP.map (ac_sX3_does_0_0_3_f7_f7 x N f L h hn) (fun z => by rw [z])
theorem ac_sX3_does_7_0_2_f6_f7 (x N : Int32) (f : sg_F) (L : sg_L) (h : f 36 3 = 6) (hn : f 36 5 = N) : acP 36 3 38 5 6 8 N ((x + N) + 3) [20, 1] f (sX3_does_7_0_2_f6_f7 x f L) := by
  unfold sX3_does_7_0_2_f6_f7 sX3_does_7_0_2_f6_f7_b53; (repeat first | rw [spl_d] | rw [spl2_d]); rw [pr_eta]
  exact acP.cons (by decide) (ac_sX3_runs_20_0_3_f7_f7 x N (acB 36 3 38 6 20 f) L (acB.r (by decide) h (by decide)) (acB.n (by decide) (by decide) hn))
theorem ac_sX3_runs_50_1_2_f5_f7 (x N : Int32) (f : sg_F) (L : sg_L) (h : f 36 3 = 5) (hn : f 36 5 = N) : acP 36 3 38 5 5 8 N ((x ^^^ N) - ((2 + N) + 3)) [11, 20, 1] f (sX3_runs_50_1_2_f5_f7 x f L) := by
  unfold sX3_runs_50_1_2_f5_f7; (repeat first | rw [spl_d] | rw [spl2_d])
  exact acP.two (ac_sX3_does_1_2_2_f5_f7 x N f L h hn) (ac_sX3_does_7_0_2_f6_f7 2 N (sX3_does_1_2_2_f5_f7 x f L).2 L (ac_sX3_does_1_2_2_f5_f7 x N f L h hn).2.1 (ac_sX3_does_1_2_2_f5_f7 x N f L h hn).2.2.1) rfl rfl (fun z1 z2 => by rw [z1, z2])
theorem ac_sX3_does_7_2_1_f4_f7 (x N : Int32) (f : sg_F) (L : sg_L) (h : f 36 3 = 4) (hn : f 36 5 = N) : acP 36 3 38 5 4 8 N ((x ^^^ N) - ((2 + N) + 3)) [50, 11, 20, 1] f (sX3_does_7_2_1_f4_f7 x f L) := by
  unfold sX3_does_7_2_1_f4_f7 sX3_does_7_2_1_f4_f7_b53; (repeat first | rw [spl_d] | rw [spl2_d]); rw [pr_eta]
  exact acP.cons (by decide) (ac_sX3_runs_50_1_2_f5_f7 x N (acB 36 3 38 4 50 f) L (acB.r (by decide) h (by decide)) (acB.n (by decide) (by decide) hn))
theorem ac_sX3_runs_80_4_1_f1_f7 (x N : Int32) (f : sg_F) (L : sg_L) (h : f 36 3 = 1) (hn : f 36 5 = N) : acP 36 3 38 5 1 8 N ((((x + N) + 3) * 2) + ((2 ^^^ N) - ((2 + N) + 3))) [10, 20, 1, 50, 11, 20, 1] f (sX3_runs_80_4_1_f1_f7 x f L) := by
  unfold sX3_runs_80_4_1_f1_f7; (repeat first | rw [spl_d] | rw [spl2_d])
  exact acP.two (ac_sX3_does_4_1_1_f1_f7 x N f L h hn) (ac_sX3_does_7_2_1_f4_f7 2 N (sX3_does_4_1_1_f1_f7 x f L).2 L (ac_sX3_does_4_1_1_f1_f7 x N f L h hn).2.1 (ac_sX3_does_4_1_1_f1_f7 x N f L h hn).2.2.1) rfl rfl (fun z1 z2 => by rw [z1, z2])
theorem ac_sX3_does_7_1_0_f0_f7 (x N : Int32) (f : sg_F) (L : sg_L) (h : f 36 3 = 0) (hn : f 36 5 = N) : acP 36 3 38 5 0 8 N ((((x + N) + 3) * 2) + ((2 ^^^ N) - ((2 + N) + 3))) [80, 10, 20, 1, 50, 11, 20, 1] f (sX3_does_7_1_0_f0_f7 x f L) := by
  unfold sX3_does_7_1_0_f0_f7 sX3_does_7_1_0_f0_f7_b53; (repeat first | rw [spl_d] | rw [spl2_d]); rw [pr_eta]
  exact acP.cons (by decide) (ac_sX3_runs_80_4_1_f1_f7 x N (acB 36 3 38 0 80 f) L (acB.r (by decide) h (by decide)) (acB.n (by decide) (by decide) hn))
theorem ac_sX3_does_1_2_1_f1_f7 (x N : Int32) (f : sg_F) (L : sg_L) (h : f 36 3 = 1) (hn : f 36 5 = N) : acP 36 3 38 5 1 2 N (x ^^^ N) [11] f (sX3_does_1_2_1_f1_f7 x f L) := by
  unfold sX3_does_1_2_1_f1_f7 sX3_does_1_2_1_f1_f7_b53 sX3_runs_11_m1_2_f2_f7; (repeat first | rw [spl_d] | rw [spl2_d])
  exact acP.leaf (by decide) (by decide) (by decide) h (by decide) hn (by show x ^^^ acB 36 3 38 1 11 f 36 5 = (x ^^^ N); rw [acB.n (by decide) (by decide) hn])
theorem ac_sX3_does_0_0_2_f3_f7 (x N : Int32) (f : sg_F) (L : sg_L) (h : f 36 3 = 3) (hn : f 36 5 = N) : acP 36 3 38 5 3 4 N (x + N) [1] f (sX3_does_0_0_2_f3_f7 x f L) := by
  unfold sX3_does_0_0_2_f3_f7 sX3_does_0_0_2_f3_f7_b53 sX3_runs_1_m1_3_f4_f7; (repeat first | rw [spl_d] | rw [spl2_d])
  exact acP.leaf (by decide) (by decide) (by decide) h (by decide) hn (by show x + acB 36 3 38 3 1 f 36 5 = (x + N); rw [acB.n (by decide) (by decide) hn])
theorem ac_sX3_runs_20_0_2_f3_f7 (x N : Int32) (f : sg_F) (L : sg_L) (h : f 36 3 = 3) (hn : f 36 5 = N) : acP 36 3 38 5 3 4 N ((x + N) + 3) [1] f (sX3_runs_20_0_2_f3_f7 x f L) := by
  unfold sX3_runs_20_0_2_f3_f7; (repeat first | rw [spl_d] | rw [spl2_d])
  exact acP.map (ac_sX3_does_0_0_2_f3_f7 x N f L h hn) (fun z => by rw [z])
theorem ac_sX3_does_7_0_1_f2_f7 (x N : Int32) (f : sg_F) (L : sg_L) (h : f 36 3 = 2) (hn : f 36 5 = N) : acP 36 3 38 5 2 4 N ((x + N) + 3) [20, 1] f (sX3_does_7_0_1_f2_f7 x f L) := by
  unfold sX3_does_7_0_1_f2_f7 sX3_does_7_0_1_f2_f7_b53; (repeat first | rw [spl_d] | rw [spl2_d]); rw [pr_eta]
  exact acP.cons (by decide) (ac_sX3_runs_20_0_2_f3_f7 x N (acB 36 3 38 2 20 f) L (acB.r (by decide) h (by decide)) (acB.n (by decide) (by decide) hn))
theorem ac_sX3_runs_50_1_1_f1_f7 (x N : Int32) (f : sg_F) (L : sg_L) (h : f 36 3 = 1) (hn : f 36 5 = N) : acP 36 3 38 5 1 4 N ((x ^^^ N) - ((2 + N) + 3)) [11, 20, 1] f (sX3_runs_50_1_1_f1_f7 x f L) := by
  unfold sX3_runs_50_1_1_f1_f7; (repeat first | rw [spl_d] | rw [spl2_d])
  exact acP.two (ac_sX3_does_1_2_1_f1_f7 x N f L h hn) (ac_sX3_does_7_0_1_f2_f7 2 N (sX3_does_1_2_1_f1_f7 x f L).2 L (ac_sX3_does_1_2_1_f1_f7 x N f L h hn).2.1 (ac_sX3_does_1_2_1_f1_f7 x N f L h hn).2.2.1) rfl rfl (fun z1 z2 => by rw [z1, z2])
theorem ac_sX3_does_7_2_0_f0_f7 (x N : Int32) (f : sg_F) (L : sg_L) (h : f 36 3 = 0) (hn : f 36 5 = N) : acP 36 3 38 5 0 4 N ((x ^^^ N) - ((2 + N) + 3)) [50, 11, 20, 1] f (sX3_does_7_2_0_f0_f7 x f L) := by
  unfold sX3_does_7_2_0_f0_f7 sX3_does_7_2_0_f0_f7_b53; (repeat first | rw [spl_d] | rw [spl2_d]); rw [pr_eta]
  exact acP.cons (by decide) (ac_sX3_runs_50_1_1_f1_f7 x N (acB 36 3 38 0 50 f) L (acB.r (by decide) h (by decide)) (acB.n (by decide) (by decide) hn))
theorem ac_sX3_does_0_0_5_f5_f7 (x N : Int32) (f : sg_F) (L : sg_L) (h : f 36 3 = 5) (hn : f 36 5 = N) : acP 36 3 38 5 5 6 N (x + N) [1] f (sX3_does_0_0_5_f5_f7 x f L) := by
  unfold sX3_does_0_0_5_f5_f7 sX3_does_0_0_5_f5_f7_b53 sX3_runs_1_m1_6_f6_f7; (repeat first | rw [spl_d] | rw [spl2_d])
  exact acP.leaf (by decide) (by decide) (by decide) h (by decide) hn (by show x + acB 36 3 38 5 1 f 36 5 = (x + N); rw [acB.n (by decide) (by decide) hn])
theorem ac_sX3_runs_20_0_5_f5_f7 (x N : Int32) (f : sg_F) (L : sg_L) (h : f 36 3 = 5) (hn : f 36 5 = N) : acP 36 3 38 5 5 6 N ((x + N) + 3) [1] f (sX3_runs_20_0_5_f5_f7 x f L) := by
  unfold sX3_runs_20_0_5_f5_f7; (repeat first | rw [spl_d] | rw [spl2_d])
  exact acP.map (ac_sX3_does_0_0_5_f5_f7 x N f L h hn) (fun z => by rw [z])
theorem ac_sX3_does_7_0_4_f4_f7 (x N : Int32) (f : sg_F) (L : sg_L) (h : f 36 3 = 4) (hn : f 36 5 = N) : acP 36 3 38 5 4 6 N ((x + N) + 3) [20, 1] f (sX3_does_7_0_4_f4_f7 x f L) := by
  unfold sX3_does_7_0_4_f4_f7 sX3_does_7_0_4_f4_f7_b53; (repeat first | rw [spl_d] | rw [spl2_d]); rw [pr_eta]
  exact acP.cons (by decide) (ac_sX3_runs_20_0_5_f5_f7 x N (acB 36 3 38 4 20 f) L (acB.r (by decide) h (by decide)) (acB.n (by decide) (by decide) hn))
theorem ac_sX3_runs_10_m1_4_f4_f7 (x N : Int32) (f : sg_F) (L : sg_L) (h : f 36 3 = 4) (hn : f 36 5 = N) : acP 36 3 38 5 4 6 N (((x + N) + 3) * 2) [20, 1] f (sX3_runs_10_m1_4_f4_f7 x f L) := by
  unfold sX3_runs_10_m1_4_f4_f7; (repeat first | rw [spl_d] | rw [spl2_d])
  exact acP.map (ac_sX3_does_7_0_4_f4_f7 x N f L h hn) (fun z => by rw [z])
theorem ac_sX3_does_4_1_3_f3_f7 (x N : Int32) (f : sg_F) (L : sg_L) (h : f 36 3 = 3) (hn : f 36 5 = N) : acP 36 3 38 5 3 6 N (((x + N) + 3) * 2) [10, 20, 1] f (sX3_does_4_1_3_f3_f7 x f L) := by
  unfold sX3_does_4_1_3_f3_f7 sX3_does_4_1_3_f3_f7_b53; (repeat first | rw [spl_d] | rw [spl2_d]); rw [pr_eta]
  exact acP.cons (by decide) (ac_sX3_runs_10_m1_4_f4_f7 x N (acB 36 3 38 3 10 f) L (acB.r (by decide) h (by decide)) (acB.n (by decide) (by decide) hn))
theorem ac_sX3_does_1_2_4_f7_f7 (x N : Int32) (f : sg_F) (L : sg_L) (h : f 36 3 = 7) (hn : f 36 5 = N) : acP 36 3 38 5 7 8 N (x ^^^ N) [11] f (sX3_does_1_2_4_f7_f7 x f L) := by
  unfold sX3_does_1_2_4_f7_f7 sX3_does_1_2_4_f7_f7_b53 sX3_runs_11_m1_5_f8_f7; (repeat first | rw [spl_d] | rw [spl2_d])
  exact acP.leaf (by decide) (by decide) (by decide) h (by decide) hn (by show x ^^^ acB 36 3 38 7 11 f 36 5 = (x ^^^ N); rw [acB.n (by decide) (by decide) hn])
theorem ac_sX3_does_0_0_5_f9_f7 (x N : Int32) (f : sg_F) (L : sg_L) (h : f 36 3 = 9) (hn : f 36 5 = N) : acP 36 3 38 5 9 10 N (x + N) [1] f (sX3_does_0_0_5_f9_f7 x f L) := by
  unfold sX3_does_0_0_5_f9_f7 sX3_does_0_0_5_f9_f7_b53 sX3_runs_1_m1_6_f10_f7; (repeat first | rw [spl_d] | rw [spl2_d])
  exact acP.leaf (by decide) (by decide) (by decide) h (by decide) hn (by show x + acB 36 3 38 9 1 f 36 5 = (x + N); rw [acB.n (by decide) (by decide) hn])
theorem ac_sX3_runs_20_0_5_f9_f7 (x N : Int32) (f : sg_F) (L : sg_L) (h : f 36 3 = 9) (hn : f 36 5 = N) : acP 36 3 38 5 9 10 N ((x + N) + 3) [1] f (sX3_runs_20_0_5_f9_f7 x f L) := by
  unfold sX3_runs_20_0_5_f9_f7; (repeat first | rw [spl_d] | rw [spl2_d])
  exact acP.map (ac_sX3_does_0_0_5_f9_f7 x N f L h hn) (fun z => by rw [z])
theorem ac_sX3_does_7_0_4_f8_f7 (x N : Int32) (f : sg_F) (L : sg_L) (h : f 36 3 = 8) (hn : f 36 5 = N) : acP 36 3 38 5 8 10 N ((x + N) + 3) [20, 1] f (sX3_does_7_0_4_f8_f7 x f L) := by
  unfold sX3_does_7_0_4_f8_f7 sX3_does_7_0_4_f8_f7_b53; (repeat first | rw [spl_d] | rw [spl2_d]); rw [pr_eta]
  exact acP.cons (by decide) (ac_sX3_runs_20_0_5_f9_f7 x N (acB 36 3 38 8 20 f) L (acB.r (by decide) h (by decide)) (acB.n (by decide) (by decide) hn))
theorem ac_sX3_runs_50_1_4_f7_f7 (x N : Int32) (f : sg_F) (L : sg_L) (h : f 36 3 = 7) (hn : f 36 5 = N) : acP 36 3 38 5 7 10 N ((x ^^^ N) - ((2 + N) + 3)) [11, 20, 1] f (sX3_runs_50_1_4_f7_f7 x f L) := by
  unfold sX3_runs_50_1_4_f7_f7; (repeat first | rw [spl_d] | rw [spl2_d])
  exact acP.two (ac_sX3_does_1_2_4_f7_f7 x N f L h hn) (ac_sX3_does_7_0_4_f8_f7 2 N (sX3_does_1_2_4_f7_f7 x f L).2 L (ac_sX3_does_1_2_4_f7_f7 x N f L h hn).2.1 (ac_sX3_does_1_2_4_f7_f7 x N f L h hn).2.2.1) rfl rfl (fun z1 z2 => by rw [z1, z2])
theorem ac_sX3_does_7_2_3_f6_f7 (x N : Int32) (f : sg_F) (L : sg_L) (h : f 36 3 = 6) (hn : f 36 5 = N) : acP 36 3 38 5 6 10 N ((x ^^^ N) - ((2 + N) + 3)) [50, 11, 20, 1] f (sX3_does_7_2_3_f6_f7 x f L) := by
  unfold sX3_does_7_2_3_f6_f7 sX3_does_7_2_3_f6_f7_b53; (repeat first | rw [spl_d] | rw [spl2_d]); rw [pr_eta]
  exact acP.cons (by decide) (ac_sX3_runs_50_1_4_f7_f7 x N (acB 36 3 38 6 50 f) L (acB.r (by decide) h (by decide)) (acB.n (by decide) (by decide) hn))
theorem ac_sX3_runs_80_4_3_f3_f7 (x N : Int32) (f : sg_F) (L : sg_L) (h : f 36 3 = 3) (hn : f 36 5 = N) : acP 36 3 38 5 3 10 N ((((x + N) + 3) * 2) + ((2 ^^^ N) - ((2 + N) + 3))) [10, 20, 1, 50, 11, 20, 1] f (sX3_runs_80_4_3_f3_f7 x f L) := by
  unfold sX3_runs_80_4_3_f3_f7; (repeat first | rw [spl_d] | rw [spl2_d])
  exact acP.two (ac_sX3_does_4_1_3_f3_f7 x N f L h hn) (ac_sX3_does_7_2_3_f6_f7 2 N (sX3_does_4_1_3_f3_f7 x f L).2 L (ac_sX3_does_4_1_3_f3_f7 x N f L h hn).2.1 (ac_sX3_does_4_1_3_f3_f7 x N f L h hn).2.2.1) rfl rfl (fun z1 z2 => by rw [z1, z2])
theorem ac_sX3_does_7_1_2_f2_f7 (x N : Int32) (f : sg_F) (L : sg_L) (h : f 36 3 = 2) (hn : f 36 5 = N) : acP 36 3 38 5 2 10 N ((((x + N) + 3) * 2) + ((2 ^^^ N) - ((2 + N) + 3))) [80, 10, 20, 1, 50, 11, 20, 1] f (sX3_does_7_1_2_f2_f7 x f L) := by
  unfold sX3_does_7_1_2_f2_f7 sX3_does_7_1_2_f2_f7_b53; (repeat first | rw [spl_d] | rw [spl2_d]); rw [pr_eta]
  exact acP.cons (by decide) (ac_sX3_runs_80_4_3_f3_f7 x N (acB 36 3 38 2 80 f) L (acB.r (by decide) h (by decide)) (acB.n (by decide) (by decide) hn))
theorem ac_sX3_does_1_2_3_f11_f7 (x N : Int32) (f : sg_F) (L : sg_L) (h : f 36 3 = 11) (hn : f 36 5 = N) : acP 36 3 38 5 11 12 N (x ^^^ N) [11] f (sX3_does_1_2_3_f11_f7 x f L) := by
  unfold sX3_does_1_2_3_f11_f7 sX3_does_1_2_3_f11_f7_b53 sX3_runs_11_m1_4_f12_f7; (repeat first | rw [spl_d] | rw [spl2_d])
  exact acP.leaf (by decide) (by decide) (by decide) h (by decide) hn (by show x ^^^ acB 36 3 38 11 11 f 36 5 = (x ^^^ N); rw [acB.n (by decide) (by decide) hn])
theorem ac_sX3_does_0_0_4_f13_f7 (x N : Int32) (f : sg_F) (L : sg_L) (h : f 36 3 = 13) (hn : f 36 5 = N) : acP 36 3 38 5 13 14 N (x + N) [1] f (sX3_does_0_0_4_f13_f7 x f L) := by
  unfold sX3_does_0_0_4_f13_f7 sX3_does_0_0_4_f13_f7_b53 sX3_runs_1_m1_5_f14_f7; (repeat first | rw [spl_d] | rw [spl2_d])
  exact acP.leaf (by decide) (by decide) (by decide) h (by decide) hn (by show x + acB 36 3 38 13 1 f 36 5 = (x + N); rw [acB.n (by decide) (by decide) hn])
theorem ac_sX3_runs_20_0_4_f13_f7 (x N : Int32) (f : sg_F) (L : sg_L) (h : f 36 3 = 13) (hn : f 36 5 = N) : acP 36 3 38 5 13 14 N ((x + N) + 3) [1] f (sX3_runs_20_0_4_f13_f7 x f L) := by
  unfold sX3_runs_20_0_4_f13_f7; (repeat first | rw [spl_d] | rw [spl2_d])
  exact acP.map (ac_sX3_does_0_0_4_f13_f7 x N f L h hn) (fun z => by rw [z])
theorem ac_sX3_does_7_0_3_f12_f7 (x N : Int32) (f : sg_F) (L : sg_L) (h : f 36 3 = 12) (hn : f 36 5 = N) : acP 36 3 38 5 12 14 N ((x + N) + 3) [20, 1] f (sX3_does_7_0_3_f12_f7 x f L) := by
  unfold sX3_does_7_0_3_f12_f7 sX3_does_7_0_3_f12_f7_b53; (repeat first | rw [spl_d] | rw [spl2_d]); rw [pr_eta]
  exact acP.cons (by decide) (ac_sX3_runs_20_0_4_f13_f7 x N (acB 36 3 38 12 20 f) L (acB.r (by decide) h (by decide)) (acB.n (by decide) (by decide) hn))
theorem ac_sX3_runs_50_1_3_f11_f7 (x N : Int32) (f : sg_F) (L : sg_L) (h : f 36 3 = 11) (hn : f 36 5 = N) : acP 36 3 38 5 11 14 N ((x ^^^ N) - ((2 + N) + 3)) [11, 20, 1] f (sX3_runs_50_1_3_f11_f7 x f L) := by
  unfold sX3_runs_50_1_3_f11_f7; (repeat first | rw [spl_d] | rw [spl2_d])
  exact acP.two (ac_sX3_does_1_2_3_f11_f7 x N f L h hn) (ac_sX3_does_7_0_3_f12_f7 2 N (sX3_does_1_2_3_f11_f7 x f L).2 L (ac_sX3_does_1_2_3_f11_f7 x N f L h hn).2.1 (ac_sX3_does_1_2_3_f11_f7 x N f L h hn).2.2.1) rfl rfl (fun z1 z2 => by rw [z1, z2])
theorem ac_sX3_does_7_2_2_f10_f7 (x N : Int32) (f : sg_F) (L : sg_L) (h : f 36 3 = 10) (hn : f 36 5 = N) : acP 36 3 38 5 10 14 N ((x ^^^ N) - ((2 + N) + 3)) [50, 11, 20, 1] f (sX3_does_7_2_2_f10_f7 x f L) := by
  unfold sX3_does_7_2_2_f10_f7 sX3_does_7_2_2_f10_f7_b53; (repeat first | rw [spl_d] | rw [spl2_d]); rw [pr_eta]
  exact acP.cons (by decide) (ac_sX3_runs_50_1_3_f11_f7 x N (acB 36 3 38 10 50 f) L (acB.r (by decide) h (by decide)) (acB.n (by decide) (by decide) hn))
theorem ac_sX3_runs_2_m1_2_f2_f7 (x N : Int32) (f : sg_F) (L : sg_L) (h : f 36 3 = 2) (hn : f 36 5 = N) : acP 36 3 38 5 2 14 N (((((x + N) + 3) * 2) + ((2 ^^^ N) - ((2 + N) + 3))) - ((1 ^^^ N) - ((2 + N) + 3))) [80, 10, 20, 1, 50, 11, 20, 1, 50, 11, 20, 1] f (sX3_runs_2_m1_2_f2_f7 x f L) := by
  unfold sX3_runs_2_m1_2_f2_f7; (repeat first | rw [spl_d] | rw [spl2_d])
  exact acP.two (ac_sX3_does_7_1_2_f2_f7 x N f L h hn) (ac_sX3_does_7_2_2_f10_f7 1 N (sX3_does_7_1_2_f2_f7 x f L).2 L (ac_sX3_does_7_1_2_f2_f7 x N f L h hn).2.1 (ac_sX3_does_7_1_2_f2_f7 x N f L h hn).2.2.1) rfl rfl (fun z1 z2 => by rw [z1, z2])
theorem ac_sX3_does_4_3_1_f1_f7 (x N : Int32) (f : sg_F) (L : sg_L) (h : f 36 3 = 1) (hn : f 36 5 = N) : acP 36 3 38 5 1 14 N (((((x + N) + 3) * 2) + ((2 ^^^ N) - ((2 + N) + 3))) - ((1 ^^^ N) - ((2 + N) + 3))) [2, 80, 10, 20, 1, 50, 11, 20, 1, 50, 11, 20, 1] f (sX3_does_4_3_1_f1_f7 x f L) := by
  unfold sX3_does_4_3_1_f1_f7 sX3_does_4_3_1_f1_f7_b53; (repeat first | rw [spl_d] | rw [spl2_d]); rw [pr_eta]
  exact acP.cons (by decide) (ac_sX3_runs_2_m1_2_f2_f7 x N (acB 36 3 38 1 2 f) L (acB.r (by decide) h (by decide)) (acB.n (by decide) (by decide) hn))
theorem ac_sX3_runs_81_4_1_f1_f7 (x N : Int32) (f : sg_F) (L : sg_L) (h : f 36 3 = 1) (hn : f 36 5 = N) : acP 36 3 38 5 1 14 N ((((((x + N) + 3) * 2) + ((2 ^^^ N) - ((2 + N) + 3))) - ((1 ^^^ N) - ((2 + N) + 3))) - 1) [2, 80, 10, 20, 1, 50, 11, 20, 1, 50, 11, 20, 1] f (sX3_runs_81_4_1_f1_f7 x f L) := by
  unfold sX3_runs_81_4_1_f1_f7; (repeat first | rw [spl_d] | rw [spl2_d])
  exact acP.map (ac_sX3_does_4_3_1_f1_f7 x N f L h hn) (fun z => by rw [z])
theorem ac_sX3_does_7_3_0_f0_f7 (x N : Int32) (f : sg_F) (L : sg_L) (h : f 36 3 = 0) (hn : f 36 5 = N) : acP 36 3 38 5 0 14 N ((((((x + N) + 3) * 2) + ((2 ^^^ N) - ((2 + N) + 3))) - ((1 ^^^ N) - ((2 + N) + 3))) - 1) [81, 2, 80, 10, 20, 1, 50, 11, 20, 1, 50, 11, 20, 1] f (sX3_does_7_3_0_f0_f7 x f L) := by
  unfold sX3_does_7_3_0_f0_f7 sX3_does_7_3_0_f0_f7_b53; (repeat first | rw [spl_d] | rw [spl2_d]); rw [pr_eta]
  exact acP.cons (by decide) (ac_sX3_runs_81_4_1_f1_f7 x N (acB 36 3 38 0 81 f) L (acB.r (by decide) h (by decide)) (acB.n (by decide) (by decide) hn))
theorem ac_sX12_setsAs_0_f0_f0 (x N : Int32) (f : sg_F) (L : sg_L) (h : f 0 48 = 0) (hn : f 0 50 = N) : acP 0 48 21 50 0 1 N (x + N) [1] f (sX12_setsAs_0_f0_f0 x f L) := by
  unfold sX12_setsAs_0_f0_f0 sX12_begins_1_f0 sX12_begins_1_f0_b19; (repeat first | rw [spl_d] | rw [spl2_d])
  exact acP.leaf (by decide) (by decide) (by decide) h (by decide) hn (by show x + acB 0 48 21 0 1 f 0 50 = (x + N); rw [acB.n (by decide) (by decide) hn])
theorem ac_sX12_setsAs_0_f1_f0 (x N : Int32) (f : sg_F) (L : sg_L) (h : f 0 48 = 1) (hn : f 0 50 = N) : acP 0 48 21 50 1 2 N (x + N) [1] f (sX12_setsAs_0_f1_f0 x f L) := by
  unfold sX12_setsAs_0_f1_f0 sX12_begins_1_f1 sX12_begins_1_f1_b19; (repeat first | rw [spl_d] | rw [spl2_d])
  exact acP.leaf (by decide) (by decide) (by decide) h (by decide) hn (by show x + acB 0 48 21 1 1 f 0 50 = (x + N); rw [acB.n (by decide) (by decide) hn])
theorem ac_sX12_sitsAs_0_f0_f0 (x N : Int32) (f : sg_F) (L : sg_L) (h : f 0 48 = 0) (hn : f 0 50 = N) : acP 0 48 21 50 0 2 N ((x + N) * 2) [10, 1] f (sX12_sitsAs_0_f0_f0 x f L) := by
  unfold sX12_sitsAs_0_f0_f0 sX12_begins_10_f0 sX12_begins_10_f0_b19; (repeat first | rw [spl_d] | rw [spl2_d])
  exact acP.cons (by decide) (acP.map (ac_sX12_setsAs_0_f1_f0 x N (acB 0 48 21 0 10 f) L (acB.r (by decide) h (by decide)) (acB.n (by decide) (by decide) hn)) (fun z => by rw [z]))
theorem ac_sX12_slipsAs_0_f0_f0 (x N : Int32) (f : sg_F) (L : sg_L) (h : f 0 48 = 0) (hn : f 0 50 = N) : acP 0 48 21 50 0 1 N (x ^^^ N) [11] f (sX12_slipsAs_0_f0_f0 x f L) := by
  unfold sX12_slipsAs_0_f0_f0 sX12_begins_11_f0 sX12_begins_11_f0_b19; (repeat first | rw [spl_d] | rw [spl2_d])
  exact acP.leaf (by decide) (by decide) (by decide) h (by decide) hn (by show x ^^^ acB 0 48 21 0 11 f 0 50 = (x ^^^ N); rw [acB.n (by decide) (by decide) hn])
theorem ac_sX12_setsAs_0_f2_f0 (x N : Int32) (f : sg_F) (L : sg_L) (h : f 0 48 = 2) (hn : f 0 50 = N) : acP 0 48 21 50 2 3 N (x + N) [1] f (sX12_setsAs_0_f2_f0 x f L) := by
  unfold sX12_setsAs_0_f2_f0 sX12_begins_1_f2 sX12_begins_1_f2_b19; (repeat first | rw [spl_d] | rw [spl2_d])
  exact acP.leaf (by decide) (by decide) (by decide) h (by decide) hn (by show x + acB 0 48 21 2 1 f 0 50 = (x + N); rw [acB.n (by decide) (by decide) hn])
theorem ac_sX12_sitsAs_0_f1_f0 (x N : Int32) (f : sg_F) (L : sg_L) (h : f 0 48 = 1) (hn : f 0 50 = N) : acP 0 48 21 50 1 3 N ((x + N) * 2) [10, 1] f (sX12_sitsAs_0_f1_f0 x f L) := by
  unfold sX12_sitsAs_0_f1_f0 sX12_begins_10_f1 sX12_begins_10_f1_b19; (repeat first | rw [spl_d] | rw [spl2_d])
  exact acP.cons (by decide) (acP.map (ac_sX12_setsAs_0_f2_f0 x N (acB 0 48 21 1 10 f) L (acB.r (by decide) h (by decide)) (acB.n (by decide) (by decide) hn)) (fun z => by rw [z]))
theorem ac_sX12_slipsAs_0_f3_f0 (x N : Int32) (f : sg_F) (L : sg_L) (h : f 0 48 = 3) (hn : f 0 50 = N) : acP 0 48 21 50 3 4 N (x ^^^ N) [11] f (sX12_slipsAs_0_f3_f0 x f L) := by
  unfold sX12_slipsAs_0_f3_f0 sX12_begins_11_f3 sX12_begins_11_f3_b19; (repeat first | rw [spl_d] | rw [spl2_d])
  exact acP.leaf (by decide) (by decide) (by decide) h (by decide) hn (by show x ^^^ acB 0 48 21 3 11 f 0 50 = (x ^^^ N); rw [acB.n (by decide) (by decide) hn])
theorem ac_sX12_tellsAs_0_f0_f0 (x N : Int32) (f : sg_F) (L : sg_L) (h : f 0 48 = 0) (hn : f 0 50 = N) : acP 0 48 21 50 0 4 N (((x + N) * 2) - (1 ^^^ N)) [2, 10, 1, 11] f (sX12_tellsAs_0_f0_f0 x f L) := by
  unfold sX12_tellsAs_0_f0_f0 sX12_begins_2_f0 sX12_begins_2_f0_b19; (repeat first | rw [spl_d] | rw [spl2_d])
  exact acP.cons (by decide) (acP.two (ac_sX12_sitsAs_0_f1_f0 x N (acB 0 48 21 0 2 f) L (acB.r (by decide) h (by decide)) (acB.n (by decide) (by decide) hn)) (ac_sX12_slipsAs_0_f3_f0 1 N (sX12_sitsAs_0_f1_f0 x (acB 0 48 21 0 2 f) L).2 L (ac_sX12_sitsAs_0_f1_f0 x N (acB 0 48 21 0 2 f) L (acB.r (by decide) h (by decide)) (acB.n (by decide) (by decide) hn)).2.1 (ac_sX12_sitsAs_0_f1_f0 x N (acB 0 48 21 0 2 f) L (acB.r (by decide) h (by decide)) (acB.n (by decide) (by decide) hn)).2.2.1) rfl rfl (fun z1 z2 => by rw [z1, z2]))
theorem ac_sX12_setsAs_0_f1_f1 (x N : Int32) (f : sg_F) (L : sg_L) (h : f 0 48 = 1) (hn : f 0 50 = N) : acP 0 48 21 50 1 2 N (x + N) [1] f (sX12_setsAs_0_f1_f1 x f L) := by
  unfold sX12_setsAs_0_f1_f1 sX12_begins_1_f1 sX12_begins_1_f1_b19; (repeat first | rw [spl_d] | rw [spl2_d])
  exact acP.leaf (by decide) (by decide) (by decide) h (by decide) hn (by show x + acB 0 48 21 1 1 f 0 50 = (x + N); rw [acB.n (by decide) (by decide) hn])
theorem ac_sX12_setsAs_1_f0_f1 (x N : Int32) (f : sg_F) (L : sg_L) (h : f 0 48 = 0) (hn : f 0 50 = N) : acP 0 48 21 50 0 2 N ((x + N) + 3) [20, 1] f (sX12_setsAs_1_f0_f1 x f L) := by
  unfold sX12_setsAs_1_f0_f1 sX12_setsAs_1_f0_f1_b16 sX12_begins_20_f0 sX12_begins_20_f0_b19; (repeat first | rw [spl_d] | rw [spl2_d])
  exact acP.cons (by decide) (acP.map (ac_sX12_setsAs_0_f1_f1 x N (acB 0 48 21 0 20 f) L (acB.r (by decide) h (by decide)) (acB.n (by decide) (by decide) hn)) (fun z => by rw [z]))
theorem ac_sX12_setsAs_0_f2_f1 (x N : Int32) (f : sg_F) (L : sg_L) (h : f 0 48 = 2) (hn : f 0 50 = N) : acP 0 48 21 50 2 3 N (x + N) [1] f (sX12_setsAs_0_f2_f1 x f L) := by
  unfold sX12_setsAs_0_f2_f1 sX12_begins_1_f2 sX12_begins_1_f2_b19; (repeat first | rw [spl_d] | rw [spl2_d])
  exact acP.leaf (by decide) (by decide) (by decide) h (by decide) hn (by show x + acB 0 48 21 2 1 f 0 50 = (x + N); rw [acB.n (by decide) (by decide) hn])
theorem ac_sX12_setsAs_1_f1_f1 (x N : Int32) (f : sg_F) (L : sg_L) (h : f 0 48 = 1) (hn : f 0 50 = N) : acP 0 48 21 50 1 3 N ((x + N) + 3) [20, 1] f (sX12_setsAs_1_f1_f1 x f L) := by
  unfold sX12_setsAs_1_f1_f1 sX12_setsAs_1_f1_f1_b16 sX12_begins_20_f1 sX12_begins_20_f1_b19; (repeat first | rw [spl_d] | rw [spl2_d])
  exact acP.cons (by decide) (acP.map (ac_sX12_setsAs_0_f2_f1 x N (acB 0 48 21 1 20 f) L (acB.r (by decide) h (by decide)) (acB.n (by decide) (by decide) hn)) (fun z => by rw [z]))
theorem ac_sX12_sitsAs_1_f0_f1 (x N : Int32) (f : sg_F) (L : sg_L) (h : f 0 48 = 0) (hn : f 0 50 = N) : acP 0 48 21 50 0 3 N (((x + N) + 3) * 2) [10, 20, 1] f (sX12_sitsAs_1_f0_f1 x f L) := by
  unfold sX12_sitsAs_1_f0_f1 sX12_begins_10_f0 sX12_begins_10_f0_b19; (repeat first | rw [spl_d] | rw [spl2_d])
  exact acP.cons (by decide) (acP.map (ac_sX12_setsAs_1_f1_f1 x N (acB 0 48 21 0 10 f) L (acB.r (by decide) h (by decide)) (acB.n (by decide) (by decide) hn)) (fun z => by rw [z]))
theorem ac_sX12_slipsAs_1_f0_f1 (x N : Int32) (f : sg_F) (L : sg_L) (h : f 0 48 = 0) (hn : f 0 50 = N) : acP 0 48 21 50 0 1 N (x ^^^ N) [11] f (sX12_slipsAs_1_f0_f1 x f L) := by
  unfold sX12_slipsAs_1_f0_f1 sX12_begins_11_f0 sX12_begins_11_f0_b19; (repeat first | rw [spl_d] | rw [spl2_d])
  exact acP.leaf (by decide) (by decide) (by decide) h (by decide) hn (by show x ^^^ acB 0 48 21 0 11 f 0 50 = (x ^^^ N); rw [acB.n (by decide) (by decide) hn])
theorem ac_sX12_setsAs_0_f3_f1 (x N : Int32) (f : sg_F) (L : sg_L) (h : f 0 48 = 3) (hn : f 0 50 = N) : acP 0 48 21 50 3 4 N (x + N) [1] f (sX12_setsAs_0_f3_f1 x f L) := by
  unfold sX12_setsAs_0_f3_f1 sX12_begins_1_f3 sX12_begins_1_f3_b19; (repeat first | rw [spl_d] | rw [spl2_d])
  exact acP.leaf (by decide) (by decide) (by decide) h (by decide) hn (by show x + acB 0 48 21 3 1 f 0 50 = (x + N); rw [acB.n (by decide) (by decide) hn])
theorem ac_sX12_setsAs_1_f2_f1 (x N : Int32) (f : sg_F) (L : sg_L) (h : f 0 48 = 2) (hn : f 0 50 = N) : acP 0 48 21 50 2 4 N ((x + N) + 3) [20, 1] f (sX12_setsAs_1_f2_f1 x f L) := by
  unfold sX12_setsAs_1_f2_f1 sX12_setsAs_1_f2_f1_b16 sX12_begins_20_f2 sX12_begins_20_f2_b19; (repeat first | rw [spl_d] | rw [spl2_d])
  exact acP.cons (by decide) (acP.map (ac_sX12_setsAs_0_f3_f1 x N (acB 0 48 21 2 20 f) L (acB.r (by decide) h (by decide)) (acB.n (by decide) (by decide) hn)) (fun z => by rw [z]))
theorem ac_sX12_sitsAs_1_f1_f1 (x N : Int32) (f : sg_F) (L : sg_L) (h : f 0 48 = 1) (hn : f 0 50 = N) : acP 0 48 21 50 1 4 N (((x + N) + 3) * 2) [10, 20, 1] f (sX12_sitsAs_1_f1_f1 x f L) := by
  unfold sX12_sitsAs_1_f1_f1 sX12_begins_10_f1 sX12_begins_10_f1_b19; (repeat first | rw [spl_d] | rw [spl2_d])
  exact acP.cons (by decide) (acP.map (ac_sX12_setsAs_1_f2_f1 x N (acB 0 48 21 1 10 f) L (acB.r (by decide) h (by decide)) (acB.n (by decide) (by decide) hn)) (fun z => by rw [z]))
theorem ac_sX12_slipsAs_1_f4_f1 (x N : Int32) (f : sg_F) (L : sg_L) (h : f 0 48 = 4) (hn : f 0 50 = N) : acP 0 48 21 50 4 5 N (x ^^^ N) [11] f (sX12_slipsAs_1_f4_f1 x f L) := by
  unfold sX12_slipsAs_1_f4_f1 sX12_begins_11_f4 sX12_begins_11_f4_b19; (repeat first | rw [spl_d] | rw [spl2_d])
  exact acP.leaf (by decide) (by decide) (by decide) h (by decide) hn (by show x ^^^ acB 0 48 21 4 11 f 0 50 = (x ^^^ N); rw [acB.n (by decide) (by decide) hn])
theorem ac_sX12_tellsAs_1_f0_f1 (x N : Int32) (f : sg_F) (L : sg_L) (h : f 0 48 = 0) (hn : f 0 50 = N) : acP 0 48 21 50 0 5 N ((((x + N) + 3) * 2) - (1 ^^^ N)) [2, 10, 20, 1, 11] f (sX12_tellsAs_1_f0_f1 x f L) := by
  unfold sX12_tellsAs_1_f0_f1 sX12_begins_2_f0 sX12_begins_2_f0_b19; (repeat first | rw [spl_d] | rw [spl2_d])
  exact acP.cons (by decide) (acP.two (ac_sX12_sitsAs_1_f1_f1 x N (acB 0 48 21 0 2 f) L (acB.r (by decide) h (by decide)) (acB.n (by decide) (by decide) hn)) (ac_sX12_slipsAs_1_f4_f1 1 N (sX12_sitsAs_1_f1_f1 x (acB 0 48 21 0 2 f) L).2 L (ac_sX12_sitsAs_1_f1_f1 x N (acB 0 48 21 0 2 f) L (acB.r (by decide) h (by decide)) (acB.n (by decide) (by decide) hn)).2.1 (ac_sX12_sitsAs_1_f1_f1 x N (acB 0 48 21 0 2 f) L (acB.r (by decide) h (by decide)) (acB.n (by decide) (by decide) hn)).2.2.1) rfl rfl (fun z1 z2 => by rw [z1, z2]))
theorem ac_sX12_setsAs_2_f0_f2 (x N : Int32) (f : sg_F) (L : sg_L) (h : f 0 48 = 0) (hn : f 0 50 = N) : acP 0 48 21 50 0 1 N (x + N) [1] f (sX12_setsAs_2_f0_f2 x f L) := by
  unfold sX12_setsAs_2_f0_f2 sX12_begins_1_f0 sX12_begins_1_f0_b19; (repeat first | rw [spl_d] | rw [spl2_d])
  exact acP.leaf (by decide) (by decide) (by decide) h (by decide) hn (by show x + acB 0 48 21 0 1 f 0 50 = (x + N); rw [acB.n (by decide) (by decide) hn])
theorem ac_sX12_setsAs_2_f2_f2 (x N : Int32) (f : sg_F) (L : sg_L) (h : f 0 48 = 2) (hn : f 0 50 = N) : acP 0 48 21 50 2 3 N (x + N) [1] f (sX12_setsAs_2_f2_f2 x f L) := by
  unfold sX12_setsAs_2_f2_f2 sX12_begins_1_f2 sX12_begins_1_f2_b19; (repeat first | rw [spl_d] | rw [spl2_d])
  exact acP.leaf (by decide) (by decide) (by decide) h (by decide) hn (by show x + acB 0 48 21 2 1 f 0 50 = (x + N); rw [acB.n (by decide) (by decide) hn])
theorem ac_sX12_sitsAs_0_f1_f2 (x N : Int32) (f : sg_F) (L : sg_L) (h : f 0 48 = 1) (hn : f 0 50 = N) : acP 0 48 21 50 1 3 N ((x + N) * 2) [10, 1] f (sX12_sitsAs_0_f1_f2 x f L) := by
  unfold sX12_sitsAs_0_f1_f2 sX12_begins_10_f1 sX12_begins_10_f1_b19; (repeat first | rw [spl_d] | rw [spl2_d])
  exact acP.cons (by decide) (acP.map (ac_sX12_setsAs_2_f2_f2 x N (acB 0 48 21 1 10 f) L (acB.r (by decide) h (by decide)) (acB.n (by decide) (by decide) hn)) (fun z => by rw [z]))
theorem ac_sX12_sitsAs_2_f0_f2 (x N : Int32) (f : sg_F) (L : sg_L) (h : f 0 48 = 0) (hn : f 0 50 = N) : acP 0 48 21 50 0 3 N (-((x + N) * 2)) [30, 10, 1] f (sX12_sitsAs_2_f0_f2 x f L) := by
  unfold sX12_sitsAs_2_f0_f2 sX12_begins_30_f0 sX12_begins_30_f0_b19; (repeat first | rw [spl_d] | rw [spl2_d])
  exact acP.cons (by decide) (acP.map (ac_sX12_sitsAs_0_f1_f2 x N (acB 0 48 21 0 30 f) L (acB.r (by decide) h (by decide)) (acB.n (by decide) (by decide) hn)) (fun z => by rw [z]))
theorem ac_sX12_slipsAs_2_f0_f2 (x N : Int32) (f : sg_F) (L : sg_L) (h : f 0 48 = 0) (hn : f 0 50 = N) : acP 0 48 21 50 0 1 N (x ^^^ N) [11] f (sX12_slipsAs_2_f0_f2 x f L) := by
  unfold sX12_slipsAs_2_f0_f2 sX12_begins_11_f0 sX12_begins_11_f0_b19; (repeat first | rw [spl_d] | rw [spl2_d])
  exact acP.leaf (by decide) (by decide) (by decide) h (by decide) hn (by show x ^^^ acB 0 48 21 0 11 f 0 50 = (x ^^^ N); rw [acB.n (by decide) (by decide) hn])
theorem ac_sX12_setsAs_2_f3_f2 (x N : Int32) (f : sg_F) (L : sg_L) (h : f 0 48 = 3) (hn : f 0 50 = N) : acP 0 48 21 50 3 4 N (x + N) [1] f (sX12_setsAs_2_f3_f2 x f L) := by
  unfold sX12_setsAs_2_f3_f2 sX12_begins_1_f3 sX12_begins_1_f3_b19; (repeat first | rw [spl_d] | rw [spl2_d])
  exact acP.leaf (by decide) (by decide) (by decide) h (by decide) hn (by show x + acB 0 48 21 3 1 f 0 50 = (x + N); rw [acB.n (by decide) (by decide) hn])
theorem ac_sX12_sitsAs_0_f2_f2 (x N : Int32) (f : sg_F) (L : sg_L) (h : f 0 48 = 2) (hn : f 0 50 = N) : acP 0 48 21 50 2 4 N ((x + N) * 2) [10, 1] f (sX12_sitsAs_0_f2_f2 x f L) := by
  unfold sX12_sitsAs_0_f2_f2 sX12_begins_10_f2 sX12_begins_10_f2_b19; (repeat first | rw [spl_d] | rw [spl2_d])
  exact acP.cons (by decide) (acP.map (ac_sX12_setsAs_2_f3_f2 x N (acB 0 48 21 2 10 f) L (acB.r (by decide) h (by decide)) (acB.n (by decide) (by decide) hn)) (fun z => by rw [z]))
theorem ac_sX12_sitsAs_2_f1_f2 (x N : Int32) (f : sg_F) (L : sg_L) (h : f 0 48 = 1) (hn : f 0 50 = N) : acP 0 48 21 50 1 4 N (-((x + N) * 2)) [30, 10, 1] f (sX12_sitsAs_2_f1_f2 x f L) := by
  unfold sX12_sitsAs_2_f1_f2 sX12_begins_30_f1 sX12_begins_30_f1_b19; (repeat first | rw [spl_d] | rw [spl2_d])
  exact acP.cons (by decide) (acP.map (ac_sX12_sitsAs_0_f2_f2 x N (acB 0 48 21 1 30 f) L (acB.r (by decide) h (by decide)) (acB.n (by decide) (by decide) hn)) (fun z => by rw [z]))
theorem ac_sX12_slipsAs_2_f4_f2 (x N : Int32) (f : sg_F) (L : sg_L) (h : f 0 48 = 4) (hn : f 0 50 = N) : acP 0 48 21 50 4 5 N (x ^^^ N) [11] f (sX12_slipsAs_2_f4_f2 x f L) := by
  unfold sX12_slipsAs_2_f4_f2 sX12_begins_11_f4 sX12_begins_11_f4_b19; (repeat first | rw [spl_d] | rw [spl2_d])
  exact acP.leaf (by decide) (by decide) (by decide) h (by decide) hn (by show x ^^^ acB 0 48 21 4 11 f 0 50 = (x ^^^ N); rw [acB.n (by decide) (by decide) hn])
theorem ac_sX12_tellsAs_2_f0_f2 (x N : Int32) (f : sg_F) (L : sg_L) (h : f 0 48 = 0) (hn : f 0 50 = N) : acP 0 48 21 50 0 5 N ((-((x + N) * 2)) - (1 ^^^ N)) [2, 30, 10, 1, 11] f (sX12_tellsAs_2_f0_f2 x f L) := by
  unfold sX12_tellsAs_2_f0_f2 sX12_begins_2_f0 sX12_begins_2_f0_b19; (repeat first | rw [spl_d] | rw [spl2_d])
  exact acP.cons (by decide) (acP.two (ac_sX12_sitsAs_2_f1_f2 x N (acB 0 48 21 0 2 f) L (acB.r (by decide) h (by decide)) (acB.n (by decide) (by decide) hn)) (ac_sX12_slipsAs_2_f4_f2 1 N (sX12_sitsAs_2_f1_f2 x (acB 0 48 21 0 2 f) L).2 L (ac_sX12_sitsAs_2_f1_f2 x N (acB 0 48 21 0 2 f) L (acB.r (by decide) h (by decide)) (acB.n (by decide) (by decide) hn)).2.1 (ac_sX12_sitsAs_2_f1_f2 x N (acB 0 48 21 0 2 f) L (acB.r (by decide) h (by decide)) (acB.n (by decide) (by decide) hn)).2.2.1) rfl rfl (fun z1 z2 => by rw [z1, z2]))
theorem ac_sX12_setsAs_3_f0_f3 (x N : Int32) (f : sg_F) (L : sg_L) (h : f 0 48 = 0) (hn : f 0 50 = N) : acP 0 48 21 50 0 1 N (x + N) [1] f (sX12_setsAs_3_f0_f3 x f L) := by
  unfold sX12_setsAs_3_f0_f3 sX12_begins_1_f0 sX12_begins_1_f0_b19; (repeat first | rw [spl_d] | rw [spl2_d])
  exact acP.leaf (by decide) (by decide) (by decide) h (by decide) hn (by show x + acB 0 48 21 0 1 f 0 50 = (x + N); rw [acB.n (by decide) (by decide) hn])
theorem ac_sX12_setsAs_3_f3_f3 (x N : Int32) (f : sg_F) (L : sg_L) (h : f 0 48 = 3) (hn : f 0 50 = N) : acP 0 48 21 50 3 4 N (x + N) [1] f (sX12_setsAs_3_f3_f3 x f L) := by
  unfold sX12_setsAs_3_f3_f3 sX12_begins_1_f3 sX12_begins_1_f3_b19; (repeat first | rw [spl_d] | rw [spl2_d])
  exact acP.leaf (by decide) (by decide) (by decide) h (by decide) hn (by show x + acB 0 48 21 3 1 f 0 50 = (x + N); rw [acB.n (by decide) (by decide) hn])
theorem ac_sX12_sitsAs_0_f2_f3 (x N : Int32) (f : sg_F) (L : sg_L) (h : f 0 48 = 2) (hn : f 0 50 = N) : acP 0 48 21 50 2 4 N ((x + N) * 2) [10, 1] f (sX12_sitsAs_0_f2_f3 x f L) := by
  unfold sX12_sitsAs_0_f2_f3 sX12_begins_10_f2 sX12_begins_10_f2_b19; (repeat first | rw [spl_d] | rw [spl2_d])
  exact acP.cons (by decide) (acP.map (ac_sX12_setsAs_3_f3_f3 x N (acB 0 48 21 2 10 f) L (acB.r (by decide) h (by decide)) (acB.n (by decide) (by decide) hn)) (fun z => by rw [z]))
theorem ac_sX12_sitsAs_2_f1_f3 (x N : Int32) (f : sg_F) (L : sg_L) (h : f 0 48 = 1) (hn : f 0 50 = N) : acP 0 48 21 50 1 4 N (-((x + N) * 2)) [30, 10, 1] f (sX12_sitsAs_2_f1_f3 x f L) := by
  unfold sX12_sitsAs_2_f1_f3 sX12_begins_30_f1 sX12_begins_30_f1_b19; (repeat first | rw [spl_d] | rw [spl2_d])
  exact acP.cons (by decide) (acP.map (ac_sX12_sitsAs_0_f2_f3 x N (acB 0 48 21 1 30 f) L (acB.r (by decide) h (by decide)) (acB.n (by decide) (by decide) hn)) (fun z => by rw [z]))
theorem ac_sX12_sitsAs_3_f0_f3 (x N : Int32) (f : sg_F) (L : sg_L) (h : f 0 48 = 0) (hn : f 0 50 = N) : acP 0 48 21 50 0 4 N (-(((x + 1) + N) * 2)) [41, 30, 10, 1] f (sX12_sitsAs_3_f0_f3 x f L) := by
  unfold sX12_sitsAs_3_f0_f3 sX12_sitsAs_3_f0_f3_b10 sX12_begins_41_f0 sX12_begins_41_f0_b19; (repeat first | rw [spl_d] | rw [spl2_d])
  exact acP.cons (by decide) (acP.map (ac_sX12_sitsAs_2_f1_f3 (x + 1) N (acB 0 48 21 0 41 f) L (acB.r (by decide) h (by decide)) (acB.n (by decide) (by decide) hn)) (fun z => z))
theorem ac_sX12_slipsAs_2_f1_f3 (x N : Int32) (f : sg_F) (L : sg_L) (h : f 0 48 = 1) (hn : f 0 50 = N) : acP 0 48 21 50 1 2 N (x ^^^ N) [11] f (sX12_slipsAs_2_f1_f3 x f L) := by
  unfold sX12_slipsAs_2_f1_f3 sX12_begins_11_f1 sX12_begins_11_f1_b19; (repeat first | rw [spl_d] | rw [spl2_d])
  exact acP.leaf (by decide) (by decide) (by decide) h (by decide) hn (by show x ^^^ acB 0 48 21 1 11 f 0 50 = (x ^^^ N); rw [acB.n (by decide) (by decide) hn])
theorem ac_sX12_slipsAs_3_f0_f3 (x N : Int32) (f : sg_F) (L : sg_L) (h : f 0 48 = 0) (hn : f 0 50 = N) : acP 0 48 21 50 0 2 N ((x ^^^ N) * 3) [40, 11] f (sX12_slipsAs_3_f0_f3 x f L) := by
  unfold sX12_slipsAs_3_f0_f3 sX12_slipsAs_3_f0_f3_b10 sX12_begins_40_f0 sX12_begins_40_f0_b19; (repeat first | rw [spl_d] | rw [spl2_d])
  exact acP.cons (by decide) (acP.map (ac_sX12_slipsAs_2_f1_f3 x N (acB 0 48 21 0 40 f) L (acB.r (by decide) h (by decide)) (acB.n (by decide) (by decide) hn)) (fun z => by rw [z]))
theorem ac_sX12_setsAs_3_f4_f3 (x N : Int32) (f : sg_F) (L : sg_L) (h : f 0 48 = 4) (hn : f 0 50 = N) : acP 0 48 21 50 4 5 N (x + N) [1] f (sX12_setsAs_3_f4_f3 x f L) := by
  unfold sX12_setsAs_3_f4_f3 sX12_begins_1_f4 sX12_begins_1_f4_b19; (repeat first | rw [spl_d] | rw [spl2_d])
  exact acP.leaf (by decide) (by decide) (by decide) h (by decide) hn (by show x + acB 0 48 21 4 1 f 0 50 = (x + N); rw [acB.n (by decide) (by decide) hn])
theorem ac_sX12_sitsAs_0_f3_f3 (x N : Int32) (f : sg_F) (L : sg_L) (h : f 0 48 = 3) (hn : f 0 50 = N) : acP 0 48 21 50 3 5 N ((x + N) * 2) [10, 1] f (sX12_sitsAs_0_f3_f3 x f L) := by
  unfold sX12_sitsAs_0_f3_f3 sX12_begins_10_f3 sX12_begins_10_f3_b19; (repeat first | rw [spl_d] | rw [spl2_d])
  exact acP.cons (by decide) (acP.map (ac_sX12_setsAs_3_f4_f3 x N (acB 0 48 21 3 10 f) L (acB.r (by decide) h (by decide)) (acB.n (by decide) (by decide) hn)) (fun z => by rw [z]))
theorem ac_sX12_sitsAs_2_f2_f3 (x N : Int32) (f : sg_F) (L : sg_L) (h : f 0 48 = 2) (hn : f 0 50 = N) : acP 0 48 21 50 2 5 N (-((x + N) * 2)) [30, 10, 1] f (sX12_sitsAs_2_f2_f3 x f L) := by
  unfold sX12_sitsAs_2_f2_f3 sX12_begins_30_f2 sX12_begins_30_f2_b19; (repeat first | rw [spl_d] | rw [spl2_d])
  exact acP.cons (by decide) (acP.map (ac_sX12_sitsAs_0_f3_f3 x N (acB 0 48 21 2 30 f) L (acB.r (by decide) h (by decide)) (acB.n (by decide) (by decide) hn)) (fun z => by rw [z]))
theorem ac_sX12_sitsAs_3_f1_f3 (x N : Int32) (f : sg_F) (L : sg_L) (h : f 0 48 = 1) (hn : f 0 50 = N) : acP 0 48 21 50 1 5 N (-(((x + 1) + N) * 2)) [41, 30, 10, 1] f (sX12_sitsAs_3_f1_f3 x f L) := by
  unfold sX12_sitsAs_3_f1_f3 sX12_sitsAs_3_f1_f3_b10 sX12_begins_41_f1 sX12_begins_41_f1_b19; (repeat first | rw [spl_d] | rw [spl2_d])
  exact acP.cons (by decide) (acP.map (ac_sX12_sitsAs_2_f2_f3 (x + 1) N (acB 0 48 21 1 41 f) L (acB.r (by decide) h (by decide)) (acB.n (by decide) (by decide) hn)) (fun z => z))
theorem ac_sX12_slipsAs_2_f6_f3 (x N : Int32) (f : sg_F) (L : sg_L) (h : f 0 48 = 6) (hn : f 0 50 = N) : acP 0 48 21 50 6 7 N (x ^^^ N) [11] f (sX12_slipsAs_2_f6_f3 x f L) := by
  unfold sX12_slipsAs_2_f6_f3 sX12_begins_11_f6 sX12_begins_11_f6_b19; (repeat first | rw [spl_d] | rw [spl2_d])
  exact acP.leaf (by decide) (by decide) (by decide) h (by decide) hn (by show x ^^^ acB 0 48 21 6 11 f 0 50 = (x ^^^ N); rw [acB.n (by decide) (by decide) hn])
theorem ac_sX12_slipsAs_3_f5_f3 (x N : Int32) (f : sg_F) (L : sg_L) (h : f 0 48 = 5) (hn : f 0 50 = N) : acP 0 48 21 50 5 7 N ((x ^^^ N) * 3) [40, 11] f (sX12_slipsAs_3_f5_f3 x f L) := by
  unfold sX12_slipsAs_3_f5_f3 sX12_slipsAs_3_f5_f3_b10 sX12_begins_40_f5 sX12_begins_40_f5_b19; (repeat first | rw [spl_d] | rw [spl2_d])
  exact acP.cons (by decide) (acP.map (ac_sX12_slipsAs_2_f6_f3 x N (acB 0 48 21 5 40 f) L (acB.r (by decide) h (by decide)) (acB.n (by decide) (by decide) hn)) (fun z => by rw [z]))
theorem ac_sX12_tellsAs_3_f0_f3 (x N : Int32) (f : sg_F) (L : sg_L) (h : f 0 48 = 0) (hn : f 0 50 = N) : acP 0 48 21 50 0 7 N ((-(((x + 1) + N) * 2)) - ((1 ^^^ N) * 3)) [2, 41, 30, 10, 1, 40, 11] f (sX12_tellsAs_3_f0_f3 x f L) := by
  unfold sX12_tellsAs_3_f0_f3 sX12_begins_2_f0 sX12_begins_2_f0_b19; (repeat first | rw [spl_d] | rw [spl2_d])
  exact acP.cons (by decide) (acP.two (ac_sX12_sitsAs_3_f1_f3 x N (acB 0 48 21 0 2 f) L (acB.r (by decide) h (by decide)) (acB.n (by decide) (by decide) hn)) (ac_sX12_slipsAs_3_f5_f3 1 N (sX12_sitsAs_3_f1_f3 x (acB 0 48 21 0 2 f) L).2 L (ac_sX12_sitsAs_3_f1_f3 x N (acB 0 48 21 0 2 f) L (acB.r (by decide) h (by decide)) (acB.n (by decide) (by decide) hn)).2.1 (ac_sX12_sitsAs_3_f1_f3 x N (acB 0 48 21 0 2 f) L (acB.r (by decide) h (by decide)) (acB.n (by decide) (by decide) hn)).2.2.1) rfl rfl (fun z1 z2 => by rw [z1, z2]))
theorem ac_sX12_setsAs_0_f1_f4 (x N : Int32) (f : sg_F) (L : sg_L) (h : f 0 48 = 1) (hn : f 0 50 = N) : acP 0 48 21 50 1 2 N (x + N) [1] f (sX12_setsAs_0_f1_f4 x f L) := by
  unfold sX12_setsAs_0_f1_f4 sX12_begins_1_f1 sX12_begins_1_f1_b19; (repeat first | rw [spl_d] | rw [spl2_d])
  exact acP.leaf (by decide) (by decide) (by decide) h (by decide) hn (by show x + acB 0 48 21 1 1 f 0 50 = (x + N); rw [acB.n (by decide) (by decide) hn])
theorem ac_sX12_setsAs_4_f0_f4 (x N : Int32) (f : sg_F) (L : sg_L) (h : f 0 48 = 0) (hn : f 0 50 = N) : acP 0 48 21 50 0 2 N ((x + N) + 3) [20, 1] f (sX12_setsAs_4_f0_f4 x f L) := by
  unfold sX12_setsAs_4_f0_f4 sX12_setsAs_4_f0_f4_b16 sX12_begins_20_f0 sX12_begins_20_f0_b19; (repeat first | rw [spl_d] | rw [spl2_d])
  exact acP.cons (by decide) (acP.map (ac_sX12_setsAs_0_f1_f4 x N (acB 0 48 21 0 20 f) L (acB.r (by decide) h (by decide)) (acB.n (by decide) (by decide) hn)) (fun z => by rw [z]))
theorem ac_sX12_setsAs_0_f2_f4 (x N : Int32) (f : sg_F) (L : sg_L) (h : f 0 48 = 2) (hn : f 0 50 = N) : acP 0 48 21 50 2 3 N (x + N) [1] f (sX12_setsAs_0_f2_f4 x f L) := by
  unfold sX12_setsAs_0_f2_f4 sX12_begins_1_f2 sX12_begins_1_f2_b19; (repeat first | rw [spl_d] | rw [spl2_d])
  exact acP.leaf (by decide) (by decide) (by decide) h (by decide) hn (by show x + acB 0 48 21 2 1 f 0 50 = (x + N); rw [acB.n (by decide) (by decide) hn])
theorem ac_sX12_setsAs_4_f1_f4 (x N : Int32) (f : sg_F) (L : sg_L) (h : f 0 48 = 1) (hn : f 0 50 = N) : acP 0 48 21 50 1 3 N ((x + N) + 3) [20, 1] f (sX12_setsAs_4_f1_f4 x f L) := by
  unfold sX12_setsAs_4_f1_f4 sX12_setsAs_4_f1_f4_b16 sX12_begins_20_f1 sX12_begins_20_f1_b19; (repeat first | rw [spl_d] | rw [spl2_d])
  exact acP.cons (by decide) (acP.map (ac_sX12_setsAs_0_f2_f4 x N (acB 0 48 21 1 20 f) L (acB.r (by decide) h (by decide)) (acB.n (by decide) (by decide) hn)) (fun z => by rw [z]))
theorem ac_sX12_sitsAs_4_f0_f4 (x N : Int32) (f : sg_F) (L : sg_L) (h : f 0 48 = 0) (hn : f 0 50 = N) : acP 0 48 21 50 0 3 N (((x + N) + 3) * 2) [10, 20, 1] f (sX12_sitsAs_4_f0_f4 x f L) := by
  unfold sX12_sitsAs_4_f0_f4 sX12_begins_10_f0 sX12_begins_10_f0_b19; (repeat first | rw [spl_d] | rw [spl2_d])
  exact acP.cons (by decide) (acP.map (ac_sX12_setsAs_4_f1_f4 x N (acB 0 48 21 0 10 f) L (acB.r (by decide) h (by decide)) (acB.n (by decide) (by decide) hn)) (fun z => by rw [z]))
theorem ac_sX12_slipsAs_1_f1_f4 (x N : Int32) (f : sg_F) (L : sg_L) (h : f 0 48 = 1) (hn : f 0 50 = N) : acP 0 48 21 50 1 2 N (x ^^^ N) [11] f (sX12_slipsAs_1_f1_f4 x f L) := by
  unfold sX12_slipsAs_1_f1_f4 sX12_begins_11_f1 sX12_begins_11_f1_b19; (repeat first | rw [spl_d] | rw [spl2_d])
  exact acP.leaf (by decide) (by decide) (by decide) h (by decide) hn (by show x ^^^ acB 0 48 21 1 11 f 0 50 = (x ^^^ N); rw [acB.n (by decide) (by decide) hn])
theorem ac_sX12_setsAs_0_f3_f4 (x N : Int32) (f : sg_F) (L : sg_L) (h : f 0 48 = 3) (hn : f 0 50 = N) : acP 0 48 21 50 3 4 N (x + N) [1] f (sX12_setsAs_0_f3_f4 x f L) := by
  unfold sX12_setsAs_0_f3_f4 sX12_begins_1_f3 sX12_begins_1_f3_b19; (repeat first | rw [spl_d] | rw [spl2_d])
  exact acP.leaf (by decide) (by decide) (by decide) h (by decide) hn (by show x + acB 0 48 21 3 1 f 0 50 = (x + N); rw [acB.n (by decide) (by decide) hn])
theorem ac_sX12_setsAs_4_f2_f4 (x N : Int32) (f : sg_F) (L : sg_L) (h : f 0 48 = 2) (hn : f 0 50 = N) : acP 0 48 21 50 2 4 N ((x + N) + 3) [20, 1] f (sX12_setsAs_4_f2_f4 x f L) := by
  unfold sX12_setsAs_4_f2_f4 sX12_setsAs_4_f2_f4_b16 sX12_begins_20_f2 sX12_begins_20_f2_b19; (repeat first | rw [spl_d] | rw [spl2_d])
  exact acP.cons (by decide) (acP.map (ac_sX12_setsAs_0_f3_f4 x N (acB 0 48 21 2 20 f) L (acB.r (by decide) h (by decide)) (acB.n (by decide) (by decide) hn)) (fun z => by rw [z]))
theorem ac_sX12_slipsAs_4_f0_f4 (x N : Int32) (f : sg_F) (L : sg_L) (h : f 0 48 = 0) (hn : f 0 50 = N) : acP 0 48 21 50 0 4 N ((x ^^^ N) - ((2 + N) + 3)) [50, 11, 20, 1] f (sX12_slipsAs_4_f0_f4 x f L) := by
  unfold sX12_slipsAs_4_f0_f4 sX12_slipsAs_4_f0_f4_b36 sX12_begins_50_f0 sX12_begins_50_f0_b19; (repeat first | rw [spl_d] | rw [spl2_d])
  exact acP.cons (by decide) (acP.two (ac_sX12_slipsAs_1_f1_f4 x N (acB 0 48 21 0 50 f) L (acB.r (by decide) h (by decide)) (acB.n (by decide) (by decide) hn)) (ac_sX12_setsAs_4_f2_f4 2 N (sX12_slipsAs_1_f1_f4 x (acB 0 48 21 0 50 f) L).2 L (ac_sX12_slipsAs_1_f1_f4 x N (acB 0 48 21 0 50 f) L (acB.r (by decide) h (by decide)) (acB.n (by decide) (by decide) hn)).2.1 (ac_sX12_slipsAs_1_f1_f4 x N (acB 0 48 21 0 50 f) L (acB.r (by decide) h (by decide)) (acB.n (by decide) (by decide) hn)).2.2.1) rfl rfl (fun z1 z2 => by rw [z1, z2]))
theorem ac_sX12_sitsAs_4_f1_f4 (x N : Int32) (f : sg_F) (L : sg_L) (h : f 0 48 = 1) (hn : f 0 50 = N) : acP 0 48 21 50 1 4 N (((x + N) + 3) * 2) [10, 20, 1] f (sX12_sitsAs_4_f1_f4 x f L) := by
  unfold sX12_sitsAs_4_f1_f4 sX12_begins_10_f1 sX12_begins_10_f1_b19; (repeat first | rw [spl_d] | rw [spl2_d])
  exact acP.cons (by decide) (acP.map (ac_sX12_setsAs_4_f2_f4 x N (acB 0 48 21 1 10 f) L (acB.r (by decide) h (by decide)) (acB.n (by decide) (by decide) hn)) (fun z => by rw [z]))
theorem ac_sX12_slipsAs_1_f5_f4 (x N : Int32) (f : sg_F) (L : sg_L) (h : f 0 48 = 5) (hn : f 0 50 = N) : acP 0 48 21 50 5 6 N (x ^^^ N) [11] f (sX12_slipsAs_1_f5_f4 x f L) := by
  unfold sX12_slipsAs_1_f5_f4 sX12_begins_11_f5 sX12_begins_11_f5_b19; (repeat first | rw [spl_d] | rw [spl2_d])
  exact acP.leaf (by decide) (by decide) (by decide) h (by decide) hn (by show x ^^^ acB 0 48 21 5 11 f 0 50 = (x ^^^ N); rw [acB.n (by decide) (by decide) hn])
theorem ac_sX12_setsAs_0_f7_f4 (x N : Int32) (f : sg_F) (L : sg_L) (h : f 0 48 = 7) (hn : f 0 50 = N) : acP 0 48 21 50 7 8 N (x + N) [1] f (sX12_setsAs_0_f7_f4 x f L) := by
  unfold sX12_setsAs_0_f7_f4 sX12_begins_1_f7 sX12_begins_1_f7_b19; (repeat first | rw [spl_d] | rw [spl2_d])
  exact acP.leaf (by decide) (by decide) (by decide) h (by decide) hn (by show x + acB 0 48 21 7 1 f 0 50 = (x + N); rw [acB.n (by decide) (by decide) hn])
theorem ac_sX12_setsAs_4_f6_f4 (x N : Int32) (f : sg_F) (L : sg_L) (h : f 0 48 = 6) (hn : f 0 50 = N) : acP 0 48 21 50 6 8 N ((x + N) + 3) [20, 1] f (sX12_setsAs_4_f6_f4 x f L) := by
  unfold sX12_setsAs_4_f6_f4 sX12_setsAs_4_f6_f4_b16 sX12_begins_20_f6 sX12_begins_20_f6_b19; (repeat first | rw [spl_d] | rw [spl2_d])
  exact acP.cons (by decide) (acP.map (ac_sX12_setsAs_0_f7_f4 x N (acB 0 48 21 6 20 f) L (acB.r (by decide) h (by decide)) (acB.n (by decide) (by decide) hn)) (fun z => by rw [z]))
theorem ac_sX12_slipsAs_4_f4_f4 (x N : Int32) (f : sg_F) (L : sg_L) (h : f 0 48 = 4) (hn : f 0 50 = N) : acP 0 48 21 50 4 8 N ((x ^^^ N) - ((2 + N) + 3)) [50, 11, 20, 1] f (sX12_slipsAs_4_f4_f4 x f L) := by
  unfold sX12_slipsAs_4_f4_f4 sX12_slipsAs_4_f4_f4_b36 sX12_begins_50_f4 sX12_begins_50_f4_b19; (repeat first | rw [spl_d] | rw [spl2_d])
  exact acP.cons (by decide) (acP.two (ac_sX12_slipsAs_1_f5_f4 x N (acB 0 48 21 4 50 f) L (acB.r (by decide) h (by decide)) (acB.n (by decide) (by decide) hn)) (ac_sX12_setsAs_4_f6_f4 2 N (sX12_slipsAs_1_f5_f4 x (acB 0 48 21 4 50 f) L).2 L (ac_sX12_slipsAs_1_f5_f4 x N (acB 0 48 21 4 50 f) L (acB.r (by decide) h (by decide)) (acB.n (by decide) (by decide) hn)).2.1 (ac_sX12_slipsAs_1_f5_f4 x N (acB 0 48 21 4 50 f) L (acB.r (by decide) h (by decide)) (acB.n (by decide) (by decide) hn)).2.2.1) rfl rfl (fun z1 z2 => by rw [z1, z2]))
theorem ac_sX12_tellsAs_4_f0_f4 (x N : Int32) (f : sg_F) (L : sg_L) (h : f 0 48 = 0) (hn : f 0 50 = N) : acP 0 48 21 50 0 8 N ((((x + N) + 3) * 2) - ((1 ^^^ N) - ((2 + N) + 3))) [2, 10, 20, 1, 50, 11, 20, 1] f (sX12_tellsAs_4_f0_f4 x f L) := by
  unfold sX12_tellsAs_4_f0_f4 sX12_begins_2_f0 sX12_begins_2_f0_b19; (repeat first | rw [spl_d] | rw [spl2_d])
  exact acP.cons (by decide) (acP.two (ac_sX12_sitsAs_4_f1_f4 x N (acB 0 48 21 0 2 f) L (acB.r (by decide) h (by decide)) (acB.n (by decide) (by decide) hn)) (ac_sX12_slipsAs_4_f4_f4 1 N (sX12_sitsAs_4_f1_f4 x (acB 0 48 21 0 2 f) L).2 L (ac_sX12_sitsAs_4_f1_f4 x N (acB 0 48 21 0 2 f) L (acB.r (by decide) h (by decide)) (acB.n (by decide) (by decide) hn)).2.1 (ac_sX12_sitsAs_4_f1_f4 x N (acB 0 48 21 0 2 f) L (acB.r (by decide) h (by decide)) (acB.n (by decide) (by decide) hn)).2.2.1) rfl rfl (fun z1 z2 => by rw [z1, z2]))
theorem ac_sX12_setsAs_5_f0_f5 (x N : Int32) (f : sg_F) (L : sg_L) (h : f 0 48 = 0) (hn : f 0 50 = N) : acP 0 48 21 50 0 1 N (x + N) [1] f (sX12_setsAs_5_f0_f5 x f L) := by
  unfold sX12_setsAs_5_f0_f5 sX12_begins_1_f0 sX12_begins_1_f0_b19; (repeat first | rw [spl_d] | rw [spl2_d])
  exact acP.leaf (by decide) (by decide) (by decide) h (by decide) hn (by show x + acB 0 48 21 0 1 f 0 50 = (x + N); rw [acB.n (by decide) (by decide) hn])
theorem ac_sX12_setsAs_5_f3_f5 (x N : Int32) (f : sg_F) (L : sg_L) (h : f 0 48 = 3) (hn : f 0 50 = N) : acP 0 48 21 50 3 4 N (x + N) [1] f (sX12_setsAs_5_f3_f5 x f L) := by
  unfold sX12_setsAs_5_f3_f5 sX12_begins_1_f3 sX12_begins_1_f3_b19; (repeat first | rw [spl_d] | rw [spl2_d])
  exact acP.leaf (by decide) (by decide) (by decide) h (by decide) hn (by show x + acB 0 48 21 3 1 f 0 50 = (x + N); rw [acB.n (by decide) (by decide) hn])
theorem ac_sX12_sitsAs_0_f2_f5 (x N : Int32) (f : sg_F) (L : sg_L) (h : f 0 48 = 2) (hn : f 0 50 = N) : acP 0 48 21 50 2 4 N ((x + N) * 2) [10, 1] f (sX12_sitsAs_0_f2_f5 x f L) := by
  unfold sX12_sitsAs_0_f2_f5 sX12_begins_10_f2 sX12_begins_10_f2_b19; (repeat first | rw [spl_d] | rw [spl2_d])
  exact acP.cons (by decide) (acP.map (ac_sX12_setsAs_5_f3_f5 x N (acB 0 48 21 2 10 f) L (acB.r (by decide) h (by decide)) (acB.n (by decide) (by decide) hn)) (fun z => by rw [z]))
theorem ac_sX12_sitsAs_2_f1_f5 (x N : Int32) (f : sg_F) (L : sg_L) (h : f 0 48 = 1) (hn : f 0 50 = N) : acP 0 48 21 50 1 4 N (-((x + N) * 2)) [30, 10, 1] f (sX12_sitsAs_2_f1_f5 x f L) := by
  unfold sX12_sitsAs_2_f1_f5 sX12_begins_30_f1 sX12_begins_30_f1_b19; (repeat first | rw [spl_d] | rw [spl2_d])
  exact acP.cons (by decide) (acP.map (ac_sX12_sitsAs_0_f2_f5 x N (acB 0 48 21 1 30 f) L (acB.r (by decide) h (by decide)) (acB.n (by decide) (by decide) hn)) (fun z => by rw [z]))
theorem ac_sX12_sitsAs_5_f0_f5 (x N : Int32) (f : sg_F) (L : sg_L) (h : f 0 48 = 0) (hn : f 0 50 = N) : acP 0 48 21 50 0 4 N (-(((x + 1) + N) * 2)) [41, 30, 10, 1] f (sX12_sitsAs_5_f0_f5 x f L) := by
  unfold sX12_sitsAs_5_f0_f5 sX12_sitsAs_5_f0_f5_b10 sX12_begins_41_f0 sX12_begins_41_f0_b19; (repeat first | rw [spl_d] | rw [spl2_d])
  exact acP.cons (by decide) (acP.map (ac_sX12_sitsAs_2_f1_f5 (x + 1) N (acB 0 48 21 0 41 f) L (acB.r (by decide) h (by decide)) (acB.n (by decide) (by decide) hn)) (fun z => z))
theorem ac_sX12_slipsAs_2_f1_f5 (x N : Int32) (f : sg_F) (L : sg_L) (h : f 0 48 = 1) (hn : f 0 50 = N) : acP 0 48 21 50 1 2 N (x ^^^ N) [11] f (sX12_slipsAs_2_f1_f5 x f L) := by
  unfold sX12_slipsAs_2_f1_f5 sX12_begins_11_f1 sX12_begins_11_f1_b19; (repeat first | rw [spl_d] | rw [spl2_d])
  exact acP.leaf (by decide) (by decide) (by decide) h (by decide) hn (by show x ^^^ acB 0 48 21 1 11 f 0 50 = (x ^^^ N); rw [acB.n (by decide) (by decide) hn])
theorem ac_sX12_slipsAs_5_f0_f5 (x N : Int32) (f : sg_F) (L : sg_L) (h : f 0 48 = 0) (hn : f 0 50 = N) : acP 0 48 21 50 0 2 N ((x ^^^ N) * 3) [40, 11] f (sX12_slipsAs_5_f0_f5 x f L) := by
  unfold sX12_slipsAs_5_f0_f5 sX12_slipsAs_5_f0_f5_b10 sX12_begins_40_f0 sX12_begins_40_f0_b19; (repeat first | rw [spl_d] | rw [spl2_d])
  exact acP.cons (by decide) (acP.map (ac_sX12_slipsAs_2_f1_f5 x N (acB 0 48 21 0 40 f) L (acB.r (by decide) h (by decide)) (acB.n (by decide) (by decide) hn)) (fun z => by rw [z]))
theorem ac_sX12_setsAs_5_f5_f5 (x N : Int32) (f : sg_F) (L : sg_L) (h : f 0 48 = 5) (hn : f 0 50 = N) : acP 0 48 21 50 5 6 N (x + N) [1] f (sX12_setsAs_5_f5_f5 x f L) := by
  unfold sX12_setsAs_5_f5_f5 sX12_begins_1_f5 sX12_begins_1_f5_b19; (repeat first | rw [spl_d] | rw [spl2_d])
  exact acP.leaf (by decide) (by decide) (by decide) h (by decide) hn (by show x + acB 0 48 21 5 1 f 0 50 = (x + N); rw [acB.n (by decide) (by decide) hn])
theorem ac_sX12_sitsAs_0_f4_f5 (x N : Int32) (f : sg_F) (L : sg_L) (h : f 0 48 = 4) (hn : f 0 50 = N) : acP 0 48 21 50 4 6 N ((x + N) * 2) [10, 1] f (sX12_sitsAs_0_f4_f5 x f L) := by
  unfold sX12_sitsAs_0_f4_f5 sX12_begins_10_f4 sX12_begins_10_f4_b19; (repeat first | rw [spl_d] | rw [spl2_d])
  exact acP.cons (by decide) (acP.map (ac_sX12_setsAs_5_f5_f5 x N (acB 0 48 21 4 10 f) L (acB.r (by decide) h (by decide)) (acB.n (by decide) (by decide) hn)) (fun z => by rw [z]))
theorem ac_sX12_sitsAs_2_f3_f5 (x N : Int32) (f : sg_F) (L : sg_L) (h : f 0 48 = 3) (hn : f 0 50 = N) : acP 0 48 21 50 3 6 N (-((x + N) * 2)) [30, 10, 1] f (sX12_sitsAs_2_f3_f5 x f L) := by
  unfold sX12_sitsAs_2_f3_f5 sX12_begins_30_f3 sX12_begins_30_f3_b19; (repeat first | rw [spl_d] | rw [spl2_d])
  exact acP.cons (by decide) (acP.map (ac_sX12_sitsAs_0_f4_f5 x N (acB 0 48 21 3 30 f) L (acB.r (by decide) h (by decide)) (acB.n (by decide) (by decide) hn)) (fun z => by rw [z]))
theorem ac_sX12_sitsAs_5_f2_f5 (x N : Int32) (f : sg_F) (L : sg_L) (h : f 0 48 = 2) (hn : f 0 50 = N) : acP 0 48 21 50 2 6 N (-(((x + 1) + N) * 2)) [41, 30, 10, 1] f (sX12_sitsAs_5_f2_f5 x f L) := by
  unfold sX12_sitsAs_5_f2_f5 sX12_sitsAs_5_f2_f5_b10 sX12_begins_41_f2 sX12_begins_41_f2_b19; (repeat first | rw [spl_d] | rw [spl2_d])
  exact acP.cons (by decide) (acP.map (ac_sX12_sitsAs_2_f3_f5 (x + 1) N (acB 0 48 21 2 41 f) L (acB.r (by decide) h (by decide)) (acB.n (by decide) (by decide) hn)) (fun z => z))
theorem ac_sX12_slipsAs_2_f7_f5 (x N : Int32) (f : sg_F) (L : sg_L) (h : f 0 48 = 7) (hn : f 0 50 = N) : acP 0 48 21 50 7 8 N (x ^^^ N) [11] f (sX12_slipsAs_2_f7_f5 x f L) := by
  unfold sX12_slipsAs_2_f7_f5 sX12_begins_11_f7 sX12_begins_11_f7_b19; (repeat first | rw [spl_d] | rw [spl2_d])
  exact acP.leaf (by decide) (by decide) (by decide) h (by decide) hn (by show x ^^^ acB 0 48 21 7 11 f 0 50 = (x ^^^ N); rw [acB.n (by decide) (by decide) hn])
theorem ac_sX12_slipsAs_5_f6_f5 (x N : Int32) (f : sg_F) (L : sg_L) (h : f 0 48 = 6) (hn : f 0 50 = N) : acP 0 48 21 50 6 8 N ((x ^^^ N) * 3) [40, 11] f (sX12_slipsAs_5_f6_f5 x f L) := by
  unfold sX12_slipsAs_5_f6_f5 sX12_slipsAs_5_f6_f5_b10 sX12_begins_40_f6 sX12_begins_40_f6_b19; (repeat first | rw [spl_d] | rw [spl2_d])
  exact acP.cons (by decide) (acP.map (ac_sX12_slipsAs_2_f7_f5 x N (acB 0 48 21 6 40 f) L (acB.r (by decide) h (by decide)) (acB.n (by decide) (by decide) hn)) (fun z => by rw [z]))
theorem ac_sX12_tellsAs_3_f1_f5 (x N : Int32) (f : sg_F) (L : sg_L) (h : f 0 48 = 1) (hn : f 0 50 = N) : acP 0 48 21 50 1 8 N ((-(((x + 1) + N) * 2)) - ((1 ^^^ N) * 3)) [2, 41, 30, 10, 1, 40, 11] f (sX12_tellsAs_3_f1_f5 x f L) := by
  unfold sX12_tellsAs_3_f1_f5 sX12_begins_2_f1 sX12_begins_2_f1_b19; (repeat first | rw [spl_d] | rw [spl2_d])
  exact acP.cons (by decide) (acP.two (ac_sX12_sitsAs_5_f2_f5 x N (acB 0 48 21 1 2 f) L (acB.r (by decide) h (by decide)) (acB.n (by decide) (by decide) hn)) (ac_sX12_slipsAs_5_f6_f5 1 N (sX12_sitsAs_5_f2_f5 x (acB 0 48 21 1 2 f) L).2 L (ac_sX12_sitsAs_5_f2_f5 x N (acB 0 48 21 1 2 f) L (acB.r (by decide) h (by decide)) (acB.n (by decide) (by decide) hn)).2.1 (ac_sX12_sitsAs_5_f2_f5 x N (acB 0 48 21 1 2 f) L (acB.r (by decide) h (by decide)) (acB.n (by decide) (by decide) hn)).2.2.1) rfl rfl (fun z1 z2 => by rw [z1, z2]))
theorem ac_sX12_tellsAs_5_f0_f5 (x N : Int32) (f : sg_F) (L : sg_L) (h : f 0 48 = 0) (hn : f 0 50 = N) : acP 0 48 21 50 0 8 N (((-(((x + 1) + N) * 2)) - ((1 ^^^ N) * 3)) ^^^ 5) [60, 2, 41, 30, 10, 1, 40, 11] f (sX12_tellsAs_5_f0_f5 x f L) := by
  unfold sX12_tellsAs_5_f0_f5 sX12_begins_60_f0 sX12_begins_60_f0_b19; (repeat first | rw [spl_d] | rw [spl2_d])
  exact acP.cons (by decide) (acP.map (ac_sX12_tellsAs_3_f1_f5 x N (acB 0 48 21 0 60 f) L (acB.r (by decide) h (by decide)) (acB.n (by decide) (by decide) hn)) (fun z => by rw [z]))
theorem ac_sX12_setsAs_0_f1_f6 (x N : Int32) (f : sg_F) (L : sg_L) (h : f 0 48 = 1) (hn : f 0 50 = N) : acP 0 48 21 50 1 2 N (x + N) [1] f (sX12_setsAs_0_f1_f6 x f L) := by
  unfold sX12_setsAs_0_f1_f6 sX12_begins_1_f1 sX12_begins_1_f1_b19; (repeat first | rw [spl_d] | rw [spl2_d])
  exact acP.leaf (by decide) (by decide) (by decide) h (by decide) hn (by show x + acB 0 48 21 1 1 f 0 50 = (x + N); rw [acB.n (by decide) (by decide) hn])
theorem ac_sX12_setsAs_6_f0_f6 (x N : Int32) (f : sg_F) (L : sg_L) (h : f 0 48 = 0) (hn : f 0 50 = N) : acP 0 48 21 50 0 2 N ((x + N) * 2) [70, 1] f (sX12_setsAs_6_f0_f6 x f L) := by
  unfold sX12_setsAs_6_f0_f6 sX12_begins_70_f0 sX12_begins_70_f0_b19; (repeat first | rw [spl_d] | rw [spl2_d])
  exact acP.cons (by decide) (acP.map (ac_sX12_setsAs_0_f1_f6 x N (acB 0 48 21 0 70 f) L (acB.r (by decide) h (by decide)) (acB.n (by decide) (by decide) hn)) (fun z => by rw [z]))
theorem ac_sX12_setsAs_0_f2_f6 (x N : Int32) (f : sg_F) (L : sg_L) (h : f 0 48 = 2) (hn : f 0 50 = N) : acP 0 48 21 50 2 3 N (x + N) [1] f (sX12_setsAs_0_f2_f6 x f L) := by
  unfold sX12_setsAs_0_f2_f6 sX12_begins_1_f2 sX12_begins_1_f2_b19; (repeat first | rw [spl_d] | rw [spl2_d])
  exact acP.leaf (by decide) (by decide) (by decide) h (by decide) hn (by show x + acB 0 48 21 2 1 f 0 50 = (x + N); rw [acB.n (by decide) (by decide) hn])
theorem ac_sX12_setsAs_6_f1_f6 (x N : Int32) (f : sg_F) (L : sg_L) (h : f 0 48 = 1) (hn : f 0 50 = N) : acP 0 48 21 50 1 3 N ((x + N) * 2) [70, 1] f (sX12_setsAs_6_f1_f6 x f L) := by
  unfold sX12_setsAs_6_f1_f6 sX12_begins_70_f1 sX12_begins_70_f1_b19; (repeat first | rw [spl_d] | rw [spl2_d])
  exact acP.cons (by decide) (acP.map (ac_sX12_setsAs_0_f2_f6 x N (acB 0 48 21 1 70 f) L (acB.r (by decide) h (by decide)) (acB.n (by decide) (by decide) hn)) (fun z => by rw [z]))
theorem ac_sX12_sitsAs_6_f0_f6 (x N : Int32) (f : sg_F) (L : sg_L) (h : f 0 48 = 0) (hn : f 0 50 = N) : acP 0 48 21 50 0 3 N (((x + N) * 2) * 2) [10, 70, 1] f (sX12_sitsAs_6_f0_f6 x f L) := by
  unfold sX12_sitsAs_6_f0_f6 sX12_begins_10_f0 sX12_begins_10_f0_b19; (repeat first | rw [spl_d] | rw [spl2_d])
  exact acP.cons (by decide) (acP.map (ac_sX12_setsAs_6_f1_f6 x N (acB 0 48 21 0 10 f) L (acB.r (by decide) h (by decide)) (acB.n (by decide) (by decide) hn)) (fun z => by rw [z]))
theorem ac_sX12_slipsAs_6_f0_f6 (x N : Int32) (f : sg_F) (L : sg_L) (h : f 0 48 = 0) (hn : f 0 50 = N) : acP 0 48 21 50 0 1 N (x ^^^ N) [11] f (sX12_slipsAs_6_f0_f6 x f L) := by
  unfold sX12_slipsAs_6_f0_f6 sX12_begins_11_f0 sX12_begins_11_f0_b19; (repeat first | rw [spl_d] | rw [spl2_d])
  exact acP.leaf (by decide) (by decide) (by decide) h (by decide) hn (by show x ^^^ acB 0 48 21 0 11 f 0 50 = (x ^^^ N); rw [acB.n (by decide) (by decide) hn])
theorem ac_sX12_setsAs_0_f3_f6 (x N : Int32) (f : sg_F) (L : sg_L) (h : f 0 48 = 3) (hn : f 0 50 = N) : acP 0 48 21 50 3 4 N (x + N) [1] f (sX12_setsAs_0_f3_f6 x f L) := by
  unfold sX12_setsAs_0_f3_f6 sX12_begins_1_f3 sX12_begins_1_f3_b19; (repeat first | rw [spl_d] | rw [spl2_d])
  exact acP.leaf (by decide) (by decide) (by decide) h (by decide) hn (by show x + acB 0 48 21 3 1 f 0 50 = (x + N); rw [acB.n (by decide) (by decide) hn])
theorem ac_sX12_setsAs_6_f2_f6 (x N : Int32) (f : sg_F) (L : sg_L) (h : f 0 48 = 2) (hn : f 0 50 = N) : acP 0 48 21 50 2 4 N ((x + N) * 2) [70, 1] f (sX12_setsAs_6_f2_f6 x f L) := by
  unfold sX12_setsAs_6_f2_f6 sX12_begins_70_f2 sX12_begins_70_f2_b19; (repeat first | rw [spl_d] | rw [spl2_d])
  exact acP.cons (by decide) (acP.map (ac_sX12_setsAs_0_f3_f6 x N (acB 0 48 21 2 70 f) L (acB.r (by decide) h (by decide)) (acB.n (by decide) (by decide) hn)) (fun z => by rw [z]))
theorem ac_sX12_sitsAs_6_f1_f6 (x N : Int32) (f : sg_F) (L : sg_L) (h : f 0 48 = 1) (hn : f 0 50 = N) : acP 0 48 21 50 1 4 N (((x + N) * 2) * 2) [10, 70, 1] f (sX12_sitsAs_6_f1_f6 x f L) := by
  unfold sX12_sitsAs_6_f1_f6 sX12_begins_10_f1 sX12_begins_10_f1_b19; (repeat first | rw [spl_d] | rw [spl2_d])
  exact acP.cons (by decide) (acP.map (ac_sX12_setsAs_6_f2_f6 x N (acB 0 48 21 1 10 f) L (acB.r (by decide) h (by decide)) (acB.n (by decide) (by decide) hn)) (fun z => by rw [z]))
theorem ac_sX12_slipsAs_6_f4_f6 (x N : Int32) (f : sg_F) (L : sg_L) (h : f 0 48 = 4) (hn : f 0 50 = N) : acP 0 48 21 50 4 5 N (x ^^^ N) [11] f (sX12_slipsAs_6_f4_f6 x f L) := by
  unfold sX12_slipsAs_6_f4_f6 sX12_begins_11_f4 sX12_begins_11_f4_b19; (repeat first | rw [spl_d] | rw [spl2_d])
  exact acP.leaf (by decide) (by decide) (by decide) h (by decide) hn (by show x ^^^ acB 0 48 21 4 11 f 0 50 = (x ^^^ N); rw [acB.n (by decide) (by decide) hn])
theorem ac_sX12_tellsAs_6_f0_f6 (x N : Int32) (f : sg_F) (L : sg_L) (h : f 0 48 = 0) (hn : f 0 50 = N) : acP 0 48 21 50 0 5 N ((((x + N) * 2) * 2) - (1 ^^^ N)) [2, 10, 70, 1, 11] f (sX12_tellsAs_6_f0_f6 x f L) := by
  unfold sX12_tellsAs_6_f0_f6 sX12_begins_2_f0 sX12_begins_2_f0_b19; (repeat first | rw [spl_d] | rw [spl2_d])
  exact acP.cons (by decide) (acP.two (ac_sX12_sitsAs_6_f1_f6 x N (acB 0 48 21 0 2 f) L (acB.r (by decide) h (by decide)) (acB.n (by decide) (by decide) hn)) (ac_sX12_slipsAs_6_f4_f6 1 N (sX12_sitsAs_6_f1_f6 x (acB 0 48 21 0 2 f) L).2 L (ac_sX12_sitsAs_6_f1_f6 x N (acB 0 48 21 0 2 f) L (acB.r (by decide) h (by decide)) (acB.n (by decide) (by decide) hn)).2.1 (ac_sX12_sitsAs_6_f1_f6 x N (acB 0 48 21 0 2 f) L (acB.r (by decide) h (by decide)) (acB.n (by decide) (by decide) hn)).2.2.1) rfl rfl (fun z1 z2 => by rw [z1, z2]))
theorem ac_sX12_setsAs_0_f1_f7 (x N : Int32) (f : sg_F) (L : sg_L) (h : f 0 48 = 1) (hn : f 0 50 = N) : acP 0 48 21 50 1 2 N (x + N) [1] f (sX12_setsAs_0_f1_f7 x f L) := by
  unfold sX12_setsAs_0_f1_f7 sX12_begins_1_f1 sX12_begins_1_f1_b19; (repeat first | rw [spl_d] | rw [spl2_d])
  exact acP.leaf (by decide) (by decide) (by decide) h (by decide) hn (by show x + acB 0 48 21 1 1 f 0 50 = (x + N); rw [acB.n (by decide) (by decide) hn])
theorem ac_sX12_setsAs_7_f0_f7 (x N : Int32) (f : sg_F) (L : sg_L) (h : f 0 48 = 0) (hn : f 0 50 = N) : acP 0 48 21 50 0 2 N ((x + N) + 3) [20, 1] f (sX12_setsAs_7_f0_f7 x f L) := by
  unfold sX12_setsAs_7_f0_f7 sX12_setsAs_7_f0_f7_b16 sX12_begins_20_f0 sX12_begins_20_f0_b19; (repeat first | rw [spl_d] | rw [spl2_d])
  exact acP.cons (by decide) (acP.map (ac_sX12_setsAs_0_f1_f7 x N (acB 0 48 21 0 20 f) L (acB.r (by decide) h (by decide)) (acB.n (by decide) (by decide) hn)) (fun z => by rw [z]))
theorem ac_sX12_setsAs_0_f3_f7 (x N : Int32) (f : sg_F) (L : sg_L) (h : f 0 48 = 3) (hn : f 0 50 = N) : acP 0 48 21 50 3 4 N (x + N) [1] f (sX12_setsAs_0_f3_f7 x f L) := by
  unfold sX12_setsAs_0_f3_f7 sX12_begins_1_f3 sX12_begins_1_f3_b19; (repeat first | rw [spl_d] | rw [spl2_d])
  exact acP.leaf (by decide) (by decide) (by decide) h (by decide) hn (by show x + acB 0 48 21 3 1 f 0 50 = (x + N); rw [acB.n (by decide) (by decide) hn])
theorem ac_sX12_setsAs_7_f2_f7 (x N : Int32) (f : sg_F) (L : sg_L) (h : f 0 48 = 2) (hn : f 0 50 = N) : acP 0 48 21 50 2 4 N ((x + N) + 3) [20, 1] f (sX12_setsAs_7_f2_f7 x f L) := by
  unfold sX12_setsAs_7_f2_f7 sX12_setsAs_7_f2_f7_b16 sX12_begins_20_f2 sX12_begins_20_f2_b19; (repeat first | rw [spl_d] | rw [spl2_d])
  exact acP.cons (by decide) (acP.map (ac_sX12_setsAs_0_f3_f7 x N (acB 0 48 21 2 20 f) L (acB.r (by decide) h (by decide)) (acB.n (by decide) (by decide) hn)) (fun z => by rw [z]))
theorem ac_sX12_sitsAs_4_f1_f7 (x N : Int32) (f : sg_F) (L : sg_L) (h : f 0 48 = 1) (hn : f 0 50 = N) : acP 0 48 21 50 1 4 N (((x + N) + 3) * 2) [10, 20, 1] f (sX12_sitsAs_4_f1_f7 x f L) := by
  unfold sX12_sitsAs_4_f1_f7 sX12_begins_10_f1 sX12_begins_10_f1_b19; (repeat first | rw [spl_d] | rw [spl2_d])
  exact acP.cons (by decide) (acP.map (ac_sX12_setsAs_7_f2_f7 x N (acB 0 48 21 1 10 f) L (acB.r (by decide) h (by decide)) (acB.n (by decide) (by decide) hn)) (fun z => by rw [z]))
theorem ac_sX12_slipsAs_1_f5_f7 (x N : Int32) (f : sg_F) (L : sg_L) (h : f 0 48 = 5) (hn : f 0 50 = N) : acP 0 48 21 50 5 6 N (x ^^^ N) [11] f (sX12_slipsAs_1_f5_f7 x f L) := by
  unfold sX12_slipsAs_1_f5_f7 sX12_begins_11_f5 sX12_begins_11_f5_b19; (repeat first | rw [spl_d] | rw [spl2_d])
  exact acP.leaf (by decide) (by decide) (by decide) h (by decide) hn (by show x ^^^ acB 0 48 21 5 11 f 0 50 = (x ^^^ N); rw [acB.n (by decide) (by decide) hn])
theorem ac_sX12_setsAs_0_f7_f7 (x N : Int32) (f : sg_F) (L : sg_L) (h : f 0 48 = 7) (hn : f 0 50 = N) : acP 0 48 21 50 7 8 N (x + N) [1] f (sX12_setsAs_0_f7_f7 x f L) := by
  unfold sX12_setsAs_0_f7_f7 sX12_begins_1_f7 sX12_begins_1_f7_b19; (repeat first | rw [spl_d] | rw [spl2_d])
  exact acP.leaf (by decide) (by decide) (by decide) h (by decide) hn (by show x + acB 0 48 21 7 1 f 0 50 = (x + N); rw [acB.n (by decide) (by decide) hn])
theorem ac_sX12_setsAs_7_f6_f7 (x N : Int32) (f : sg_F) (L : sg_L) (h : f 0 48 = 6) (hn : f 0 50 = N) : acP 0 48 21 50 6 8 N ((x + N) + 3) [20, 1] f (sX12_setsAs_7_f6_f7 x f L) := by
  unfold sX12_setsAs_7_f6_f7 sX12_setsAs_7_f6_f7_b16 sX12_begins_20_f6 sX12_begins_20_f6_b19; (repeat first | rw [spl_d] | rw [spl2_d])
  exact acP.cons (by decide) (acP.map (ac_sX12_setsAs_0_f7_f7 x N (acB 0 48 21 6 20 f) L (acB.r (by decide) h (by decide)) (acB.n (by decide) (by decide) hn)) (fun z => by rw [z]))
theorem ac_sX12_slipsAs_7_f4_f7 (x N : Int32) (f : sg_F) (L : sg_L) (h : f 0 48 = 4) (hn : f 0 50 = N) : acP 0 48 21 50 4 8 N ((x ^^^ N) - ((2 + N) + 3)) [50, 11, 20, 1] f (sX12_slipsAs_7_f4_f7 x f L) := by
  unfold sX12_slipsAs_7_f4_f7 sX12_slipsAs_7_f4_f7_b36 sX12_begins_50_f4 sX12_begins_50_f4_b19; (repeat first | rw [spl_d] | rw [spl2_d])
  exact acP.cons (by decide) (acP.two (ac_sX12_slipsAs_1_f5_f7 x N (acB 0 48 21 4 50 f) L (acB.r (by decide) h (by decide)) (acB.n (by decide) (by decide) hn)) (ac_sX12_setsAs_7_f6_f7 2 N (sX12_slipsAs_1_f5_f7 x (acB 0 48 21 4 50 f) L).2 L (ac_sX12_slipsAs_1_f5_f7 x N (acB 0 48 21 4 50 f) L (acB.r (by decide) h (by decide)) (acB.n (by decide) (by decide) hn)).2.1 (ac_sX12_slipsAs_1_f5_f7 x N (acB 0 48 21 4 50 f) L (acB.r (by decide) h (by decide)) (acB.n (by decide) (by decide) hn)).2.2.1) rfl rfl (fun z1 z2 => by rw [z1, z2]))
theorem ac_sX12_sitsAs_7_f0_f7 (x N : Int32) (f : sg_F) (L : sg_L) (h : f 0 48 = 0) (hn : f 0 50 = N) : acP 0 48 21 50 0 8 N ((((x + N) + 3) * 2) + ((2 ^^^ N) - ((2 + N) + 3))) [80, 10, 20, 1, 50, 11, 20, 1] f (sX12_sitsAs_7_f0_f7 x f L) := by
  unfold sX12_sitsAs_7_f0_f7 sX12_begins_80_f0 sX12_begins_80_f0_b19; (repeat first | rw [spl_d] | rw [spl2_d])
  exact acP.cons (by decide) (acP.two (ac_sX12_sitsAs_4_f1_f7 x N (acB 0 48 21 0 80 f) L (acB.r (by decide) h (by decide)) (acB.n (by decide) (by decide) hn)) (ac_sX12_slipsAs_7_f4_f7 2 N (sX12_sitsAs_4_f1_f7 x (acB 0 48 21 0 80 f) L).2 L (ac_sX12_sitsAs_4_f1_f7 x N (acB 0 48 21 0 80 f) L (acB.r (by decide) h (by decide)) (acB.n (by decide) (by decide) hn)).2.1 (ac_sX12_sitsAs_4_f1_f7 x N (acB 0 48 21 0 80 f) L (acB.r (by decide) h (by decide)) (acB.n (by decide) (by decide) hn)).2.2.1) rfl rfl (fun z1 z2 => by rw [z1, z2]))
theorem ac_sX12_slipsAs_1_f1_f7 (x N : Int32) (f : sg_F) (L : sg_L) (h : f 0 48 = 1) (hn : f 0 50 = N) : acP 0 48 21 50 1 2 N (x ^^^ N) [11] f (sX12_slipsAs_1_f1_f7 x f L) := by
  unfold sX12_slipsAs_1_f1_f7 sX12_begins_11_f1 sX12_begins_11_f1_b19; (repeat first | rw [spl_d] | rw [spl2_d])
  exact acP.leaf (by decide) (by decide) (by decide) h (by decide) hn (by show x ^^^ acB 0 48 21 1 11 f 0 50 = (x ^^^ N); rw [acB.n (by decide) (by decide) hn])
theorem ac_sX12_slipsAs_7_f0_f7 (x N : Int32) (f : sg_F) (L : sg_L) (h : f 0 48 = 0) (hn : f 0 50 = N) : acP 0 48 21 50 0 4 N ((x ^^^ N) - ((2 + N) + 3)) [50, 11, 20, 1] f (sX12_slipsAs_7_f0_f7 x f L) := by
  unfold sX12_slipsAs_7_f0_f7 sX12_slipsAs_7_f0_f7_b36 sX12_begins_50_f0 sX12_begins_50_f0_b19; (repeat first | rw [spl_d] | rw [spl2_d])
  exact acP.cons (by decide) (acP.two (ac_sX12_slipsAs_1_f1_f7 x N (acB 0 48 21 0 50 f) L (acB.r (by decide) h (by decide)) (acB.n (by decide) (by decide) hn)) (ac_sX12_setsAs_7_f2_f7 2 N (sX12_slipsAs_1_f1_f7 x (acB 0 48 21 0 50 f) L).2 L (ac_sX12_slipsAs_1_f1_f7 x N (acB 0 48 21 0 50 f) L (acB.r (by decide) h (by decide)) (acB.n (by decide) (by decide) hn)).2.1 (ac_sX12_slipsAs_1_f1_f7 x N (acB 0 48 21 0 50 f) L (acB.r (by decide) h (by decide)) (acB.n (by decide) (by decide) hn)).2.2.1) rfl rfl (fun z1 z2 => by rw [z1, z2]))
theorem ac_sX12_setsAs_0_f5_f7 (x N : Int32) (f : sg_F) (L : sg_L) (h : f 0 48 = 5) (hn : f 0 50 = N) : acP 0 48 21 50 5 6 N (x + N) [1] f (sX12_setsAs_0_f5_f7 x f L) := by
  unfold sX12_setsAs_0_f5_f7 sX12_begins_1_f5 sX12_begins_1_f5_b19; (repeat first | rw [spl_d] | rw [spl2_d])
  exact acP.leaf (by decide) (by decide) (by decide) h (by decide) hn (by show x + acB 0 48 21 5 1 f 0 50 = (x + N); rw [acB.n (by decide) (by decide) hn])
theorem ac_sX12_setsAs_7_f4_f7 (x N : Int32) (f : sg_F) (L : sg_L) (h : f 0 48 = 4) (hn : f 0 50 = N) : acP 0 48 21 50 4 6 N ((x + N) + 3) [20, 1] f (sX12_setsAs_7_f4_f7 x f L) := by
  unfold sX12_setsAs_7_f4_f7 sX12_setsAs_7_f4_f7_b16 sX12_begins_20_f4 sX12_begins_20_f4_b19; (repeat first | rw [spl_d] | rw [spl2_d])
  exact acP.cons (by decide) (acP.map (ac_sX12_setsAs_0_f5_f7 x N (acB 0 48 21 4 20 f) L (acB.r (by decide) h (by decide)) (acB.n (by decide) (by decide) hn)) (fun z => by rw [z]))
theorem ac_sX12_sitsAs_4_f3_f7 (x N : Int32) (f : sg_F) (L : sg_L) (h : f 0 48 = 3) (hn : f 0 50 = N) : acP 0 48 21 50 3 6 N (((x + N) + 3) * 2) [10, 20, 1] f (sX12_sitsAs_4_f3_f7 x f L) := by
  unfold sX12_sitsAs_4_f3_f7 sX12_begins_10_f3 sX12_begins_10_f3_b19; (repeat first | rw [spl_d] | rw [spl2_d])
  exact acP.cons (by decide) (acP.map (ac_sX12_setsAs_7_f4_f7 x N (acB 0 48 21 3 10 f) L (acB.r (by decide) h (by decide)) (acB.n (by decide) (by decide) hn)) (fun z => by rw [z]))
theorem ac_sX12_slipsAs_1_f7_f7 (x N : Int32) (f : sg_F) (L : sg_L) (h : f 0 48 = 7) (hn : f 0 50 = N) : acP 0 48 21 50 7 8 N (x ^^^ N) [11] f (sX12_slipsAs_1_f7_f7 x f L) := by
  unfold sX12_slipsAs_1_f7_f7 sX12_begins_11_f7 sX12_begins_11_f7_b19; (repeat first | rw [spl_d] | rw [spl2_d])
  exact acP.leaf (by decide) (by decide) (by decide) h (by decide) hn (by show x ^^^ acB 0 48 21 7 11 f 0 50 = (x ^^^ N); rw [acB.n (by decide) (by decide) hn])
theorem ac_sX12_setsAs_0_f9_f7 (x N : Int32) (f : sg_F) (L : sg_L) (h : f 0 48 = 9) (hn : f 0 50 = N) : acP 0 48 21 50 9 10 N (x + N) [1] f (sX12_setsAs_0_f9_f7 x f L) := by
  unfold sX12_setsAs_0_f9_f7 sX12_begins_1_f9 sX12_begins_1_f9_b19; (repeat first | rw [spl_d] | rw [spl2_d])
  exact acP.leaf (by decide) (by decide) (by decide) h (by decide) hn (by show x + acB 0 48 21 9 1 f 0 50 = (x + N); rw [acB.n (by decide) (by decide) hn])
theorem ac_sX12_setsAs_7_f8_f7 (x N : Int32) (f : sg_F) (L : sg_L) (h : f 0 48 = 8) (hn : f 0 50 = N) : acP 0 48 21 50 8 10 N ((x + N) + 3) [20, 1] f (sX12_setsAs_7_f8_f7 x f L) := by
  unfold sX12_setsAs_7_f8_f7 sX12_setsAs_7_f8_f7_b16 sX12_begins_20_f8 sX12_begins_20_f8_b19; (repeat first | rw [spl_d] | rw [spl2_d])
  exact acP.cons (by decide) (acP.map (ac_sX12_setsAs_0_f9_f7 x N (acB 0 48 21 8 20 f) L (acB.r (by decide) h (by decide)) (acB.n (by decide) (by decide) hn)) (fun z => by rw [z]))
theorem ac_sX12_slipsAs_7_f6_f7 (x N : Int32) (f : sg_F) (L : sg_L) (h : f 0 48 = 6) (hn : f 0 50 = N) : acP 0 48 21 50 6 10 N ((x ^^^ N) - ((2 + N) + 3)) [50, 11, 20, 1] f (sX12_slipsAs_7_f6_f7 x f L) := by
  unfold sX12_slipsAs_7_f6_f7 sX12_slipsAs_7_f6_f7_b36 sX12_begins_50_f6 sX12_begins_50_f6_b19; (repeat first | rw [spl_d] | rw [spl2_d])
  exact acP.cons (by decide) (acP.two (ac_sX12_slipsAs_1_f7_f7 x N (acB 0 48 21 6 50 f) L (acB.r (by decide) h (by decide)) (acB.n (by decide) (by decide) hn)) (ac_sX12_setsAs_7_f8_f7 2 N (sX12_slipsAs_1_f7_f7 x (acB 0 48 21 6 50 f) L).2 L (ac_sX12_slipsAs_1_f7_f7 x N (acB 0 48 21 6 50 f) L (acB.r (by decide) h (by decide)) (acB.n (by decide) (by decide) hn)).2.1 (ac_sX12_slipsAs_1_f7_f7 x N (acB 0 48 21 6 50 f) L (acB.r (by decide) h (by decide)) (acB.n (by decide) (by decide) hn)).2.2.1) rfl rfl (fun z1 z2 => by rw [z1, z2]))
theorem ac_sX12_sitsAs_7_f2_f7 (x N : Int32) (f : sg_F) (L : sg_L) (h : f 0 48 = 2) (hn : f 0 50 = N) : acP 0 48 21 50 2 10 N ((((x + N) + 3) * 2) + ((2 ^^^ N) - ((2 + N) + 3))) [80, 10, 20, 1, 50, 11, 20, 1] f (sX12_sitsAs_7_f2_f7 x f L) := by
  unfold sX12_sitsAs_7_f2_f7 sX12_begins_80_f2 sX12_begins_80_f2_b19; (repeat first | rw [spl_d] | rw [spl2_d])
  exact acP.cons (by decide) (acP.two (ac_sX12_sitsAs_4_f3_f7 x N (acB 0 48 21 2 80 f) L (acB.r (by decide) h (by decide)) (acB.n (by decide) (by decide) hn)) (ac_sX12_slipsAs_7_f6_f7 2 N (sX12_sitsAs_4_f3_f7 x (acB 0 48 21 2 80 f) L).2 L (ac_sX12_sitsAs_4_f3_f7 x N (acB 0 48 21 2 80 f) L (acB.r (by decide) h (by decide)) (acB.n (by decide) (by decide) hn)).2.1 (ac_sX12_sitsAs_4_f3_f7 x N (acB 0 48 21 2 80 f) L (acB.r (by decide) h (by decide)) (acB.n (by decide) (by decide) hn)).2.2.1) rfl rfl (fun z1 z2 => by rw [z1, z2]))
theorem ac_sX12_slipsAs_1_f11_f7 (x N : Int32) (f : sg_F) (L : sg_L) (h : f 0 48 = 11) (hn : f 0 50 = N) : acP 0 48 21 50 11 12 N (x ^^^ N) [11] f (sX12_slipsAs_1_f11_f7 x f L) := by
  unfold sX12_slipsAs_1_f11_f7 sX12_begins_11_f11 sX12_begins_11_f11_b19; (repeat first | rw [spl_d] | rw [spl2_d])
  exact acP.leaf (by decide) (by decide) (by decide) h (by decide) hn (by show x ^^^ acB 0 48 21 11 11 f 0 50 = (x ^^^ N); rw [acB.n (by decide) (by decide) hn])
theorem ac_sX12_setsAs_0_f13_f7 (x N : Int32) (f : sg_F) (L : sg_L) (h : f 0 48 = 13) (hn : f 0 50 = N) : acP 0 48 21 50 13 14 N (x + N) [1] f (sX12_setsAs_0_f13_f7 x f L) := by
  unfold sX12_setsAs_0_f13_f7 sX12_begins_1_f13 sX12_begins_1_f13_b19; (repeat first | rw [spl_d] | rw [spl2_d])
  exact acP.leaf (by decide) (by decide) (by decide) h (by decide) hn (by show x + acB 0 48 21 13 1 f 0 50 = (x + N); rw [acB.n (by decide) (by decide) hn])
theorem ac_sX12_setsAs_7_f12_f7 (x N : Int32) (f : sg_F) (L : sg_L) (h : f 0 48 = 12) (hn : f 0 50 = N) : acP 0 48 21 50 12 14 N ((x + N) + 3) [20, 1] f (sX12_setsAs_7_f12_f7 x f L) := by
  unfold sX12_setsAs_7_f12_f7 sX12_setsAs_7_f12_f7_b16 sX12_begins_20_f12 sX12_begins_20_f12_b19; (repeat first | rw [spl_d] | rw [spl2_d])
  exact acP.cons (by decide) (acP.map (ac_sX12_setsAs_0_f13_f7 x N (acB 0 48 21 12 20 f) L (acB.r (by decide) h (by decide)) (acB.n (by decide) (by decide) hn)) (fun z => by rw [z]))
theorem ac_sX12_slipsAs_7_f10_f7 (x N : Int32) (f : sg_F) (L : sg_L) (h : f 0 48 = 10) (hn : f 0 50 = N) : acP 0 48 21 50 10 14 N ((x ^^^ N) - ((2 + N) + 3)) [50, 11, 20, 1] f (sX12_slipsAs_7_f10_f7 x f L) := by
  unfold sX12_slipsAs_7_f10_f7 sX12_slipsAs_7_f10_f7_b36 sX12_begins_50_f10 sX12_begins_50_f10_b19; (repeat first | rw [spl_d] | rw [spl2_d])
  exact acP.cons (by decide) (acP.two (ac_sX12_slipsAs_1_f11_f7 x N (acB 0 48 21 10 50 f) L (acB.r (by decide) h (by decide)) (acB.n (by decide) (by decide) hn)) (ac_sX12_setsAs_7_f12_f7 2 N (sX12_slipsAs_1_f11_f7 x (acB 0 48 21 10 50 f) L).2 L (ac_sX12_slipsAs_1_f11_f7 x N (acB 0 48 21 10 50 f) L (acB.r (by decide) h (by decide)) (acB.n (by decide) (by decide) hn)).2.1 (ac_sX12_slipsAs_1_f11_f7 x N (acB 0 48 21 10 50 f) L (acB.r (by decide) h (by decide)) (acB.n (by decide) (by decide) hn)).2.2.1) rfl rfl (fun z1 z2 => by rw [z1, z2]))
theorem ac_sX12_tellsAs_4_f1_f7 (x N : Int32) (f : sg_F) (L : sg_L) (h : f 0 48 = 1) (hn : f 0 50 = N) : acP 0 48 21 50 1 14 N (((((x + N) + 3) * 2) + ((2 ^^^ N) - ((2 + N) + 3))) - ((1 ^^^ N) - ((2 + N) + 3))) [2, 80, 10, 20, 1, 50, 11, 20, 1, 50, 11, 20, 1] f (sX12_tellsAs_4_f1_f7 x f L) := by
  unfold sX12_tellsAs_4_f1_f7 sX12_begins_2_f1 sX12_begins_2_f1_b19; (repeat first | rw [spl_d] | rw [spl2_d])
  exact acP.cons (by decide) (acP.two (ac_sX12_sitsAs_7_f2_f7 x N (acB 0 48 21 1 2 f) L (acB.r (by decide) h (by decide)) (acB.n (by decide) (by decide) hn)) (ac_sX12_slipsAs_7_f10_f7 1 N (sX12_sitsAs_7_f2_f7 x (acB 0 48 21 1 2 f) L).2 L (ac_sX12_sitsAs_7_f2_f7 x N (acB 0 48 21 1 2 f) L (acB.r (by decide) h (by decide)) (acB.n (by decide) (by decide) hn)).2.1 (ac_sX12_sitsAs_7_f2_f7 x N (acB 0 48 21 1 2 f) L (acB.r (by decide) h (by decide)) (acB.n (by decide) (by decide) hn)).2.2.1) rfl rfl (fun z1 z2 => by rw [z1, z2]))
theorem ac_sX12_tellsAs_7_f0_f7 (x N : Int32) (f : sg_F) (L : sg_L) (h : f 0 48 = 0) (hn : f 0 50 = N) : acP 0 48 21 50 0 14 N ((((((x + N) + 3) * 2) + ((2 ^^^ N) - ((2 + N) + 3))) - ((1 ^^^ N) - ((2 + N) + 3))) - 1) [81, 2, 80, 10, 20, 1, 50, 11, 20, 1, 50, 11, 20, 1] f (sX12_tellsAs_7_f0_f7 x f L) := by
  unfold sX12_tellsAs_7_f0_f7 sX12_begins_81_f0 sX12_begins_81_f0_b19; (repeat first | rw [spl_d] | rw [spl2_d])
  exact acP.cons (by decide) (acP.map (ac_sX12_tellsAs_4_f1_f7 x N (acB 0 48 21 0 81 f) L (acB.r (by decide) h (by decide)) (acB.n (by decide) (by decide) hn)) (fun z => by rw [z]))
