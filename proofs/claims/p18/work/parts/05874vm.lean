/-! THE LAW at work -/
/-- values of the stack, the latest first -/
def vS (g : Nat → Int32) : List Int32 → Prop
  | [] => True
  | v :: st => g st.length = v ∧ vS g st
theorem vS.kp {g g1 : Nat → Int32} : ∀ st : List Int32, vS g st → (∀ j : Nat, j < st.length → g1 j = g j) → vS g1 st := by
  intro st
  induction st with
  | nil => intro _ _; exact trivial
  | cons v st ih =>
    intro h k
    have e : (v :: st).length = st.length + 1 := rfl
    have h : g st.length = v ∧ vS g st := h
    exact ⟨(k _ (by omega)).trans h.1, ih h.2 (fun j hj => k j (by omega))⟩
/-- the names' values, as the class has them: s, w, h, k -/
def vN (s w h k : Int32) (i : Nat) : Int32 := match i with
  | 0 => if (0 : Int32) ≤ s - w then s - w else 0 - (s - w)
  | 1 => if w.toInt < s.toInt then 1 else 0
  | 2 => s
  | 3 => w
  | 4 => h
  | _ => k
theorem xopd (s : Int32) (f : sg_F) (L : sg_L) : sX5_operands s f L = if s.toInt = 42 ∨ s.toInt = 47 ∨ s.toInt = 37 ∨ s.toInt = 43 ∨ s.toInt = 45 ∨ s.toInt = 60 ∨ s.toInt = 61 ∨ s.toInt = 62 ∨ s.toInt = 38 ∨ s.toInt = 124 then 2 else if s.toInt = 33 ∨ s.toInt = 126 then 1 else 0 := by
  unfold sX5_operands
  (repeat' split) <;> first | rfl | (exfalso; omega)
theorem xwk (s a b : Int32) (f : sg_F) (L : sg_L) (h : s.toInt = 42 ∨ s.toInt = 47 ∨ s.toInt = 37 ∨ s.toInt = 43 ∨ s.toInt = 45 ∨ s.toInt = 60 ∨ s.toInt = 61 ∨ s.toInt = 62 ∨ s.toInt = 38 ∨ s.toInt = 124) : sX5_worked s a b f L = pwk s.toInt a b := by
  rcases h with h | h | h | h | h | h | h | h | h | h
  · refine Eq.trans ?_ (pwk_42 h).symm
    unfold sX5_worked; (repeat first | rw [spl_d] | rw [spl2_d])
    rw [if_neg (show ¬ s.toInt = 33 from by omega), if_neg (show ¬ s.toInt = 37 from by omega), if_neg (show ¬ s.toInt = 38 from by omega), if_pos h]
  · refine Eq.trans ?_ (pwk_47 h).symm
    unfold sX5_worked; (repeat first | rw [spl_d] | rw [spl2_d])
    rw [if_neg (show ¬ s.toInt = 33 from by omega), if_neg (show ¬ s.toInt = 37 from by omega), if_neg (show ¬ s.toInt = 38 from by omega), if_neg (show ¬ s.toInt = 42 from by omega), if_neg (show ¬ s.toInt = 43 from by omega), if_neg (show ¬ s.toInt = 45 from by omega), if_pos h]
  · refine Eq.trans ?_ (pwk_37 h).symm
    unfold sX5_worked; (repeat first | rw [spl_d] | rw [spl2_d])
    rw [if_neg (show ¬ s.toInt = 33 from by omega), if_pos h]
  · refine Eq.trans ?_ (pwk_43 h).symm
    unfold sX5_worked; (repeat first | rw [spl_d] | rw [spl2_d])
    rw [if_neg (show ¬ s.toInt = 33 from by omega), if_neg (show ¬ s.toInt = 37 from by omega), if_neg (show ¬ s.toInt = 38 from by omega), if_neg (show ¬ s.toInt = 42 from by omega), if_pos h]
  · refine Eq.trans ?_ (pwk_45 h).symm
    unfold sX5_worked; (repeat first | rw [spl_d] | rw [spl2_d])
    rw [if_neg (show ¬ s.toInt = 33 from by omega), if_neg (show ¬ s.toInt = 37 from by omega), if_neg (show ¬ s.toInt = 38 from by omega), if_neg (show ¬ s.toInt = 42 from by omega), if_neg (show ¬ s.toInt = 43 from by omega), if_pos h]
  · refine Eq.trans ?_ (pwk_60 h).symm
    unfold sX5_worked; (repeat first | rw [spl_d] | rw [spl2_d])
    rw [if_neg (show ¬ s.toInt = 33 from by omega), if_neg (show ¬ s.toInt = 37 from by omega), if_neg (show ¬ s.toInt = 38 from by omega), if_neg (show ¬ s.toInt = 42 from by omega), if_neg (show ¬ s.toInt = 43 from by omega), if_neg (show ¬ s.toInt = 45 from by omega), if_neg (show ¬ s.toInt = 47 from by omega), if_pos h]
  · refine Eq.trans ?_ (pwk_61 h).symm
    unfold sX5_worked; (repeat first | rw [spl_d] | rw [spl2_d])
    rw [if_neg (show ¬ s.toInt = 33 from by omega), if_neg (show ¬ s.toInt = 37 from by omega), if_neg (show ¬ s.toInt = 38 from by omega), if_neg (show ¬ s.toInt = 42 from by omega), if_neg (show ¬ s.toInt = 43 from by omega), if_neg (show ¬ s.toInt = 45 from by omega), if_neg (show ¬ s.toInt = 47 from by omega), if_neg (show ¬ s.toInt = 60 from by omega), if_pos h]
  · refine Eq.trans ?_ (pwk_62 h).symm
    unfold sX5_worked; (repeat first | rw [spl_d] | rw [spl2_d])
    rw [if_neg (show ¬ s.toInt = 33 from by omega), if_neg (show ¬ s.toInt = 37 from by omega), if_neg (show ¬ s.toInt = 38 from by omega), if_neg (show ¬ s.toInt = 42 from by omega), if_neg (show ¬ s.toInt = 43 from by omega), if_neg (show ¬ s.toInt = 45 from by omega), if_neg (show ¬ s.toInt = 47 from by omega), if_neg (show ¬ s.toInt = 60 from by omega), if_neg (show ¬ s.toInt = 61 from by omega), if_pos h]
  · refine Eq.trans ?_ (pwk_38 h).symm
    unfold sX5_worked; (repeat first | rw [spl_d] | rw [spl2_d])
    rw [if_neg (show ¬ s.toInt = 33 from by omega), if_neg (show ¬ s.toInt = 37 from by omega), if_pos h]
  · refine Eq.trans ?_ (pwk_124 h).symm
    unfold sX5_worked; (repeat first | rw [spl_d] | rw [spl2_d])
    rw [if_neg (show ¬ s.toInt = 33 from by omega), if_neg (show ¬ s.toInt = 37 from by omega), if_neg (show ¬ s.toInt = 38 from by omega), if_neg (show ¬ s.toInt = 42 from by omega), if_neg (show ¬ s.toInt = 43 from by omega), if_neg (show ¬ s.toInt = 45 from by omega), if_neg (show ¬ s.toInt = 47 from by omega), if_neg (show ¬ s.toInt = 60 from by omega), if_neg (show ¬ s.toInt = 61 from by omega), if_neg (show ¬ s.toInt = 62 from by omega), if_pos h]
theorem xwk33 (s a b : Int32) (f : sg_F) (L : sg_L) (h : s.toInt = 33) : sX5_worked s a b f L = if a.toInt = 0 then 1 else 0 := by
  unfold sX5_worked
  rw [if_pos h]
theorem xwk126 (s a b : Int32) (f : sg_F) (L : sg_L) (h : s.toInt = 126) : sX5_worked s a b f L = -a := by
  unfold sX5_worked; (repeat first | rw [spl_d] | rw [spl2_d])
  rw [if_neg (by omega), if_neg (by omega), if_neg (by omega), if_neg (by omega), if_neg (by omega), if_neg (by omega), if_neg (by omega), if_neg (by omega), if_neg (by omega), if_neg (by omega), if_neg (by omega)]
theorem xnmd (y s w h k : Int32) (f : sg_F) (L : sg_L) : sX5_named y s w h k f L = pnv (vN s w h k) y := by
  unfold sX5_named pnv; (repeat first | rw [spl_d] | rw [spl2_d])
  by_cases h0 : y.toInt = 100 ∨ y.toInt = 117 ∨ y.toInt = 115 ∨ y.toInt = 119 ∨ y.toInt = 104 ∨ y.toInt = 107
  · rw [if_pos h0]
    rcases h0 with h0 | h0 | h0 | h0 | h0 | h0
    · obtain rfl : y = 100 := Int32.toInt_inj.mp (h0.trans (by decide))
      rfl
    · obtain rfl : y = 117 := Int32.toInt_inj.mp (h0.trans (by decide))
      rfl
    · obtain rfl : y = 115 := Int32.toInt_inj.mp (h0.trans (by decide))
      rfl
    · obtain rfl : y = 119 := Int32.toInt_inj.mp (h0.trans (by decide))
      rfl
    · obtain rfl : y = 104 := Int32.toInt_inj.mp (h0.trans (by decide))
      rfl
    · obtain rfl : y = 107 := Int32.toInt_inj.mp (h0.trans (by decide))
      rfl
  · rw [if_neg h0, if_neg (show ¬ y.toInt = 100 from by omega), if_neg (show ¬ y.toInt = 104 from by omega), if_neg (show ¬ y.toInt = 107 from by omega), if_neg (show ¬ y.toInt = 115 from by omega), if_neg (show ¬ y.toInt = 117 from by omega), if_neg (show ¬ y.toInt = 119 from by omega)]
    by_cases c101 : y.toInt = 101
    · rw [if_pos c101]
    rw [if_neg c101]
    by_cases c102 : y.toInt = 102
    · rw [if_pos c102]
    rw [if_neg c102]
    by_cases c103 : y.toInt = 103
    · rw [if_pos c103]
    rw [if_neg c103]
    by_cases c105 : y.toInt = 105
    · rw [if_pos c105]
    rw [if_neg c105]
    by_cases c106 : y.toInt = 106
    · rw [if_pos c106]
    rw [if_neg c106]
    by_cases c108 : y.toInt = 108
    · rw [if_pos c108]
    rw [if_neg c108]
    by_cases c109 : y.toInt = 109
    · rw [if_pos c109]
    rw [if_neg c109]
    by_cases c110 : y.toInt = 110
    · rw [if_pos c110]
    rw [if_neg c110]
    by_cases c111 : y.toInt = 111
    · rw [if_pos c111]
    rw [if_neg c111]
    by_cases c112 : y.toInt = 112
    · rw [if_pos c112]
    rw [if_neg c112]
    by_cases c113 : y.toInt = 113
    · rw [if_pos c113]
    rw [if_neg c113]
    by_cases c114 : y.toInt = 114
    · rw [if_pos c114]
    rw [if_neg c114]
    by_cases c116 : y.toInt = 116
    · rw [if_pos c116]
    rw [if_neg c116]
    by_cases c118 : y.toInt = 118
    · rw [if_pos c118]
    rw [if_neg c118]
/-- a sign works -/
theorem vone (s w h k : Int32) (L : sg_L) {c : Int32} {st out : List Int32} (hx : pex1 (vN s w h k) c st = some out) (hp : c.toInt ≠ 59 ∧ c.toInt ≠ 63) {m i : Nat} {t y : Int32} {f : sg_F} (hv : vS (f 8) st) (ht : t.toInt = st.length) (hl : st.length ≤ 120) (hy : y.toInt = i) (hi : (i : Int) < (f 4 9).toInt) (h2 : (f 4 9).toInt ≤ 121) (hc : f 7 i = c) : ∃ (f1 : sg_F) (t1 y1 : Int32), sX5_valueOf_l9 s w h k (m + 1) 0 t y f L = sX5_valueOf_l9 s w h k m 0 t1 y1 f1 L ∧ t1.toInt = out.length ∧ y1.toInt = (i : Int) + 1 ∧ vS (f1 8) out ∧ (∀ q : Nat, q ≠ 8 → f1 q = f q) ∧ out.length ≤ st.length + 1 := by
  have k0 : (0 : Int32).toInt = 0 := by decide
  have k1 : (1 : Int32).toInt = 1 := by decide
  have k2 : (2 : Int32).toInt = 2 := by decide
  have ey := bn_clI (x := y) (by omega)
  have e1 : (y + 1).toInt = y.toInt + 1 := (bn_addI (by omega) (by omega)).trans (by omega)
  have cy : f 7 y.toNatClampNeg = c := by rw [show y.toNatClampNeg = i from by omega]; exact hc
  have e9 : sX5_valueOf_l9 s w h k (m + 1) 0 t y f L = sX5_valueOf_h9 s w h k (sX5_valueOf_l9 s w h k m) 0 t y f L := rfl
  rw [e9]
  unfold sX5_valueOf_h9 sX5_valueOf_b46 sX5_valueOf_b93 sX5_valueOf_b191; (repeat first | rw [spl_d] | rw [spl2_d])
  rw [if_pos (show y.toInt < (f 4 9).toInt from by omega), cy, if_neg hp.1, if_neg hp.1, if_neg hp.2, if_pos k0, xopd]
  unfold pex1 at hx
  by_cases c1 : c.toInt = 42 ∨ c.toInt = 47 ∨ c.toInt = 37 ∨ c.toInt = 43 ∨ c.toInt = 45 ∨ c.toInt = 60 ∨ c.toInt = 61 ∨ c.toInt = 62 ∨ c.toInt = 38 ∨ c.toInt = 124
  · rw [if_pos c1] at hx ⊢
    match st, hx, hv, ht, hl with
    | [], hx, _, _, _ => exact absurd hx (by intro z; cases z)
    | [_], hx, _, _, _ => exact absurd hx (by intro z; cases z)
    | b :: a :: r, hx, hv, ht, hl =>
      obtain rfl := Option.some.inj hx
      have el : (b :: a :: r).length = r.length + 2 := rfl
      have eo : (pwk c.toInt a b :: r).length = r.length + 1 := rfl
      have hv : f 8 (r.length + 1) = b ∧ f 8 r.length = a ∧ vS (f 8) r := hv
      have et : (t - 2).toInt = t.toInt - 2 := (bn_subI (by omega) (by omega)).trans (by omega)
      have et1 : (t - 2 + 1).toInt = (t - 2).toInt + 1 := (bn_addI (by omega) (by omega)).trans (by omega)
      have ct := bn_clI (x := t - 2) (by omega)
      have ct1 := bn_clI (x := t - 2 + 1) (by omega)
      rw [if_neg (show ¬ (t - 2).toInt < 0 from by omega), if_pos (show (t - 2 + 1).toInt < 122 from by omega), if_neg (show ¬ (2 : Int32).toInt = 0 from by decide), show (t - 2).toNatClampNeg = r.length from by omega, show (t - 2 + 1).toNatClampNeg = r.length + 1 from by omega, hv.1, hv.2.1, xwk c a b _ _ c1]
      refine ⟨_, _, _, rfl, by omega, by omega, ⟨?_, ?_⟩, fun q hq => sg_up_n hq, by omega⟩
      · rw [sg_up_s, sgu_s]
      · rw [sg_up_s]; exact vS.kp r hv.2.2 (fun j hj => sgu_n (by omega))
  rw [if_neg c1] at hx ⊢
  by_cases c2 : c.toInt = 33 ∨ c.toInt = 126
  · rw [if_pos c2]
    have hx2 : ∃ (a : Int32) (r : List Int32), st = a :: r ∧ out = (if c.toInt = 33 then (if a.toInt = 0 then 1 else 0) else -a) :: r := by
      by_cases d : c.toInt = 33
      · rw [if_pos d] at hx
        cases st with
        | nil => exact absurd hx (by intro z; cases z)
        | cons a r => exact ⟨a, r, rfl, by rw [if_pos d]; exact (Option.some.inj hx).symm⟩
      · rw [if_neg d, if_pos (show c.toInt = 126 from by omega)] at hx
        cases st with
        | nil => exact absurd hx (by intro z; cases z)
        | cons a r => exact ⟨a, r, rfl, by rw [if_neg d]; exact (Option.some.inj hx).symm⟩
    obtain ⟨a, r, rfl, rfl⟩ := hx2
    · skip
      have el : (a :: r).length = r.length + 1 := rfl
      have eo : ((if c.toInt = 33 then (if a.toInt = 0 then (1 : Int32) else 0) else -a) :: r).length = r.length + 1 := rfl
      have hv : f 8 r.length = a ∧ vS (f 8) r := hv
      have et : (t - 1).toInt = t.toInt - 1 := (bn_subI (by omega) (by omega)).trans (by omega)
      have et1 : (t - 1 + 1).toInt = (t - 1).toInt + 1 := (bn_addI (by omega) (by omega)).trans (by omega)
      have ct := bn_clI (x := t - 1) (by omega)
      rw [if_neg (show ¬ (t - 1).toInt < 0 from by omega), if_pos (show (t - 1 + 1).toInt < 122 from by omega), if_neg (show ¬ (1 : Int32).toInt = 0 from by decide), show (t - 1).toNatClampNeg = r.length from by omega, hv.1]
      have ew : sX5_worked c a (f 8 (t - 1 + 1).toNatClampNeg) f L = if c.toInt = 33 then (if a.toInt = 0 then 1 else 0) else -a := by
        by_cases d : c.toInt = 33
        · rw [if_pos d]; exact xwk33 c a _ f L d
        · rw [if_neg d]; exact xwk126 c a _ f L (by omega)
      rw [ew]
      refine ⟨_, _, _, rfl, by omega, by omega, ⟨?_, ?_⟩, fun q hq => sg_up_n hq, by omega⟩
      · rw [sg_up_s, sgu_s]
      · rw [sg_up_s]; exact vS.kp r hv.2 (fun j hj => sgu_n (by omega))
  · rw [if_neg c2]
    rw [if_neg (by omega), if_neg (by omega)] at hx
    obtain rfl := Option.some.inj hx
    have eo : (pnv (vN s w h k) c :: st).length = st.length + 1 := rfl
    have et : (t - 0).toInt = t.toInt := (bn_subI (by omega) (by omega)).trans (by omega)
    have et1 : (t - 0 + 1).toInt = (t - 0).toInt + 1 := (bn_addI (by omega) (by omega)).trans (by omega)
    have ct := bn_clI (x := t - 0) (by omega)
    rw [if_neg (show ¬ (t - 0).toInt < 0 from by omega), if_pos (show (t - 0 + 1).toInt < 122 from by omega), if_pos k0, show (t - 0).toNatClampNeg = st.length from by omega, xnmd]
    refine ⟨_, _, _, rfl, by omega, by omega, ⟨?_, ?_⟩, fun q hq => sg_up_n hq, by omega⟩
    · rw [sg_up_s, sgu_s]
    · rw [sg_up_s]; exact vS.kp st hv (fun j hj => sgu_n (by omega))
/-- signs of one expression work -/
theorem vseg (s w h k : Int32) (L : sg_L) : ∀ (c st out : List Int32) (m i : Nat) (t y : Int32) (f : sg_F), trL (f 7) i c → (∀ x : Int32, x ∈ c → x.toInt ≠ 59 ∧ x.toInt ≠ 63) → pex (vN s w h k) c st = some out → vS (f 8) st → t.toInt = st.length → st.length + c.length ≤ 121 → y.toInt = i → ((i + c.length : Nat) : Int) ≤ (f 4 9).toInt → (f 4 9).toInt ≤ 121 → c.length ≤ m → ∃ (f1 : sg_F) (t1 y1 : Int32), sX5_valueOf_l9 s w h k m 0 t y f L = sX5_valueOf_l9 s w h k (m - c.length) 0 t1 y1 f1 L ∧ t1.toInt = out.length ∧ y1.toInt = ((i + c.length : Nat) : Int) ∧ vS (f1 8) out ∧ ∀ q : Nat, q ≠ 8 → f1 q = f q := by
  intro c
  induction c with
  | nil =>
    intro st out m i t y f _ _ hx hv ht _ hy _ _ _
    have hx : some st = some out := hx
    obtain rfl := Option.some.inj hx
    exact ⟨f, t, y, rfl, ht, hy, hv, fun _ _ => rfl⟩
  | cons x c ih =>
    intro st out m i t y f hc hp hx hv ht hl hy h1 h2 hm
    have el : (x :: c).length = c.length + 1 := rfl
    have hc : f 7 i = x ∧ trL (f 7) (i + 1) c := hc
    have hx : (pex1 (vN s w h k) x st).bind (pex (vN s w h k) c) = some out := hx
    cases e : pex1 (vN s w h k) x st with
    | none => rw [e] at hx; exact absurd hx (by intro z; cases z)
    | some s1 =>
      rw [e] at hx
      have hx : pex (vN s w h k) c s1 = some out := hx
      cases m with
      | zero => exact absurd hm (by omega)
      | succ m =>
        obtain ⟨f1, t1, y1, a1, a2, a3, a4, a5, a6⟩ := vone s w h k L (m := m) e (hp x (List.mem_cons_self ..)) hv ht (by omega) hy (by omega) h2 hc.1
        obtain ⟨f2, t2, y2, b1, b2, b3, b4, b5⟩ := ih s1 out m (i + 1) t1 y1 f1 (by rw [a5 7 (by decide)]; exact hc.2) (fun z hz => hp z (List.mem_cons_of_mem _ hz)) hx a4 a2 (by omega) (by rw [a3]; rfl) (by rw [a5 4 (by decide)]; omega) (by rw [a5 4 (by decide)]; omega) (by omega)
        refine ⟨f2, t2, y2, ?_, b2, by omega, b4, fun q hq => (b5 q hq).trans (a5 q hq)⟩
        rw [a1, b1, show m + 1 - (x :: c).length = m - c.length from by omega]
/-- signs that are passed by -/
theorem vskip (s w h k : Int32) (L : sg_L) (t : Int32) : ∀ (c : List Int32) (m i : Nat) (y : Int32) (f : sg_F), trL (f 7) i c → (∀ x : Int32, x ∈ c → x.toInt ≠ 59 ∧ x.toInt ≠ 63) → y.toInt = i → ((i + c.length : Nat) : Int) ≤ (f 4 9).toInt → (f 4 9).toInt ≤ 121 → c.length ≤ m → ∃ y1 : Int32, sX5_valueOf_l9 s w h k m 1 t y f L = sX5_valueOf_l9 s w h k (m - c.length) 1 t y1 f L ∧ y1.toInt = ((i + c.length : Nat) : Int) := by
  intro c
  induction c with
  | nil => intro m i y f _ _ hy _ _ _; exact ⟨y, rfl, hy⟩
  | cons x c ih =>
    intro m i y f hc hp hy h1 h2 hm
    have el : (x :: c).length = c.length + 1 := rfl
    have hc : f 7 i = x ∧ trL (f 7) (i + 1) c := hc
    have k1 : (1 : Int32).toInt = 1 := by decide
    have ey := bn_clI (x := y) (by omega)
    have e1 : (y + 1).toInt = y.toInt + 1 := (bn_addI (by omega) (by omega)).trans (by omega)
    have cy : f 7 y.toNatClampNeg = x := by rw [show y.toNatClampNeg = i from by omega]; exact hc.1
    have hx := hp x (List.mem_cons_self ..)
    cases m with
    | zero => exact absurd hm (by omega)
    | succ m =>
      have e9 : sX5_valueOf_l9 s w h k (m + 1) 1 t y f L = sX5_valueOf_l9 s w h k m 1 t (y + 1) f L := by
        show sX5_valueOf_h9 s w h k (sX5_valueOf_l9 s w h k m) 1 t y f L = _
        unfold sX5_valueOf_h9 sX5_valueOf_b46 sX5_valueOf_b93 sX5_valueOf_b191; (repeat first | rw [spl_d] | rw [spl2_d])
        rw [if_pos (show y.toInt < (f 4 9).toInt from by omega), cy, if_neg hx.1, if_neg hx.1, if_neg hx.2, if_neg (show ¬ (1 : Int32).toInt = 0 from by decide)]
      obtain ⟨y1, b1, b2⟩ := ih m (i + 1) (y + 1) f hc.2 (fun z hz => hp z (List.mem_cons_of_mem _ hz)) (by rw [e1, hy]; rfl) (by omega) h2 (by omega)
      exact ⟨y1, by rw [e9, b1, show m + 1 - (x :: c).length = m - c.length from by omega], by omega⟩
theorem trL.sp {g : Nat → Int32} {m : List Int32} : ∀ (l : List Int32) (i : Nat), trL g i (l ++ m) → trL g i l ∧ trL g (i + l.length) m := by
  intro l
  induction l with
  | nil => intro i h; exact ⟨trivial, h⟩
  | cons b t ih =>
    intro i h
    have h : g i = b ∧ trL g (i + 1) (t ++ m) := h
    have e : (b :: t).length = t.length + 1 := rfl
    obtain ⟨a1, a2⟩ := ih (i + 1) h.2
    exact ⟨⟨h.1, a1⟩, by rw [e, show i + (t.length + 1) = i + 1 + t.length from by omega]; exact a2⟩
/-- what is given stays given; signs are put behind -/
theorem pLs_app {T : Nat → Int32} {n : Nat} {N : Nat → Int32} : ∀ (q a : Nat) (h : (Nat → Int32) → Bool) (g : pV) (c : List Int32), (pLs T n q a h g c).2.1 = true → (∃ d : List Int32, (pLs T n q a h g c).2.2.1 = c ++ d) ∧ (h N = true → (pLs T n q a h g c).2.2.2 N = g N) := by
  intro q
  induction q with
  | zero => intro a h g c _; exact ⟨⟨[], (List.append_nil c).symm⟩, fun _ => rfl⟩
  | succ q ih =>
    intro a h g c hk
    rw [pLs_s] at hk ⊢
    by_cases c1 : (pLine T n a).2.1 = true
    · rw [if_pos c1] at hk ⊢
      unfold pT at hk ⊢
      by_cases c2 : pnx T n (pLine T n a).1 = 59
      · rw [if_pos c2] at hk ⊢
        obtain ⟨⟨d, e⟩, w⟩ := ih _ _ _ _ hk
        refine ⟨⟨(pLine T n a).2.2.1 ++ d, by rw [e, List.append_assoc]⟩, fun z => ?_⟩
        rw [w (by show (h N || (pLine T n a).2.2.2.1 N) = true; rw [z]; rfl)]
        show (if h N = true then g N else _) = g N
        rw [if_pos z]
      · rw [if_neg c2] at hk ⊢
        by_cases c3 : (pLine T n a).1 < n
        · rw [if_pos c3] at hk; exact absurd hk Bool.false_ne_true
        · rw [if_neg c3]
          refine ⟨⟨(pLine T n a).2.2.1, rfl⟩, fun z => ?_⟩
          show (if h N = true then g N else _) = g N
          rw [if_pos z]
    · rw [if_neg c1] at hk; exact absurd hk Bool.false_ne_true
/-- a line's end where nothing is passed by -/
theorem vend0 (s w h k : Int32) (L : sg_L) {m i : Nat} {t y : Int32} {f : sg_F} (hy : y.toInt = i) (hi : (i : Int) < (f 4 9).toInt) (hc : f 7 i = 59) : (sX5_valueOf_l9 s w h k (m + 1) 0 t y f L).1 = f 8 0 := by
  have k59 : (59 : Int32).toInt = 59 := by decide
  have ey := bn_clI (x := y) (by omega)
  show (sX5_valueOf_h9 s w h k (sX5_valueOf_l9 s w h k m) 0 t y f L).1 = _
  unfold sX5_valueOf_h9; (repeat first | rw [spl_d] | rw [spl2_d])
  rw [if_pos (show y.toInt < (f 4 9).toInt from by omega), show y.toNatClampNeg = i from by omega, hc, if_pos k59, if_pos (show (0 : Int32).toInt = 0 from by decide)]
  rfl
/-- the end of a line that was passed by -/
theorem vend1 (s w h k : Int32) (L : sg_L) {m i : Nat} {t y : Int32} {f : sg_F} (hy : y.toInt = i) (hi : (i : Int) < (f 4 9).toInt) (hc : f 7 i = 59) : sX5_valueOf_l9 s w h k (m + 1) 1 t y f L = sX5_valueOf_l9 s w h k m 0 t (y + 1) f L := by
  have k59 : (59 : Int32).toInt = 59 := by decide
  have ey := bn_clI (x := y) (by omega)
  show sX5_valueOf_h9 s w h k (sX5_valueOf_l9 s w h k m) 1 t y f L = _
  unfold sX5_valueOf_h9 sX5_valueOf_b46 sX5_valueOf_b191; (repeat first | rw [spl_d] | rw [spl2_d])
  rw [if_pos (show y.toInt < (f 4 9).toInt from by omega), show y.toNatClampNeg = i from by omega, hc, if_pos k59, if_pos k59, if_neg (show ¬ (1 : Int32).toInt = 0 from by decide)]
/-- ? -/
theorem vquest (s w h k : Int32) (L : sg_L) {m i : Nat} {t y : Int32} {f : sg_F} (hy : y.toInt = i) (hi : (i : Int) < (f 4 9).toInt) (hc : f 7 i = 63) : sX5_valueOf_l9 s w h k (m + 1) 0 t y f L = sX5_valueOf_l9 s w h k m (if (f 8 0).toInt = 0 then 1 else 0) 0 (y + 1) f L := by
  have k63 : (63 : Int32).toInt = 63 := by decide
  have ey := bn_clI (x := y) (by omega)
  show sX5_valueOf_h9 s w h k (sX5_valueOf_l9 s w h k m) 0 t y f L = _
  unfold sX5_valueOf_h9 sX5_valueOf_b46 sX5_valueOf_b191; (repeat first | rw [spl_d] | rw [spl2_d])
  rw [if_pos (show y.toInt < (f 4 9).toInt from by omega), show y.toNatClampNeg = i from by omega, hc, if_neg (show ¬ (63 : Int32).toInt = 59 from by decide), if_neg (show ¬ (63 : Int32).toInt = 59 from by decide), if_pos k63, if_pos (show (0 : Int32).toInt = 0 from by decide), show (0 : Int32).toNatClampNeg = 0 from by decide]
  by_cases d : (f 8 0).toInt = 0
  · rw [if_pos d, if_pos d]
  · rw [if_neg d, if_neg d]
/-- behind the last sign -/
theorem vlast (s w h k : Int32) (L : sg_L) {m : Nat} {t y z : Int32} {f : sg_F} (hy : y.toInt = (f 4 9).toInt) : (sX5_valueOf_l9 s w h k (m + 1) z t y f L).1 = 0 := by
  show (sX5_valueOf_h9 s w h k (sX5_valueOf_l9 s w h k m) z t y f L).1 = _
  unfold sX5_valueOf_h9; (repeat first | rw [spl_d] | rw [spl2_d])
  rw [if_neg (show ¬ y.toInt < (f 4 9).toInt from by omega)]
theorem vlines {T : Nat → Int32} {n : Nat} (s w h0 k : Int32) (L : sg_L) : ∀ (q a : Nat) (h : (Nat → Int32) → Bool) (g : pV) (c : List Int32) (m : Nat) (y : Int32) (f : sg_F), (pLs T n q a h g c).2.1 = true → h (vN s w h0 k) = false → g (vN s w h0 k) = 0 → trL (f 7) 0 (pLs T n q a h g c).2.2.1 → (f 4 9).toInt = (pLs T n q a h g c).2.2.1.length → (pLs T n q a h g c).2.2.1.length ≤ 121 → y.toInt = c.length → (pLs T n q a h g c).2.2.1.length < m + c.length → (sX5_valueOf_l9 s w h0 k m 0 0 y f L).1 = (pLs T n q a h g c).2.2.2 (vN s w h0 k) := by
  intro q
  induction q with
  | zero =>
    intro a h g c m y f hk hh hg hc hd h1 hy hm
    have hm : c.length < m + c.length := hm
    have hd : (f 4 9).toInt = c.length := hd
    cases m with
    | zero => exact absurd hm (by omega)
    | succ m =>
      rw [vlast s w h0 k L (by omega)]
      exact hg.symm
  | succ q ih =>
    intro a h g c m y f hk hh hg hc hd h1 hy hm
    have k0 : (0 : Int32).toInt = 0 := by decide
    have APP := pLs_app (T := T) (n := n) (N := vN s w h0 k)
    -- what comes behind this line, if it doesn't count
    have go : ∀ (m1 : Nat) (y1 : Int32) (f1 : sg_F), (pLine T n a).2.1 = true → (pLine T n a).2.2.2.1 (vN s w h0 k) = false → (∀ z : Nat, z ≠ 8 → f1 z = f z) → y1.toInt = (c ++ (pLine T n a).2.2.1).length → (pLs T n (q + 1) a h g c).2.2.1.length < m1 + (c ++ (pLine T n a).2.2.1).length → (sX5_valueOf_l9 s w h0 k m1 0 0 y1 f1 L).1 = (pLs T n (q + 1) a h g c).2.2.2 (vN s w h0 k) := by
      intro m1 y1 f1 hl hf hF hy1 hm1
      have eh : pH h (pLine T n a) (vN s w h0 k) = false := by show (h _ || _) = false; rw [hh, hf]; rfl
      have eg : pV1 h g (pLine T n a) (vN s w h0 k) = 0 := by
        show (if h (vN s w h0 k) = true then g (vN s w h0 k) else if (pLine T n a).2.2.2.1 (vN s w h0 k) = true then _ else g (vN s w h0 k)) = 0
        rw [hh, hf, if_neg Bool.false_ne_true, if_neg Bool.false_ne_true, hg]
      rw [pLs_s, if_pos hl] at hk hc hd h1 hm1 ⊢
      unfold pT at hk hc hd h1 hm1 ⊢
      by_cases c2 : pnx T n (pLine T n a).1 = 59
      · rw [if_pos c2] at hk hc hd h1 hm1 ⊢
        exact ih _ _ _ _ m1 y1 f1 hk eh eg (by rw [hF 7 (by decide)]; exact hc) (by rw [hF 4 (by decide)]; exact hd) h1 hy1 hm1
      · rw [if_neg c2] at hk hc hd h1 hm1 ⊢
        by_cases c3 : (pLine T n a).1 < n
        · rw [if_pos c3] at hk; exact absurd hk Bool.false_ne_true
        · rw [if_neg c3] at hd hm1 ⊢
          have hd : (f 4 9).toInt = (c ++ (pLine T n a).2.2.1).length := hd
          have hm1 : (c ++ (pLine T n a).2.2.1).length < m1 + (c ++ (pLine T n a).2.2.1).length := hm1
          cases m1 with
          | zero => exact absurd hm1 (by omega)
          | succ m1 =>
            rw [vlast s w h0 k L (by rw [hF 4 (by decide)]; omega)]
            exact eg.symm
    -- what is given, if it counts
    have given : (pLine T n a).2.1 = true → (pLine T n a).2.2.2.1 (vN s w h0 k) = true → (pLs T n (q + 1) a h g c).2.2.2 (vN s w h0 k) = (pLine T n a).2.2.2.2 (vN s w h0 k) := by
      intro hl ht
      have eg : pV1 h g (pLine T n a) (vN s w h0 k) = (pLine T n a).2.2.2.2 (vN s w h0 k) := by
        show (if h (vN s w h0 k) = true then _ else if (pLine T n a).2.2.2.1 (vN s w h0 k) = true then _ else _) = _
        rw [hh, ht, if_neg Bool.false_ne_true, if_pos rfl]
      rw [pLs_s, if_pos hl] at hk ⊢
      unfold pT at hk ⊢
      by_cases c2 : pnx T n (pLine T n a).1 = 59
      · rw [if_pos c2] at hk ⊢
        rw [(APP _ _ _ _ _ hk).2 (by show (h _ || _) = true; rw [ht, Bool.or_true]), eg]
      · rw [if_neg c2] at hk ⊢
        by_cases c3 : (pLine T n a).1 < n
        · rw [if_pos c3] at hk; exact absurd hk Bool.false_ne_true
        · rw [if_neg c3]; exact eg
    have hl : (pLine T n a).2.1 = true := by
      cases e : (pLine T n a).2.1 with
      | true => rfl
      | false =>
        rw [pLs_s, if_neg (by rw [e]; exact Bool.false_ne_true)] at hk
        exact absurd hk Bool.false_ne_true
    -- the line's signs stand where they should
    have hx : ∃ d : List Int32, (pLs T n (q + 1) a h g c).2.2.1 = c ++ (pLine T n a).2.2.1 ++ d := by
      rw [pLs_s, if_pos hl] at hk ⊢
      unfold pT at hk ⊢
      by_cases c2 : pnx T n (pLine T n a).1 = 59
      · rw [if_pos c2] at hk ⊢
        exact (APP _ _ _ _ _ hk).1
      · rw [if_neg c2] at hk ⊢
        by_cases c3 : (pLine T n a).1 < n
        · rw [if_pos c3] at hk; exact absurd hk Bool.false_ne_true
        · rw [if_neg c3]; exact ⟨[], (List.append_nil _).symm⟩
    obtain ⟨d, hx⟩ := hx
    have hs := hc
    rw [hx, List.append_assoc] at hs
    have hs1 := (trL.sp c 0 hs).2
    rw [Nat.zero_add] at hs1
    have hs2 := (trL.sp _ _ hs1).1
    have hlen : (pLs T n (q + 1) a h g c).2.2.1.length = c.length + (pLine T n a).2.2.1.length + d.length := by rw [hx, List.length_append, List.length_append]
    have G := pE_G (T := T) (n := n) a
    clear hs hs1
    obtain ⟨l, el⟩ : ∃ z : pL, z = pLine T n a := ⟨_, rfl⟩
    have el' := el
    unfold pLine at el'
    by_cases cc : (pE T n a).2.1 = true ∧ pnx T n (pE T n a).1 = 63
    · rw [if_pos cc] at el'
      obtain ⟨-, -, -, G4, G5⟩ := G cc.1
      have G2 := pE_G (T := T) (n := n) ((pE T n a).1 + 1)
      have hl2 := hl
      rw [← el, el'] at hl2
      obtain ⟨-, -, -, W4, W5⟩ := G2 hl2
      have ec : (pLine T n a).2.2.1 = (pE T n a).2.2.1 ++ ([63] ++ ((pE T n ((pE T n a).1 + 1)).2.2.1 ++ [59])) := by
        rw [← el, el']
        show (pE T n a).2.2.1 ++ [63] ++ (pE T n ((pE T n a).1 + 1)).2.2.1 ++ [59] = _
        rw [List.append_assoc, List.append_assoc]
      have eh : (pLine T n a).2.2.2.1 (vN s w h0 k) = decide (((pE T n a).2.2.2 (vN s w h0 k)).toInt ≠ 0) := by rw [← el, el']; rfl
      have ev : (pLine T n a).2.2.2.2 (vN s w h0 k) = (pE T n ((pE T n a).1 + 1)).2.2.2 (vN s w h0 k) := by rw [← el, el']; rfl
      rw [ec] at hs2
      obtain ⟨t1, t2⟩ := trL.sp _ _ hs2
      obtain ⟨t3, t4⟩ := trL.sp _ _ t2
      obtain ⟨t5, t6⟩ := trL.sp _ _ t4
      have el1 : (pLine T n a).2.2.1.length = (pE T n a).2.2.1.length + (1 + ((pE T n ((pE T n a).1 + 1)).2.2.1.length + 1)) := by rw [ec, List.length_append, List.length_append, List.length_append]; rfl
      have e63 : [(63 : Int32)].length = 1 := rfl
      obtain ⟨f1, u1, y1, a1, a2, a3, a4, a5⟩ := vseg s w h0 k L (pE T n a).2.2.1 [] _ m c.length 0 y f t1 G4 (G5 _ []) trivial k0 (by show 0 + _ ≤ 121; omega) hy (by omega) (by omega) (by omega)
      rw [a1]
      have a4 : f1 8 0 = (pE T n a).2.2.2 (vN s w h0 k) := a4.1
      obtain ⟨m1, em1⟩ : ∃ z : Nat, m - (pE T n a).2.2.1.length = z + 1 := ⟨m - (pE T n a).2.2.1.length - 1, by omega⟩
      rw [em1, vquest s w h0 k L a3 (by rw [a5 4 (by decide)]; omega) (by rw [a5 7 (by decide)]; exact t3.1), a4]
      have k1 : (1 : Int32).toInt = 1 := by decide
      have ey1 : (y1 + 1).toInt = ((c.length + (pE T n a).2.2.1.length + 1 : Nat) : Int) := (bn_addI (by omega) (by omega)).trans (by omega)
      by_cases z : ((pE T n a).2.2.2 (vN s w h0 k)).toInt = 0
      · rw [if_pos z]
        obtain ⟨y2, b1, b2⟩ := vskip s w h0 k L 0 (pE T n ((pE T n a).1 + 1)).2.2.1 m1 (c.length + (pE T n a).2.2.1.length + 1) (y1 + 1) f1 (by rw [a5 7 (by decide)]; exact t5) W4 ey1 (by rw [a5 4 (by decide)]; omega) (by rw [a5 4 (by decide)]; omega) (by omega)
        obtain ⟨m2, em2⟩ : ∃ z : Nat, m1 - (pE T n ((pE T n a).1 + 1)).2.2.1.length = z + 1 := ⟨m1 - (pE T n ((pE T n a).1 + 1)).2.2.1.length - 1, by omega⟩
        rw [b1, em2, vend1 s w h0 k L b2 (by rw [a5 4 (by decide)]; omega) (by rw [a5 7 (by decide)]; exact t6.1)]
        have ey2 : (y2 + 1).toInt = y2.toInt + 1 := (bn_addI (by omega) (by omega)).trans (by omega)
        exact go m2 (y2 + 1) f1 hl (by rw [eh]; exact decide_eq_false (fun q => q z)) a5 (by rw [List.length_append]; omega) (by rw [List.length_append]; omega)
      · rw [if_neg z]
        obtain ⟨f2, u2, y2, b1, b2, b3, b4, b5⟩ := vseg s w h0 k L (pE T n ((pE T n a).1 + 1)).2.2.1 [] _ m1 (c.length + (pE T n a).2.2.1.length + 1) 0 (y1 + 1) f1 (by rw [a5 7 (by decide)]; exact t5) W4 (W5 _ []) trivial k0 (by show 0 + _ ≤ 121; omega) ey1 (by rw [a5 4 (by decide)]; omega) (by rw [a5 4 (by decide)]; omega) (by omega)
        obtain ⟨m2, em2⟩ : ∃ z : Nat, m1 - (pE T n ((pE T n a).1 + 1)).2.2.1.length = z + 1 := ⟨m1 - (pE T n ((pE T n a).1 + 1)).2.2.1.length - 1, by omega⟩
        rw [b1, em2, vend0 s w h0 k L b3 (by rw [b5 4 (by decide), a5 4 (by decide)]; omega) (by rw [b5 7 (by decide), a5 7 (by decide)]; exact t6.1), given hl (by rw [eh]; exact decide_eq_true z), ev]
        exact b4.1
    · rw [if_neg cc] at el'
      have hl2 := hl
      rw [← el, el'] at hl2
      obtain ⟨-, -, -, G4, G5⟩ := G hl2
      have ec : (pLine T n a).2.2.1 = (pE T n a).2.2.1 ++ [59] := by rw [← el, el']; rfl
      have eh : (pLine T n a).2.2.2.1 (vN s w h0 k) = true := by rw [← el, el']; rfl
      have ev : (pLine T n a).2.2.2.2 (vN s w h0 k) = (pE T n a).2.2.2 (vN s w h0 k) := by rw [← el, el']; rfl
      rw [ec] at hs2
      obtain ⟨t1, t2⟩ := trL.sp _ _ hs2
      have el1 : (pLine T n a).2.2.1.length = (pE T n a).2.2.1.length + 1 := by rw [ec, List.length_append]; rfl
      obtain ⟨f1, u1, y1, a1, a2, a3, a4, a5⟩ := vseg s w h0 k L (pE T n a).2.2.1 [] _ m c.length 0 y f t1 G4 (G5 _ []) trivial k0 (by show 0 + _ ≤ 121; omega) hy (by omega) (by omega) (by omega)
      obtain ⟨m1, em1⟩ : ∃ z : Nat, m - (pE T n a).2.2.1.length = z + 1 := ⟨m - (pE T n a).2.2.1.length - 1, by omega⟩
      rw [a1, em1, vend0 s w h0 k L a3 (by rw [a5 4 (by decide)]; omega) (by rw [a5 7 (by decide)]; exact t2.1), given hl eh, ev]
      exact a4.1
/-- the class's signs give what the text gives -/
theorem vvalue {T : Nat → Int32} {n : Nat} (s w h k : Int32) (f : sg_F) (L : sg_L) (hk : (pLaw T n).2.1 = true) (hc : trL (f 7) 0 (pLaw T n).2.2.1) (hd : (f 4 9).toInt = (pLaw T n).2.2.1.length) (h1 : (pLaw T n).2.2.1.length ≤ 121) : (sX5_valueOf s w h k f L).1 = (pLaw T n).2.2.2 (vN s w h k) := by
  unfold sX5_valueOf
  exact vlines s w h k L 122 0 _ _ [] 122 0 f hk rfl rfl hc hd h1 (by decide) (by show (pLaw T n).2.2.1.length < 122 + 0; omega)
theorem vvalue_K (s w h k : Int32) (L : sg_L) : ∀ (m : Nat) (z t y : Int32) (f : sg_F) (q : Nat), q ≠ 8 → (sX5_valueOf_l9 s w h k m z t y f L).2 q = f q := by
  intro m
  induction m with
  | zero => intro z t y f q _; rfl
  | succ m ih =>
    intro z t y f q hq
    have b191 : ∀ (z t y : Int32) (g : sg_F), (sX5_valueOf_b191 (sX5_valueOf_l9 s w h k m) s w h k z t y g L).2 q = g q := by
      intro z t y g
      unfold sX5_valueOf_b191; (repeat first | rw [spl_d] | rw [spl2_d])
      exact ih _ _ _ _ q hq
    have b93 : ∀ (z t y c : Int32) (g : sg_F), (sX5_valueOf_b93 (sX5_valueOf_l9 s w h k m) s w h k z t y c g L).2 q = g q := by
      intro z t y c g
      unfold sX5_valueOf_b93; (repeat first | rw [spl_d] | rw [spl2_d])
      (repeat' split) <;> first | rfl | exact b191 _ _ _ _ | (rw [b191]; exact sg_up_n hq)
    have b46 : ∀ (z t y c : Int32) (g : sg_F), (sX5_valueOf_b46 (sX5_valueOf_l9 s w h k m) s w h k z t y c g L).2 q = g q := by
      intro z t y c g
      unfold sX5_valueOf_b46; (repeat first | rw [spl_d] | rw [spl2_d])
      (repeat' split) <;> first | rfl | exact b191 _ _ _ _ | exact b93 _ _ _ _ _
    show (sX5_valueOf_h9 s w h k (sX5_valueOf_l9 s w h k m) z t y f L).2 q = f q
    unfold sX5_valueOf_h9; (repeat first | rw [spl_d] | rw [spl2_d])
    (repeat' split) <;> first | rfl | exact b46 _ _ _ _ _
