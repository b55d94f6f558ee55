/-! THE LAW: a text, what is read in it, and what it gives, as functions of the text alone. pR: where reading stands behind, whether no fault was met (else it stands at the fault), the signs, the value by names -/
abbrev pV : Type := (Nat → Int32) → Int32
abbrev pR : Type := Nat × Bool × List Int32 × pV
def pnx (T : Nat → Int32) (n a : Nat) : Int := if a < n then (T a).toInt else -1
def pwk (s : Int) (a b : Int32) : Int32 := if s = 42 then a * b else if s = 47 then (if b.toInt = 0 then 0 else a / b) else if s = 37 then (if b.toInt = 0 then 0 else a - a / b * b) else if s = 43 then a + b else if s = 45 then a - b else if s = 60 then (if a.toInt < b.toInt then 1 else 0) else if s = 61 then (if a.toInt = b.toInt then 1 else 0) else if s = 62 then (if b.toInt < a.toInt then 1 else 0) else if s = 38 then (if a.toInt = 0 then 0 else if b.toInt = 0 then 0 else 1) else (if a.toInt = 0 then (if b.toInt = 0 then 0 else 1) else 1)
theorem pwk_42 {s : Int} {a b : Int32} (h : s = 42) : pwk s a b = a * b := by
  unfold pwk
  rw [if_pos h]
theorem pwk_43 {s : Int} {a b : Int32} (h : s = 43) : pwk s a b = a + b := by
  unfold pwk
  rw [if_neg (show ¬ s = 42 from by omega), if_neg (show ¬ s = 47 from by omega), if_neg (show ¬ s = 37 from by omega), if_pos h]
theorem pwk_45 {s : Int} {a b : Int32} (h : s = 45) : pwk s a b = a - b := by
  unfold pwk
  rw [if_neg (show ¬ s = 42 from by omega), if_neg (show ¬ s = 47 from by omega), if_neg (show ¬ s = 37 from by omega), if_neg (show ¬ s = 43 from by omega), if_pos h]
theorem pwk_47 {s : Int} {a b : Int32} (h : s = 47) : pwk s a b = if b.toInt = 0 then 0 else a / b := by
  unfold pwk
  rw [if_neg (show ¬ s = 42 from by omega), if_pos h]
theorem pwk_37 {s : Int} {a b : Int32} (h : s = 37) : pwk s a b = if b.toInt = 0 then 0 else a - a / b * b := by
  unfold pwk
  rw [if_neg (show ¬ s = 42 from by omega), if_neg (show ¬ s = 47 from by omega), if_pos h]
theorem pwk_60 {s : Int} {a b : Int32} (h : s = 60) : pwk s a b = if a.toInt < b.toInt then 1 else 0 := by
  unfold pwk
  rw [if_neg (show ¬ s = 42 from by omega), if_neg (show ¬ s = 47 from by omega), if_neg (show ¬ s = 37 from by omega), if_neg (show ¬ s = 43 from by omega), if_neg (show ¬ s = 45 from by omega), if_pos h]
theorem pwk_61 {s : Int} {a b : Int32} (h : s = 61) : pwk s a b = if a.toInt = b.toInt then 1 else 0 := by
  unfold pwk
  rw [if_neg (show ¬ s = 42 from by omega), if_neg (show ¬ s = 47 from by omega), if_neg (show ¬ s = 37 from by omega), if_neg (show ¬ s = 43 from by omega), if_neg (show ¬ s = 45 from by omega), if_neg (show ¬ s = 60 from by omega), if_pos h]
theorem pwk_62 {s : Int} {a b : Int32} (h : s = 62) : pwk s a b = if b.toInt < a.toInt then 1 else 0 := by
  unfold pwk
  rw [if_neg (show ¬ s = 42 from by omega), if_neg (show ¬ s = 47 from by omega), if_neg (show ¬ s = 37 from by omega), if_neg (show ¬ s = 43 from by omega), if_neg (show ¬ s = 45 from by omega), if_neg (show ¬ s = 60 from by omega), if_neg (show ¬ s = 61 from by omega), if_pos h]
theorem pwk_38 {s : Int} {a b : Int32} (h : s = 38) : pwk s a b = if a.toInt = 0 then 0 else if b.toInt = 0 then 0 else 1 := by
  unfold pwk
  rw [if_neg (show ¬ s = 42 from by omega), if_neg (show ¬ s = 47 from by omega), if_neg (show ¬ s = 37 from by omega), if_neg (show ¬ s = 43 from by omega), if_neg (show ¬ s = 45 from by omega), if_neg (show ¬ s = 60 from by omega), if_neg (show ¬ s = 61 from by omega), if_neg (show ¬ s = 62 from by omega), if_pos h]
theorem pwk_124 {s : Int} {a b : Int32} (h : s = 124) : pwk s a b = if a.toInt = 0 then (if b.toInt = 0 then 0 else 1) else 1 := by
  unfold pwk
  rw [if_neg (show ¬ s = 42 from by omega), if_neg (show ¬ s = 47 from by omega), if_neg (show ¬ s = 37 from by omega), if_neg (show ¬ s = 43 from by omega), if_neg (show ¬ s = 45 from by omega), if_neg (show ¬ s = 60 from by omega), if_neg (show ¬ s = 61 from by omega), if_neg (show ¬ s = 62 from by omega), if_neg (show ¬ s = 38 from by omega)]
def pS (k : Nat) (z : Int) : Bool := match k with
  | 0 => decide (z = 42 ∨ z = 47 ∨ z = 37)
  | 1 => decide (z = 43 ∨ z = 45)
  | 2 => decide (z = 60 ∨ z = 61 ∨ z = 62)
  | 3 => decide (z = 38)
  | _ => decide (z = 124)
def pbin (z : Int) : Prop := z = 42 ∨ z = 47 ∨ z = 37 ∨ z = 43 ∨ z = 45 ∨ z = 60 ∨ z = 61 ∨ z = 62 ∨ z = 38 ∨ z = 124
theorem pS_bin {k : Nat} {z : Int} (h : pS k z = true) : pbin z := by
  unfold pS at h
  unfold pbin
  split at h <;> (have h := of_decide_eq_true h; omega)
theorem pS_0 {z : Int} (h : z = 42 ∨ z = 47 ∨ z = 37) : pS 0 z = true := decide_eq_true h
theorem pS_0n {z : Int} (h : ¬ (z = 42 ∨ z = 47 ∨ z = 37)) : ¬ pS 0 z = true := fun w => h (of_decide_eq_true w)
theorem pS_1 {z : Int} (h : z = 43 ∨ z = 45) : pS 1 z = true := decide_eq_true h
theorem pS_1n {z : Int} (h : ¬ (z = 43 ∨ z = 45)) : ¬ pS 1 z = true := fun w => h (of_decide_eq_true w)
theorem pS_2 {z : Int} (h : z = 60 ∨ z = 61 ∨ z = 62) : pS 2 z = true := decide_eq_true h
theorem pS_2n {z : Int} (h : ¬ (z = 60 ∨ z = 61 ∨ z = 62)) : ¬ pS 2 z = true := fun w => h (of_decide_eq_true w)
theorem pS_3 {z : Int} (h : z = 38) : pS 3 z = true := decide_eq_true h
theorem pS_3n {z : Int} (h : ¬ (z = 38)) : ¬ pS 3 z = true := fun w => h (of_decide_eq_true w)
theorem pS_4 {z : Int} (h : z = 124) : pS 4 z = true := decide_eq_true h
theorem pS_4n {z : Int} (h : ¬ (z = 124)) : ¬ pS 4 z = true := fun w => h (of_decide_eq_true w)
def pLoop (S : Int → Bool) (op : Nat → pR) (T : Nat → Int32) (n : Nat) : Nat → pR → pR
  | 0, r => r
  | q + 1, r => if r.2.1 = true then (if S (pnx T n r.1) = true then pLoop S op T n q ((op (r.1 + 1)).1, (op (r.1 + 1)).2.1, r.2.2.1 ++ (op (r.1 + 1)).2.2.1 ++ [T r.1], fun N => pwk (pnx T n r.1) (r.2.2.2 N) ((op (r.1 + 1)).2.2.2 N)) else r) else r
def pDig (T : Nat → Int32) (n : Nat) : Nat → Nat → Int32 → Nat × Int32
  | 0, a, v => (a, v)
  | q + 1, a, v => if 48 ≤ pnx T n a ∧ pnx T n a ≤ 57 then pDig T n q (a + 1) (v * 10 + T a - 48) else (a, v)
def pni (s : Int) : Nat := if s = 100 then 0 else if s = 117 then 1 else if s = 115 then 2 else if s = 119 then 3 else if s = 104 then 4 else 5
def pnam (s : Int) : Prop := s = 100 ∨ s = 117 ∨ s = 115 ∨ s = 119 ∨ s = 104 ∨ s = 107
def pbad (a : Nat) : pR := (a, false, [], fun _ => 0)
noncomputable def pOpd (o : Bool) (E O : Nat → pR) (T : Nat → Int32) (n a : Nat) : pR :=
  if 48 ≤ pnx T n a ∧ pnx T n a ≤ 57 then ((pDig T n 4 a 0).1, true, [1000 + (pDig T n 4 a 0).2], fun _ => (pDig T n 4 a 0).2) else
  if pnx T n a = 100 ∨ pnx T n a = 117 ∨ pnx T n a = 115 ∨ pnx T n a = 119 ∨ pnx T n a = 104 ∨ pnx T n a = 107 then (a + 1, true, [T a], fun N => N (pni (pnx T n a))) else
  if o = true ∧ pnx T n a = 40 then (if (E (a + 1)).2.1 = true then (if pnx T n (E (a + 1)).1 = 41 then ((E (a + 1)).1 + 1, true, (E (a + 1)).2.2.1, (E (a + 1)).2.2.2) else pbad (E (a + 1)).1) else pbad (E (a + 1)).1) else
  if o = true ∧ pnx T n a = 33 then ((O (a + 1)).1, (O (a + 1)).2.1, (O (a + 1)).2.2.1 ++ [33], fun N => if ((O (a + 1)).2.2.2 N).toInt = 0 then 1 else 0) else
  if o = true ∧ pnx T n a = 45 then ((O (a + 1)).1, (O (a + 1)).2.1, (O (a + 1)).2.2.1 ++ [126], fun N => -((O (a + 1)).2.2.2 N)) else pbad a
noncomputable def pChain (k q : Nat) (op : Nat → pR) (T : Nat → Int32) (n a : Nat) : pR := pLoop (pS k) op T n q (op a)
noncomputable def pExp (op : Nat → pR) (T : Nat → Int32) (n : Nat) : Nat → pR := pChain 4 121 (pChain 3 121 (pChain 2 1 (pChain 1 121 (pChain 0 121 op T n) T n) T n) T n) T n
noncomputable def pO (T : Nat → Int32) (n : Nat) : Nat → Nat → pR
  | 0 => pOpd false pbad pbad T n
  | r + 1 => pOpd true (pExp (pO T n r) T n) (pO T n r) T n
/-! signs at work on values: the latest first -/
def pnv (N : Nat → Int32) (s : Int32) : Int32 := if s.toInt = 100 ∨ s.toInt = 117 ∨ s.toInt = 115 ∨ s.toInt = 119 ∨ s.toInt = 104 ∨ s.toInt = 107 then N (pni s.toInt) else s - 1000
def pex1 (N : Nat → Int32) (s : Int32) (st : List Int32) : Option (List Int32) :=
  if s.toInt = 42 ∨ s.toInt = 47 ∨ s.toInt = 37 ∨ s.toInt = 43 ∨ s.toInt = 45 ∨ s.toInt = 60 ∨ s.toInt = 61 ∨ s.toInt = 62 ∨ s.toInt = 38 ∨ s.toInt = 124 then (match st with
    | b :: a :: r => some (pwk s.toInt a b :: r)
    | _ => none) else
  if s.toInt = 33 then (match st with
    | a :: r => some ((if a.toInt = 0 then 1 else 0) :: r)
    | _ => none) else
  if s.toInt = 126 then (match st with
    | a :: r => some (-a :: r)
    | _ => none) else some (pnv N s :: st)
def pex (N : Nat → Int32) : List Int32 → List Int32 → Option (List Int32)
  | [], st => some st
  | s :: c, st => (pex1 N s st).bind (pex N c)
theorem pex_app {N : Nat → Int32} {d : List Int32} : ∀ (c st s1 : List Int32), pex N c st = some s1 → pex N (c ++ d) st = pex N d s1 := by
  intro c
  induction c with
  | nil =>
    intro st s1 h
    have h : some st = some s1 := h
    obtain rfl := Option.some.inj h
    rfl
  | cons s c ih =>
    intro st s1 h
    have h : (pex1 N s st).bind (pex N c) = some s1 := h
    show (pex1 N s st).bind (pex N (c ++ d)) = _
    cases e : pex1 N s st with
    | none => rw [e] at h; exact absurd h (by intro z; cases z)
    | some t => rw [e] at h; exact ih t s1 h
theorem pex_one {N : Nat → Int32} {s : Int32} {st t : List Int32} (h : pex1 N s st = some t) : pex N [s] st = some t := by
  show (pex1 N s st).bind (pex N []) = some t
  rw [h]; rfl
theorem pex1_bin {N : Nat → Int32} {s a b : Int32} {r : List Int32} (h : pbin s.toInt) : pex1 N s (b :: a :: r) = some (pwk s.toInt a b :: r) := by
  unfold pex1
  unfold pbin at h
  rw [if_pos h]
theorem pnx_lt {T : Nat → Int32} {n a : Nat} (h : pnx T n a ≠ -1) : a < n ∧ pnx T n a = (T a).toInt := by
  unfold pnx at h ⊢
  by_cases c : a < n
  · rw [if_pos c]; exact ⟨c, rfl⟩
  · rw [if_neg c] at h; exact absurd rfl h
/-- what is known of reading from a on -/
def pG (n : Nat) (r : pR) (a : Nat) : Prop := r.2.1 = true → a < r.1 ∧ r.1 ≤ n ∧ r.2.2.1.length + a ≤ r.1 ∧ (∀ s : Int32, s ∈ r.2.2.1 → s.toInt ≠ 59 ∧ s.toInt ≠ 63) ∧ ∀ (N : Nat → Int32) (st : List Int32), pex N r.2.2.1 st = some (r.2.2.2 N :: st)
theorem pLoop_G {k n : Nat} {op : Nat → pR} {T : Nat → Int32} (ho : ∀ a : Nat, pG n (op a) a) : ∀ (q : Nat) (r : pR) (a : Nat), pG n r a → pG n (pLoop (pS k) op T n q r) a := by
  intro q
  induction q with
  | zero => intro r a h; exact h
  | succ q ih =>
    intro r a h
    show pG n (if r.2.1 = true then (if pS k (pnx T n r.1) = true then pLoop (pS k) op T n q ((op (r.1 + 1)).1, (op (r.1 + 1)).2.1, r.2.2.1 ++ (op (r.1 + 1)).2.2.1 ++ [T r.1], fun N => pwk (pnx T n r.1) (r.2.2.2 N) ((op (r.1 + 1)).2.2.2 N)) else r) else r) a
    by_cases c1 : r.2.1 = true
    · rw [if_pos c1]
      by_cases c2 : pS k (pnx T n r.1) = true
      · rw [if_pos c2]
        refine ih _ a (fun hw => ?_)
        have hb := pS_bin c2
        obtain ⟨g1, g2⟩ := pnx_lt (T := T) (n := n) (a := r.1) (by unfold pbin at hb; omega)
        obtain ⟨h1, h2, h3, h4, h5⟩ := h c1
        obtain ⟨k1, k2, k3, k4, k5⟩ := ho (r.1 + 1) hw
        refine ⟨by show a < (op (r.1 + 1)).1; omega, k2, ?_, ?_, ?_⟩
        · show (r.2.2.1 ++ (op (r.1 + 1)).2.2.1 ++ [T r.1]).length + a ≤ (op (r.1 + 1)).1
          rw [List.length_append, List.length_append]
          have : [T r.1].length = 1 := rfl
          omega
        · intro s hs
          have hs : s ∈ r.2.2.1 ++ (op (r.1 + 1)).2.2.1 ++ [T r.1] := hs
          rcases List.mem_append.mp hs with hs | hs
          · rcases List.mem_append.mp hs with hs | hs
            · exact h4 s hs
            · exact k4 s hs
          · have e := List.mem_singleton.mp hs
            rw [e, ← g2]
            unfold pbin at hb
            omega
        · intro N st
          show pex N (r.2.2.1 ++ (op (r.1 + 1)).2.2.1 ++ [T r.1]) st = some (pwk (pnx T n r.1) (r.2.2.2 N) ((op (r.1 + 1)).2.2.2 N) :: st)
          rw [List.append_assoc, pex_app _ _ _ (h5 N st), pex_app _ _ _ (k5 N _)]
          refine pex_one ?_
          rw [pex1_bin (by rw [← g2]; exact hb), g2]
      · rw [if_neg c2]; exact h
    · rw [if_neg c1]; exact h
theorem pDig_le {T : Nat → Int32} {n : Nat} : ∀ (q a : Nat) (v : Int32), a ≤ (pDig T n q a v).1 ∧ (a ≤ n → (pDig T n q a v).1 ≤ n) := by
  intro q
  induction q with
  | zero => intro a v; exact ⟨Nat.le_refl _, fun h => h⟩
  | succ q ih =>
    intro a v
    show a ≤ (if 48 ≤ pnx T n a ∧ pnx T n a ≤ 57 then pDig T n q (a + 1) (v * 10 + T a - 48) else (a, v)).1 ∧ (a ≤ n → (if 48 ≤ pnx T n a ∧ pnx T n a ≤ 57 then pDig T n q (a + 1) (v * 10 + T a - 48) else (a, v)).1 ≤ n)
    by_cases c : 48 ≤ pnx T n a ∧ pnx T n a ≤ 57
    · rw [if_pos c]
      have g := (pnx_lt (T := T) (n := n) (a := a) (by omega)).1
      have h := ih (a + 1) (v * 10 + T a - 48)
      exact ⟨by omega, fun _ => h.2 (by omega)⟩
    · rw [if_neg c]; exact ⟨Nat.le_refl _, fun h => h⟩
def pbd (q : Nat) : Int := match q with
  | 4 => 1
  | 3 => 10
  | 2 => 100
  | 1 => 1000
  | _ => 10000
theorem pDig_b {T : Nat → Int32} {n : Nat} : ∀ (q a : Nat) (v : Int32), q ≤ 4 → 0 ≤ v.toInt → v.toInt < pbd q → 0 ≤ (pDig T n q a v).2.toInt ∧ (pDig T n q a v).2.toInt < 10000 := by
  intro q
  induction q with
  | zero => intro a v _ h1 h2; exact ⟨h1, h2⟩
  | succ q ih =>
    intro a v hq h1 h2
    show 0 ≤ (if 48 ≤ pnx T n a ∧ pnx T n a ≤ 57 then pDig T n q (a + 1) (v * 10 + T a - 48) else (a, v)).2.toInt ∧ (if 48 ≤ pnx T n a ∧ pnx T n a ≤ 57 then pDig T n q (a + 1) (v * 10 + T a - 48) else (a, v)).2.toInt < 10000
    have hb : pbd (q + 1) * 10 = pbd q ∧ pbd (q + 1) ≤ 1000 := by
      rcases (show q = 0 ∨ q = 1 ∨ q = 2 ∨ q = 3 from by omega) with rfl | rfl | rfl | rfl <;> decide
    by_cases c : 48 ≤ pnx T n a ∧ pnx T n a ≤ 57
    · rw [if_pos c]
      have g := (pnx_lt (T := T) (n := n) (a := a) (by omega)).2
      have k10 : (10 : Int32).toInt = 10 := by decide
      have k48 : (48 : Int32).toInt = 48 := by decide
      have e1 : (v * 10).toInt = v.toInt * 10 := bn_mulI k10 (by omega) (by omega)
      have e2 : (v * 10 + T a).toInt = (v * 10).toInt + (T a).toInt := bn_addI (by omega) (by omega)
      have e3 : (v * 10 + T a - 48).toInt = (v * 10 + T a).toInt - 48 := (bn_subI (by omega) (by omega)).trans (by omega)
      exact ih (a + 1) _ (by omega) (by omega) (by omega)
    · rw [if_neg c]; exact ⟨h1, by show v.toInt < 10000; omega⟩
theorem pbad_G {n a : Nat} {r : pR} (h : r.2.1 = false) : pG n r a := fun z => by rw [h] at z; cases z
theorem pOpd_G {o : Bool} {E O : Nat → pR} {T : Nat → Int32} {n : Nat} (hE : ∀ a : Nat, pG n (E a) a) (hO : ∀ a : Nat, pG n (O a) a) (a : Nat) : pG n (pOpd o E O T n a) a := by
  unfold pOpd
  by_cases c1 : 48 ≤ pnx T n a ∧ pnx T n a ≤ 57
  · rw [if_pos c1]
    have g := pnx_lt (T := T) (n := n) (a := a) (by omega)
    have e : pDig T n 4 a 0 = pDig T n 3 (a + 1) (0 * 10 + T a - 48) := by
      show (if 48 ≤ pnx T n a ∧ pnx T n a ≤ 57 then pDig T n 3 (a + 1) (0 * 10 + T a - 48) else (a, 0)) = _
      rw [if_pos c1]
    have l := pDig_le (T := T) (n := n) 3 (a + 1) (0 * 10 + T a - 48)
    have b := pDig_b (T := T) (n := n) 4 a 0 (Nat.le_refl _) (by decide) (by decide)
    rw [← e] at l
    have k1000 : (1000 : Int32).toInt = 1000 := by decide
    have e1 : (1000 + (pDig T n 4 a 0).2).toInt = 1000 + (pDig T n 4 a 0).2.toInt := (bn_addI (by omega) (by omega)).trans (by omega)
    intro _
    refine ⟨by show a < (pDig T n 4 a 0).1; omega, l.2 (by omega), ?_, ?_, ?_⟩
    · show 1 + a ≤ (pDig T n 4 a 0).1; omega
    · intro s hs
      have e := List.mem_singleton.mp hs
      rw [e]; omega
    · intro N st
      refine pex_one ?_
      unfold pex1
      rw [if_neg (by omega), if_neg (by omega), if_neg (by omega)]
      unfold pnv
      rw [if_neg (by omega)]
      have e2 : (1000 + (pDig T n 4 a 0).2 - 1000).toInt = (1000 + (pDig T n 4 a 0).2).toInt - 1000 := (bn_subI (by omega) (by omega)).trans (by omega)
      rw [show 1000 + (pDig T n 4 a 0).2 - 1000 = (pDig T n 4 a 0).2 from Int32.toInt_inj.mp (by omega)]
  rw [if_neg c1]
  by_cases c2 : pnx T n a = 100 ∨ pnx T n a = 117 ∨ pnx T n a = 115 ∨ pnx T n a = 119 ∨ pnx T n a = 104 ∨ pnx T n a = 107
  · rw [if_pos c2]
    have g := pnx_lt (T := T) (n := n) (a := a) (by omega)
    intro _
    refine ⟨by show a < a + 1; omega, by show a + 1 ≤ n; omega, by show 1 + a ≤ a + 1; omega, ?_, ?_⟩
    · intro s hs
      have e := List.mem_singleton.mp hs
      rw [e, ← g.2]; omega
    · intro N st
      refine pex_one ?_
      unfold pex1
      rw [← g.2, if_neg (by omega), if_neg (by omega), if_neg (by omega)]
      unfold pnv
      rw [← g.2, if_pos c2]
  rw [if_neg c2]
  by_cases c3 : o = true ∧ pnx T n a = 40
  · rw [if_pos c3]
    by_cases d1 : (E (a + 1)).2.1 = true
    · rw [if_pos d1]
      by_cases d2 : pnx T n (E (a + 1)).1 = 41
      · rw [if_pos d2]
        have g := pnx_lt (T := T) (n := n) (a := (E (a + 1)).1) (by omega)
        obtain ⟨h1, h2, h3, h4, h5⟩ := hE (a + 1) d1
        intro _
        exact ⟨by show a < (E (a + 1)).1 + 1; omega, by show (E (a + 1)).1 + 1 ≤ n; omega, by show (E (a + 1)).2.2.1.length + a ≤ (E (a + 1)).1 + 1; omega, h4, h5⟩
      · rw [if_neg d2]; exact pbad_G rfl
    · rw [if_neg d1]; exact pbad_G rfl
  rw [if_neg c3]
  by_cases c4 : o = true ∧ pnx T n a = 33
  · rw [if_pos c4]
    intro hw
    obtain ⟨h1, h2, h3, h4, h5⟩ := hO (a + 1) hw
    refine ⟨by show a < (O (a + 1)).1; omega, h2, ?_, ?_, ?_⟩
    · show ((O (a + 1)).2.2.1 ++ [33]).length + a ≤ (O (a + 1)).1
      rw [List.length_append]
      have : [(33 : Int32)].length = 1 := rfl
      omega
    · intro s hs
      rcases List.mem_append.mp hs with hs | hs
      · exact h4 s hs
      · have e := List.mem_singleton.mp hs
        rw [e]; decide
    · intro N st
      show pex N ((O (a + 1)).2.2.1 ++ [33]) st = some ((if ((O (a + 1)).2.2.2 N).toInt = 0 then 1 else 0) :: st)
      rw [pex_app _ _ _ (h5 N st)]
      refine pex_one ?_
      unfold pex1
      rw [if_neg (by decide), if_pos (by decide)]
  rw [if_neg c4]
  by_cases c5 : o = true ∧ pnx T n a = 45
  · rw [if_pos c5]
    intro hw
    obtain ⟨h1, h2, h3, h4, h5⟩ := hO (a + 1) hw
    refine ⟨by show a < (O (a + 1)).1; omega, h2, ?_, ?_, ?_⟩
    · show ((O (a + 1)).2.2.1 ++ [126]).length + a ≤ (O (a + 1)).1
      rw [List.length_append]
      have : [(126 : Int32)].length = 1 := rfl
      omega
    · intro s hs
      rcases List.mem_append.mp hs with hs | hs
      · exact h4 s hs
      · have e := List.mem_singleton.mp hs
        rw [e]; decide
    · intro N st
      show pex N ((O (a + 1)).2.2.1 ++ [126]) st = some (-((O (a + 1)).2.2.2 N) :: st)
      rw [pex_app _ _ _ (h5 N st)]
      refine pex_one ?_
      unfold pex1
      rw [if_neg (by decide), if_neg (by decide), if_pos (by decide)]
  rw [if_neg c5]; exact pbad_G rfl
theorem pChain_G {k q n : Nat} {op : Nat → pR} {T : Nat → Int32} (ho : ∀ a : Nat, pG n (op a) a) (a : Nat) : pG n (pChain k q op T n a) a := pLoop_G ho q _ a (ho a)
theorem pExp_G {n : Nat} {op : Nat → pR} {T : Nat → Int32} (ho : ∀ a : Nat, pG n (op a) a) (a : Nat) : pG n (pExp op T n a) a := pChain_G (pChain_G (pChain_G (pChain_G (pChain_G ho)))) a
theorem pO_G {T : Nat → Int32} {n : Nat} : ∀ (r a : Nat), pG n (pO T n r a) a := by
  intro r
  induction r with
  | zero => intro a; exact pOpd_G (fun _ => pbad_G rfl) (fun _ => pbad_G rfl) a
  | succ r ih => intro a; exact pOpd_G (pExp_G ih) ih a
