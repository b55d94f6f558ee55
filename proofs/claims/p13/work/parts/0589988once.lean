/-! ONE TURNING -/
/-- how the part stands if it is never set, and what is lost so -/
def stI (sl : Nat → Nat) (st : Nat) : Nat → Nat
  | 0 => st
  | i + 1 => sl (stI sl st i)
def pdI (lo : Nat → Nat → Int) (sl : Nat → Nat) (st : Nat) : Nat → Int
  | 0 => 0
  | i + 1 => pdI lo sl st i + lo i (stI sl st i)
theorem stI_b {sl : Nat → Nat} {st : Nat} (hsl : ∀ v : Nat, v ≤ 60 → sl v ≤ 60) (h : st ≤ 60) : ∀ i : Nat, stI sl st i ≤ 60 := by
  intro i
  induction i with
  | zero => exact h
  | succ i ih => exact hsl _ ih
theorem pdI_b {lo : Nat → Nat → Int} {sl : Nat → Nat} {st : Nat} (hlo : ∀ i v : Nat, 0 ≤ lo i v ∧ lo i v ≤ 9999) : ∀ i : Nat, 0 ≤ pdI lo sl st i ∧ pdI lo sl st i ≤ 9999 * (i : Int) := by
  intro i
  induction i with
  | zero => exact ⟨show (0 : Int) ≤ 0 by decide, show (0 : Int) ≤ 9999 * ((0 : Nat) : Int) by decide⟩
  | succ i ih =>
    have a := hlo i (stI sl st i)
    show 0 ≤ pdI lo sl st i + lo i (stI sl st i) ∧ pdI lo sl st i + lo i (stI sl st i) ≤ 9999 * ((i + 1 : Nat) : Int)
    omega
theorem pdV {lo : Nat → Nat → Int} {sl : Nat → Nat} {q : Int} {N st : Nat} : ∀ i : Nat, i ≤ N → pdI lo sl st i + Vc false lo sl q N (N - i) (stI sl st i) = Vc false lo sl q N N st := by
  intro i
  induction i with
  | zero => intro _; show 0 + Vc false lo sl q N N st = _; rw [Int.zero_add]
  | succ i ih =>
    intro hi
    have a := ih (by omega)
    rw [Vc_1 (by omega), if_neg Bool.false_ne_true] at a
    rw [← a]
    show pdI lo sl st i + lo i (stI sl st i) + Vc false lo sl q N (N - (i + 1)) (sl (stI sl st i)) = _
    omega
/-- what one turning costs -/
noncomputable def onC (m : Nat → Int32) (hl : Bool) (T : Nat → Int32) (n : Nat) (W : Nat → Int32) (N : Nat) (p : Int32) (st i v : Nat) : Int := pdI (loI m hl T n W p) (slN m p.toNatClampNeg) st i + dst (m (67 + p.toNatClampNeg)).toInt v (stI (slN m p.toNatClampNeg) st i) + Vc false (loI m hl T n W p) (slN m p.toNatClampNeg) (m (67 + p.toNatClampNeg)).toInt N (N - i) v
/-- a week with one turning, gone through by the reference -/
theorem msim {m : Nat → Int32} {S : Int} {hl : Bool} {T : Nat → Int32} {n : Nat} {W : Nat → Int32} {N : Nat} {d p k y4 y5 y6 y7 y8 y9 s0 : Int32} {LM : sg_L} {g : sg_F} (rec71 : Int32 → Int32 → Int32 → Int32 → Int32 → sg_F → sg_L → Int32 × sg_F) (rec81 : Int32 → Int32 → Int32 → Int32 → Int32 → Int32 → sg_F → sg_L → Int32 × sg_F) (h : mWk m S hl T n W N d LM g) (hl1 : mL m hl T n W p N 0 g) (hq : pOk m) (hN : N ≤ 21) (hp : 0 ≤ p.toInt ∧ p.toInt ≤ 2) (e4 : y4.toInt = (N : Int)) (h8 : -1 ≤ y8.toInt ∧ y8.toInt < N) (h9 : 0 ≤ y9.toInt ∧ y9.toInt ≤ 60) (hs : 0 ≤ s0.toInt ∧ s0.toInt ≤ 60) : ∃ c : Int32, sX12_once_l111 rec71 rec81 d p k 22 s0 0 0 y4 y5 y6 y7 y8 y9 g LM = (if y8.toInt < 0 then sX12_once_b213 rec71 rec81 d p k c y4 y8 y9 g LM else if c.toInt < y5.toInt then sX12_once_b213 rec71 rec81 d p k c y4 y8 y9 g LM else sX12_once_b245 rec71 rec81 d p k y4 y5 y6 y7 y8 y9 g LM) ∧ c.toInt = (if y8.toInt < 0 then Vc false (loI m hl T n W p) (slN m p.toNatClampNeg) (m (67 + p.toNatClampNeg)).toInt N N s0.toNatClampNeg else onC m hl T n W N p s0.toNatClampNeg y8.toNatClampNeg y9.toNatClampNeg) := by
  have k61 : (61 : Int32).toInt = 61 := by decide
  have k0 : (0 : Int32).toInt = 0 := by decide
  have cp := bn_clI hp.1
  have c9 := bn_clI h9.1
  have cs := bn_clI hs.1
  have hpr := hq (67 + p.toNatClampNeg) (by omega) (by omega)
  have sb := fun v (hv : v ≤ 60) => slN_b (m := m) (p := p.toNatClampNeg) (v := v) hq (by omega) hv
  have g67 : g 1 (67 + p.toNatClampNeg) = m (67 + p.toNatClampNeg) := h.1.2.1 _ (by omega) (by omega)
  have gs : g 1 (64 + p.toNatClampNeg) = m (64 + p.toNatClampNeg) := h.1.2.1 _ (by omega) (by omega)
  have es : ∀ v : Int32, (0 ≤ v.toInt ∧ v.toInt ≤ 60) → sX12_slipped p v g LM = slp (m (64 + p.toNatClampNeg)) v := fun v hv => by
    rw [slpM (k := p.toNatClampNeg) (by omega) (by omega) (by rw [gs]; exact hq _ (by omega) (by omega)) hv, gs]
  obtain ⟨st, est⟩ : ∃ z : Nat, z = s0.toNatClampNeg := ⟨_, rfl⟩
  have stb := fun i => stI_b (sl := slN m p.toNatClampNeg) (st := st) sb (by omega) i
  have pb := fun i => pdI_b (lo := loI m hl T n W p) (sl := slN m p.toNatClampNeg) (st := st) (fun _ _ => loI_b) i
  have vb := fun r v hr hv => Vb (m := m) (hl := hl) (T := T) (n := n) (W := W) (N := N) (p := p) (e := false) hq hN hp r v hr hv
  have go : ∀ (q j : Nat) (z w a : Int32), z.toInt = (j : Int) → j ≤ N → N - j < q → (0 ≤ w.toInt ∧ w.toInt ≤ 60) → (0 ≤ a.toInt ∧ a.toInt ≤ 9999 * (j : Int) + 5940) → ((y8.toInt < 0 ∨ (j : Int) ≤ y8.toInt) → w.toNatClampNeg = stI (slN m p.toNatClampNeg) st j ∧ a.toInt = pdI (loI m hl T n W p) (slN m p.toNatClampNeg) st j) → ((0 ≤ y8.toInt ∧ y8.toInt < (j : Int)) → a.toInt + Vc false (loI m hl T n W p) (slN m p.toNatClampNeg) (m (67 + p.toNatClampNeg)).toInt N (N - j) w.toNatClampNeg = onC m hl T n W N p st y8.toNatClampNeg y9.toNatClampNeg) → ∃ c : Int32, sX12_once_l111 rec71 rec81 d p k q w a z y4 y5 y6 y7 y8 y9 g LM = (if y8.toInt < 0 then sX12_once_b213 rec71 rec81 d p k c y4 y8 y9 g LM else if c.toInt < y5.toInt then sX12_once_b213 rec71 rec81 d p k c y4 y8 y9 g LM else sX12_once_b245 rec71 rec81 d p k y4 y5 y6 y7 y8 y9 g LM) ∧ c.toInt = (if y8.toInt < 0 then Vc false (loI m hl T n W p) (slN m p.toNatClampNeg) (m (67 + p.toNatClampNeg)).toInt N N st else onC m hl T n W N p st y8.toNatClampNeg y9.toNatClampNeg) := by
    intro q
    induction q with
    | zero => intro j z w a _ _ h; exact absurd h (by omega)
    | succ q ih =>
      intro j z w a ez hj hq' hw ha hA hB
      have e9 : sX12_once_l111 rec71 rec81 d p k (q + 1) w a z y4 y5 y6 y7 y8 y9 g LM = sX12_once_h111 rec71 rec81 d p k (sX12_once_l111 rec71 rec81 d p k q) w a z y4 y5 y6 y7 y8 y9 g LM := rfl
      rw [e9]
      unfold sX12_once_h111
      by_cases c : j < N
      case neg =>
        have : j = N := by omega
        subst this
        rw [if_neg (show ¬ z.toInt < y4.toInt from by omega)]
        refine ⟨a, rfl, ?_⟩
        by_cases x : y8.toInt < 0
        · rw [if_pos x]
          have t := (hA (Or.inl x)).2
          have v := pdV (lo := loI m hl T n W p) (sl := slN m p.toNatClampNeg) (q := (m (67 + p.toNatClampNeg)).toInt) (N := j) (st := st) j (Nat.le_refl j)
          rw [show j - j = 0 from by omega] at v
          have v0 : Vc false (loI m hl T n W p) (slN m p.toNatClampNeg) (m (67 + p.toNatClampNeg)).toInt j 0 (stI (slN m p.toNatClampNeg) st j) = 0 := rfl
          omega
        · rw [if_neg x]
          have t := hB ⟨by omega, by omega⟩
          rw [show j - j = 0 from by omega] at t
          have v0 : Vc false (loI m hl T n W p) (slN m p.toNatClampNeg) (m (67 + p.toNatClampNeg)).toInt j 0 w.toNatClampNeg = 0 := rfl
          omega
      rw [if_pos (show z.toInt < y4.toInt from by omega)]
      have ez1 := inc1 ez (by omega)
      have e61 : (61 * z).toInt = 61 * (j : Int) := (bn_mulJ k61 (by omega) (by omega)).trans (by omega)
      have cw := bn_clI hw.1
      by_cases x : z.toInt = y8.toInt
      · -- here it is set
        rw [if_pos x, spl_d, spl_d, spl_d, spl_d, spl_d, spl_d, if_pos x, spl_d, spl_d, spl_d, spl_d, spl_d, spl_d]
        have c8 := bn_clI (x := y8) (by omega)
        have a9 := ab_le h9 hw
        rw [siz_ab (x := y9 - w) (by omega), adI (k := 67) (by decide) (by decide) cp.symm (by omega), g67, es y9 h9]
        have i2 := (ixr (i := j) (v := y9.toNatClampNeg) e61 (by omega) c9.symm (by omega)).2
        rw [i2]
        obtain ⟨A1, A2⟩ := hA (Or.inr (by omega))
        have ds := dsI (c := m (67 + p.toNatClampNeg)) h9 hw hpr
        have db := dst_b hpr (u := y9.toNatClampNeg) (v := w.toNatClampNeg) (by omega) (by omega)
        have ll : (g 9 (61 * j + y9.toNatClampNeg)).toInt = loI m hl T n W p j y9.toNatClampNeg := hl1.1 j _ c (by omega)
        have lb := loI_b (m := m) (hl := hl) (T := T) (n := n) (W := W) (p := p) (i := j) (v := y9.toNatClampNeg)
        have pj := pb j
        have a1 : (a + ab (y9 - w) * m (67 + p.toNatClampNeg)).toInt = a.toInt + (ab (y9 - w) * m (67 + p.toNatClampNeg)).toInt := bn_addI (by omega) (by omega)
        have a2 : (a + ab (y9 - w) * m (67 + p.toNatClampNeg) + g 9 (61 * j + y9.toNatClampNeg)).toInt = (a + ab (y9 - w) * m (67 + p.toNatClampNeg)).toInt + (g 9 (61 * j + y9.toNatClampNeg)).toInt := bn_addI (by omega) (by omega)
        obtain ⟨s1, s2, s3⟩ := slN_I (p := p.toNatClampNeg) hq (by omega) h9
        refine ih (j + 1) (z + 1) _ _ ez1 (by omega) (by omega) ⟨s2, s3⟩ ⟨by omega, by omega⟩ (fun t => by exfalso; omega) (fun _ => ?_)
        rw [a2, a1, ds, ll, ← s1]
        unfold onC
        rw [show y8.toNatClampNeg = j from by omega, Vc_1 c, if_neg Bool.false_ne_true, ← A1, ← A2]
        omega
      · rw [if_neg x, if_neg x, spl_d, spl_d, spl_d, spl_d, spl_d, spl_d]
        rw [es w hw]
        have i2 := (ixr (i := j) (v := w.toNatClampNeg) e61 (by omega) cw.symm (by omega)).2
        rw [i2]
        have ll : (g 9 (61 * j + w.toNatClampNeg)).toInt = loI m hl T n W p j w.toNatClampNeg := hl1.1 j _ c (by omega)
        have lb := loI_b (m := m) (hl := hl) (T := T) (n := n) (W := W) (p := p) (i := j) (v := w.toNatClampNeg)
        have a2 : (a + g 9 (61 * j + w.toNatClampNeg)).toInt = a.toInt + (g 9 (61 * j + w.toNatClampNeg)).toInt := bn_addI (by omega) (by omega)
        obtain ⟨s1, s2, s3⟩ := slN_I (p := p.toNatClampNeg) hq (by omega) hw
        refine ih (j + 1) (z + 1) _ _ ez1 (by omega) (by omega) ⟨s2, s3⟩ ⟨by omega, by omega⟩ (fun t => ?_) (fun t => ?_)
        · obtain ⟨A1, A2⟩ := hA (by omega)
          refine ⟨?_, ?_⟩
          · rw [← s1, A1]; rfl
          · rw [a2, A2, ll, A1]; rfl
        · have B := hB (by omega)
          rw [Vc_1 c, if_neg Bool.false_ne_true] at B
          rw [a2, ll, ← s1]
          omega
  rw [← est]
  exact go 22 0 0 s0 0 (by decide) (Nat.zero_le _) (by omega) hs (by decide) (fun _ => ⟨est.symm, k0⟩) (fun t => by exfalso; omega)
/-- the first turning of all, both -/
theorem once_l {m : Nat → Int32} {S : Int} {hl : Bool} {T : Nat → Int32} {n N : Nat} {W : Nat → Int32} {d p k y4 s0 : Int32} {LX LM : sg_L} {g : sg_F} (hS : S ≤ 8) (hW : wOk S N W) (hq : pOk m) (hN : N ≤ 21) (hp : 0 ≤ p.toInt ∧ p.toInt ≤ 2) (e4 : y4.toInt = (N : Int)) (h : mWk m S hl T n W N d LM g) (hl1 : mL m hl T n W p N 0 g) (hs : 0 ≤ s0.toInt ∧ s0.toInt ≤ 60) (hs5 : g 5 p.toNatClampNeg = s0) : ∀ (q i : Nat) (z st y5 y6 y7 a : Int32) (f : sg_F), z.toInt = (i : Int) → i ≤ N → N - i < q → st.toNatClampNeg = stI (slN m p.toNatClampNeg) s0.toNatClampNeg i → (0 ≤ st.toInt ∧ st.toInt ≤ 60) → a.toInt = pdI (loI m hl T n W p) (slN m p.toNatClampNeg) s0.toNatClampNeg i → uR m S hl T n N W false p 0 f → (sX9_oneTurning_l49 p k q (m (67 + p.toNatClampNeg)) st y5 y6 y7 a z f LX).1 = (sX12_once_l71 d p k q y4 y5 y6 y7 z g LM).1 := by
  have k61 : (61 : Int32).toInt = 61 := by decide
  have cp := bn_clI hp.1
  have cs := bn_clI hs.1
  have hpr := hq (67 + p.toNatClampNeg) (by omega) (by omega)
  have sb := fun v (hv : v ≤ 60) => slN_b (m := m) (p := p.toNatClampNeg) (v := v) hq (by omega) hv
  have pb := fun i => pdI_b (lo := loI m hl T n W p) (sl := slN m p.toNatClampNeg) (st := s0.toNatClampNeg) (fun _ _ => loI_b) i
  intro q
  induction q with
  | zero => intro i z st y5 y6 y7 a f _ _ h; exact absurd h (by omega)
  | succ q ih =>
    intro i z st y5 y6 y7 a f ez hi hq' est hst ea hf
    have e9 : sX9_oneTurning_l49 p k (q + 1) (m (67 + p.toNatClampNeg)) st y5 y6 y7 a z f LX = sX9_oneTurning_h49 p k (sX9_oneTurning_l49 p k q) (m (67 + p.toNatClampNeg)) st y5 y6 y7 a z f LX := rfl
    have e8 : sX12_once_l71 d p k (q + 1) y4 y5 y6 y7 z g LM = sX12_once_h71 d p k (sX12_once_l71 d p k q) y4 y5 y6 y7 z g LM := rfl
    have hn := hf.1.2.1
    rw [e9, e8]
    unfold sX9_oneTurning_h49 sX12_once_h71; (repeat first | rw [spl_d] | rw [spl2_d])
    by_cases c : i < N
    case neg =>
      rw [if_neg (show ¬ z.toInt < (f 10 2).toInt from by omega), if_neg (show ¬ z.toInt < y4.toInt from by omega)]
      by_cases x : k.toInt = 0
      · rw [if_pos x, if_pos x]
      · rw [if_neg x, if_neg x]
        by_cases y : k.toInt = 1
        · rw [if_pos y, if_pos y]
        · rw [if_neg y, if_neg y]
    rw [if_pos (show z.toInt < (f 10 2).toInt from by omega), if_pos (show z.toInt < y4.toInt from by omega)]
    have cz := bn_clI (x := z) (by omega)
    have ezn : z.toNatClampNeg = i := by omega
    have e61 : (z * 61).toInt = 61 * (i : Int) := (bn_mulI k61 (by omega) (by omega)).trans (by omega)
    have cst := bn_clI hst.1
    have pi := pb i
    have inn : ∀ (r j : Nat) (w y5 y6 y7 : Int32), w.toInt = (j : Int) → j ≤ 61 → 61 - j < r → (sX9_oneTurning_l64 (sX9_oneTurning_l49 p k q) p k r w (m (67 + p.toNatClampNeg)) st y5 y6 y7 a z f LX).1 = (sX12_once_l81 (sX12_once_l71 d p k q) d p k r y4 y5 y6 y7 z w g LM).1 := by
      intro r
      induction r with
      | zero => intro j w y5 y6 y7 _ _ h; exact absurd h (by omega)
      | succ r ihr =>
        intro j w y5 y6 y7 ew hj hr
        have e7 : sX9_oneTurning_l64 (sX9_oneTurning_l49 p k q) p k (r + 1) w (m (67 + p.toNatClampNeg)) st y5 y6 y7 a z f LX = sX9_oneTurning_h64 (sX9_oneTurning_l49 p k q) p k (sX9_oneTurning_l64 (sX9_oneTurning_l49 p k q) p k r) w (m (67 + p.toNatClampNeg)) st y5 y6 y7 a z f LX := rfl
        have e6 : sX12_once_l81 (sX12_once_l71 d p k q) d p k (r + 1) y4 y5 y6 y7 z w g LM = sX12_once_h81 (sX12_once_l71 d p k q) d p k (sX12_once_l81 (sX12_once_l71 d p k q) d p k r) y4 y5 y6 y7 z w g LM := rfl
        rw [e7, e6]
        unfold sX9_oneTurning_h64 sX9_oneTurning_b119 sX12_once_h81; (repeat first | rw [spl_d] | rw [spl2_d])
        rw [if_neg (show ¬ z.toInt < 0 from by omega)]
        by_cases x : j ≤ 60
        case neg =>
          rw [if_pos (show 60 < w.toInt from by omega), if_neg (show ¬ w.toInt < 61 from by omega), ezn]
          obtain ⟨l1, l2, l3⟩ := hf.1.loss hS hW c hp hst LX
          have lb := loI_b (m := m) (hl := hl) (T := T) (n := n) (W := W) (p := p) (i := i) (v := st.toNatClampNeg)
          obtain ⟨o, eo⟩ : ∃ t : Int32 × sg_F, t = sX0_lossAt (f 11 i) p st f LX := ⟨_, rfl⟩
          rw [← eo] at l1 l2 l3 ⊢
          have es : sX0_slipped p st o.2 LX = slp (m (64 + p.toNatClampNeg)) st := by
            rw [slpX (k := p.toNatClampNeg) (by omega) (by omega), l2.1.1]
          rw [es]
          obtain ⟨s1, s2, s3⟩ := slN_I (p := p.toNatClampNeg) hq (by omega) hst
          have a2 : (a + o.1).toInt = a.toInt + o.1.toInt := bn_addI (by omega) (by omega)
          refine ih (i + 1) (z + 1) _ y5 y6 y7 _ o.2 (inc1 ez (by omega)) (by omega) (by omega) ?_ ⟨s2, s3⟩ ?_ ⟨l2, fun t v a b hv => by rw [l3 26 (by decide) (by decide)]; exact hf.2 t v a b hv⟩
          · rw [← s1, est]; rfl
          · rw [a2, l1, ea, est]; rfl
        have hw : 0 ≤ w.toInt ∧ w.toInt ≤ 60 := by omega
        have cw := bn_clI hw.1
        have ewn : w.toNatClampNeg = j := by omega
        rw [if_neg (show ¬ 60 < w.toInt from by omega), if_pos (show w.toInt < 61 from by omega), show g 5 p.toNatClampNeg = s0 from hs5, show (if (0 : Int32) ≤ w - st then w - st else 0 - (w - st)) = ab (w - st) from rfl]
        have i2 := (ixr (i := i) (v := j) e61 (by omega) ew (by omega)).2
        rw [i2]
        obtain ⟨b, b1, b2⟩ := msim (k := k) (y5 := y5) (y6 := y6) (y7 := y7) (sX12_once_l71 d p k q) (sX12_once_l81 (sX12_once_l71 d p k q) d p k r) h hl1 hq hN hp e4 (y8 := z) ⟨by omega, by omega⟩ hw hs
        rw [b1, if_neg (show ¬ z.toInt < 0 from by omega)]
        rw [if_neg (show ¬ z.toInt < 0 from by omega), ezn, ewn] at b2
        have row : (f 26 (61 * i + j)).toInt = Vc false (loI m hl T n W p) (slN m p.toNatClampNeg) (m (67 + p.toNatClampNeg)).toInt N (N - i) j := hf.2 i j (Nat.zero_le _) (by omega) x
        have vb := Vb (m := m) (hl := hl) (T := T) (n := n) (W := W) (N := N) (p := p) (e := false) hq hN hp (N - i) j (by omega) x
        have ds := dsI (c := m (67 + p.toNatClampNeg)) hw hst hpr
        rw [ewn, est] at ds
        have db := dst_b hpr (u := j) (v := stI (slN m p.toNatClampNeg) s0.toNatClampNeg i) x (stI_b sb (by omega) i)
        have a1 : (a + ab (w - st) * m (67 + p.toNatClampNeg)).toInt = a.toInt + (ab (w - st) * m (67 + p.toNatClampNeg)).toInt := bn_addI (by omega) (by omega)
        have a2 : (a + ab (w - st) * m (67 + p.toNatClampNeg) + f 26 (61 * i + j)).toInt = (a + ab (w - st) * m (67 + p.toNatClampNeg)).toInt + (f 26 (61 * i + j)).toInt := bn_addI (by omega) (by omega)
        have eb : a + ab (w - st) * m (67 + p.toNatClampNeg) + f 26 (61 * i + j) = b := Int32.toInt_inj.mp (by
          rw [a2, a1, ds, row, b2, ea]
          rfl)
        rw [eb]
        unfold sX12_once_b213 sX12_once_b245
        rw [spl_d, spl_d]
        rw [if_neg (show ¬ z.toInt < 0 from by omega)]
        by_cases y : b.toInt < y5.toInt
        · rw [if_pos y, if_pos y]
          exact ihr (j + 1) (w + 1) b z w (inc1 ew (by omega)) (by omega) (by omega)
        · rw [if_neg y, if_neg y, spl_d]
          exact ihr (j + 1) (w + 1) y5 y6 y7 (inc1 ew (by omega)) (by omega) (by omega)
    exact inn 62 0 0 y5 y6 y7 (by decide) (by decide) (by decide)
theorem t_once {fX fX1 fM fM1 : sg_F} {LX LM : sg_L} {hl : Bool} {T : Nat → Int32} {n : Nat} {d p k r1 r2 : Int32} (h : rAll fX fM LX LM) (hm : mOk (fX 2)) (hq : pOk (fX 2)) (hc : xCx (fX 2) (fX 1 3).toInt hl T n fX) (hC : mCx (fX 2) hl T n fM) (e1 : (r1, fX1) = sX11_once d p k fX LX) (e2 : (r2, fM1) = sX12_once d p k fM LM) : r1 = r2 := by
  have hb : 0 ≤ (fX 1 3).toInt ∧ (fX 1 3).toInt ≤ 8 := h.2.2.2.2.2.2 1 3
  have hid := h.2.2.2.2.2.1
  have ek := Int32.toInt_toInt64 k
  have j0 : (0 : Int64).toInt = 0 := by decide
  have j2 : (2 : Int64).toInt = 2 := by decide
  have no : ∀ x : Int32, (r1, fX1) = (x, fX) → (r2, fM1) = (x, fM) → r1 = r2 := fun x e1 e2 => by
    obtain ⟨a1, b1⟩ := Prod.mk.inj e1
    obtain ⟨a2, b2⟩ := Prod.mk.inj e2
    rw [a1, a2]
  unfold sX11_once at e1; (repeat first | rw [spl_d] at e1 | rw [spl2_d] at e1)
  unfold sX12_once at e2; (repeat first | rw [spl_d] at e2 | rw [spl2_d] at e2)
  rw [pX_isShelf, pX_isPart] at e1
  rw [pM_isPart, pM_within, ek, j0, j2] at e2
  by_cases q1 : 0 ≤ d.toInt ∧ d.toInt ≤ 5
  case neg =>
    rw [if_neg q1, if_neg zk0] at e1
    rw [mbytes, if_neg q1, if_neg (by decide), if_pos rfl] at e2
    exact no _ e1 e2
  rw [if_pos q1, if_pos rfl] at e1
  have e2n : (¬ (0 ≤ p.toInt ∧ p.toInt ≤ 2) ∨ ¬ (0 ≤ k.toInt ∧ k.toInt ≤ 2)) → (r2, fM1) = (-1, fM) := fun z => by
    have inner : ∀ x : Int32 × sg_F, (if (if 0 ≤ p.toInt ∧ p.toInt ≤ 2 then (1 : Int32) else 0) = 1 then (if (if 0 ≤ k.toInt ∧ k.toInt ≤ 2 then (1 : Int32) else 0) = 1 then x else (-1, fM)) else (-1, fM)) = (-1, fM) := fun x => by
      by_cases z1 : 0 ≤ p.toInt ∧ p.toInt ≤ 2
      · have z2 : ¬ (0 ≤ k.toInt ∧ k.toInt ≤ 2) := z.resolve_left (fun w => w z1)
        rw [if_pos z1, if_pos rfl, if_neg z2, if_neg zk0]
      · rw [if_neg z1, if_neg zk0]
    by_cases y : sX12_bytesIs d fM LM = 1
    · rw [if_pos y, inner] at e2; exact e2
    · rw [if_neg y] at e2
      by_cases y2 : sX12_bytesIs d fM LM = -1
      · rw [if_pos y2] at e2; exact e2
      · rw [if_neg y2, inner] at e2; exact e2
  by_cases q2 : 0 ≤ p.toInt ∧ p.toInt ≤ 2
  case neg => rw [if_neg q2, if_neg zk0] at e1; exact no _ e1 (e2n (Or.inl q2))
  rw [if_pos q2, if_pos rfl] at e1
  by_cases q3 : 0 ≤ k.toInt ∧ k.toInt ≤ 2
  case neg =>
    refine no (-1) ?_ (e2n (Or.inr q3))
    by_cases c1 : k.toInt < 0
    · rw [if_pos c1] at e1; exact e1
    · rw [if_neg c1, if_pos (by omega)] at e1; exact e1
  rw [if_neg (show ¬ k.toInt < 0 from by omega), if_neg (show ¬ 2 < k.toInt from by omega)] at e1
  rw [if_pos q2, if_pos q3, if_pos rfl, if_pos rfl, if_pos rfl, if_pos rfl] at e2
  rcases h.week hc hC q1 with ⟨a, b⟩ | ⟨a, b⟩ | ⟨b, W, N, f1, a, hN, hw, e, hr, -⟩
  · rw [a] at e1; dsimp only at e1; rw [if_neg (by decide)] at e1
    rw [b, if_neg (by decide), if_neg (by decide)] at e2
    exact no _ e1 e2
  · rw [a] at e1; dsimp only at e1; rw [if_neg (by decide)] at e1
    rw [b, if_neg (by decide), if_neg (by decide)] at e2
    exact no _ e1 e2
  · have hl1 := rl_s hid hw hr
    have hW := hw.2.2.2.2.2.1.W hN
    have hv : (f1 10 2).toInt = N := hw.2.2.2.2.2.2.2.2
    have hsh := hw.2.2.2.2.2.2.1
    rw [a] at e1; dsimp only at e1; rw [if_pos (by decide)] at e1
    rw [b, if_pos rfl] at e2
    have hu : uC (fX 2) (fX 1 3).toInt hl T n N W f1 := ⟨hw.1, hv, hw.2.2.2.2.2.2.2.1, hw.2.2.2.1⟩
    have hR : mWk (fX 2) (fX 1 3).toInt hl T n W N d LM fM := ⟨hC, hl1.2.2.2.1, hsh, hid.2.2.2.2.2.2⟩
    obtain ⟨s1, s2, s3⟩ := mask (p := p) hR hm hb.2 hN q2
    obtain ⟨G, eG⟩ : ∃ z : sg_F, z = sX12_asksLosses d p fM LM := ⟨_, rfl⟩
    rw [← eG] at s1 s2 s3 e2
    have g5 : G 5 = fM 5 := funext fun j => s3 5 j (by decide) (by decide) (by decide) (Or.inl (by decide))
    have cp := bn_clI q2.1
    have hpr := hq (67 + p.toNatClampNeg) (by omega) (by omega)
    have est : f1 3 p.toNatClampNeg = fM 5 p.toNatClampNeg := hw.2.2.1 _ (by omega)
    have bst := hw.2.2.2.1 p.toNatClampNeg (by omega)
    rw [est] at bst
    have cst := bn_clI bst.1
    obtain ⟨xp, xp3⟩ := xpay (e := false) (k := 0) hu hb.2 hW hq hN q2 (Or.inr ⟨rfl, by decide⟩) LX
    obtain ⟨F, eF⟩ : ∃ z : sg_F, z = sX9_pay p 0 f1 LX := ⟨_, rfl⟩
    have epr : sX0_priceOf p F LX = fX 2 (67 + p.toNatClampNeg) := by
      unfold sX0_priceOf; (repeat first | rw [spl_d] | rw [spl2_d])
      rw [adI (k := 67) (by decide) (by decide) cp.symm (by omega), eF, xp.1.1.1]
    unfold sX9_oneTurning at e1; (repeat first | rw [spl_d] at e1 | rw [spl2_d] at e1)
    rw [← eF] at e1 xp xp3
    rw [epr, xp3, est] at e1
    -- none is set: the first of the reference's
    have m0 : (-1 : Int32).toInt < 0 := by decide
    have z1 : (-1 : Int32) + 1 = 0 := by decide
    have e3 : (sX12_once_l71 d p k 23 (sX12_shiftsOf d fM LM) 0 (-2) (-2) (-1) G LM).1 = (sX12_once_l71 d p k 22 (sX12_shiftsOf d fM LM) (F 26 (fM 5 p.toNatClampNeg).toNatClampNeg) (-2) (-2) 0 G LM).1 := by
      have e8 : sX12_once_l71 d p k 23 (sX12_shiftsOf d fM LM) 0 (-2) (-2) (-1) G LM = sX12_once_h71 d p k (sX12_once_l71 d p k 22) (sX12_shiftsOf d fM LM) 0 (-2) (-2) (-1) G LM := rfl
      rw [e8]
      unfold sX12_once_h71
      rw [if_pos (show (-1 : Int32).toInt < (sX12_shiftsOf d fM LM).toInt from by omega)]
      have e7 : sX12_once_l81 (sX12_once_l71 d p k 22) d p k 62 (sX12_shiftsOf d fM LM) 0 (-2) (-2) (-1) 0 G LM = sX12_once_h81 (sX12_once_l71 d p k 22) d p k (sX12_once_l81 (sX12_once_l71 d p k 22) d p k 61) (sX12_shiftsOf d fM LM) 0 (-2) (-2) (-1) 0 G LM := rfl
      rw [e7]
      unfold sX12_once_h81
      rw [if_pos m0, if_pos (show (0 : Int32).toInt < 1 from by decide), spl_d, g5]
      obtain ⟨c, c1, c2⟩ := msim (k := k) (y5 := 0) (y6 := -2) (y7 := -2) (y9 := 0) (sX12_once_l71 d p k 22) (sX12_once_l81 (sX12_once_l71 d p k 22) d p k 61) s1 s2 hq hN q2 hsh (y8 := -1) ⟨by decide, by omega⟩ (by decide) bst
      rw [c1, if_pos m0]
      rw [if_pos m0] at c2
      unfold sX12_once_b213 sX12_once_b245
      rw [if_pos m0, spl_d]
      have e6 : ∀ y5 : Int32, sX12_once_l81 (sX12_once_l71 d p k 22) d p k 61 (sX12_shiftsOf d fM LM) y5 (-2) (-2) (-1) (0 + 1) G LM = sX12_once_h81 (sX12_once_l71 d p k 22) d p k (sX12_once_l81 (sX12_once_l71 d p k 22) d p k 60) (sX12_shiftsOf d fM LM) y5 (-2) (-2) (-1) (0 + 1) G LM := fun _ => rfl
      rw [e6]
      unfold sX12_once_h81
      rw [if_pos m0, if_neg (show ¬ ((0 : Int32) + 1).toInt < 1 from by decide), spl_d, z1]
      have row := xp.2 0 (fM 5 p.toNatClampNeg).toNatClampNeg (Nat.le_refl _) (Nat.zero_le _) (by omega)
      unfold rw_ at row
      rw [show 61 * 0 + (fM 5 p.toNatClampNeg).toNatClampNeg = (fM 5 p.toNatClampNeg).toNatClampNeg from by omega, show N - 0 = N from by omega] at row
      have ec : c = F 26 (fM 5 p.toNatClampNeg).toNatClampNeg := Int32.toInt_inj.mp (by rw [c2, row])
      rw [ec]
    have z := once_l (LX := LX) (k := k) hb.2 hW hq hN q2 hsh s1 s2 bst (by rw [g5]) 22 0 0 (fM 5 p.toNatClampNeg) (F 26 (fM 5 p.toNatClampNeg).toNatClampNeg) (-2) (-2) 0 F (by decide) (Nat.zero_le _) (by omega) rfl bst (show (0 : Int32).toInt = 0 from by decide) xp
    obtain ⟨a1, b1⟩ := Prod.mk.inj e1
    rw [a1, z, ← e3, ← e2]
