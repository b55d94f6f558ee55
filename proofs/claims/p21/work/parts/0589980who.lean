/-! WHO: settings as bits of a long, and as rows of booleans -/
theorem ofNn {r : Int32} (h : 0 ≤ r.toInt) : Int32.ofNat r.toNatClampNeg = r := Int32.toInt_inj.mp (by
  have c := bn_clI h
  have t := bn_top r
  have e : (Int32.ofNat r.toNatClampNeg).toInt = (r.toNatClampNeg : Int) := nI_toInt (n := r.toNatClampNeg) (by omega)
  omega)
theorem ofN_I {k : Nat} (h : k ≤ 100000) : (Int32.ofNat k).toInt = (k : Int) := nI_toInt (n := k) (by omega)
def mb (x : Int64) (v : Nat) : Bool := x.toBitVec.getLsbD v
theorem mb_or (x y : Int64) (v : Nat) : mb (x ||| y) v = (mb x v || mb y v) := by unfold mb; rw [Int64.toBitVec_or, BitVec.getLsbD_or]
theorem mb_and (x y : Int64) (v : Nat) : mb (x &&& y) v = (mb x v && mb y v) := by unfold mb; rw [Int64.toBitVec_and, BitVec.getLsbD_and]
theorem mb_0 (v : Nat) : mb 0 v = false := BitVec.getLsbD_zero
theorem mb_ext {x y : Int64} (h : ∀ v : Nat, v < 64 → mb x v = mb y v) : x = y := Int64.toBitVec_inj.mp (BitVec.eq_of_getLsbD_eq (fun i hi => h i hi))
theorem mb_all : ∀ v : Nat, v < 64 → mb 2305843009213693951 v = decide (v ≤ 60) := by decide +kernel
theorem mb_1 : ∀ v : Nat, v < 64 → mb 1 v = decide (v = 0) := by decide +kernel
theorem mb_c : ∀ k : Nat, k < 61 → ((1 : Int64) <<< (Int32.toInt64 (Int32.ofNat k) &&& 63)).toBitVec = BitVec.twoPow 64 k := by decide +kernel
theorem mb_z : ∀ k : Nat, k < 61 → ((0 : Int64) <<< (Int32.toInt64 (Int32.ofNat k) &&& 63)) = 0 := by decide +kernel
theorem mb_s : ∀ k : Nat, k < 61 → (Int64.toUInt64 (Int32.toInt64 (Int32.ofNat k)) &&& Int64.toUInt64 63).toNat = k := by decide +kernel
theorem mb_one {r : Int32} (h : 0 ≤ r.toInt ∧ r.toInt ≤ 60) (v : Nat) : mb ((1 : Int64) <<< (Int32.toInt64 r &&& 63)) v = decide (v = r.toNatClampNeg) := by
  have c := bn_clI h.1
  have e := mb_c r.toNatClampNeg (by omega)
  rw [ofNn h.1] at e
  unfold mb
  rw [e, BitVec.getLsbD_twoPow]
  obtain ⟨k, ek⟩ : ∃ z : Nat, z = r.toNatClampNeg := ⟨_, rfl⟩
  rw [← ek]
  have hk : k < 64 := by omega
  by_cases z : v = k
  · simp [z, hk]
  · have z1 : ¬ k = v := fun w => z w.symm
    simp [z, z1]
theorem mb_w {x : Int64} {r : Int32} (h : 0 ≤ r.toInt ∧ r.toInt ≤ 60) : ((Int64.toUInt64 (x : Int64) >>> (Int64.toUInt64 (Int32.toInt64 r) &&& Int64.toUInt64 63)).toInt64 &&& 1) = if mb x r.toNatClampNeg = true then 1 else 0 := by
  have c := bn_clI h.1
  have es := mb_s r.toNatClampNeg (by omega)
  rw [ofNn h.1] at es
  obtain ⟨s, e1⟩ : ∃ z : UInt64, z = (Int64.toUInt64 (Int32.toInt64 r) &&& Int64.toUInt64 63) := ⟨_, rfl⟩
  rw [← e1] at es ⊢
  obtain ⟨k, ek⟩ : ∃ z : Nat, z = r.toNatClampNeg := ⟨_, rfl⟩
  rw [← ek] at es ⊢
  have hk : k < 64 := by omega
  have e2 : (x.toUInt64 >>> s).toInt64.toBitVec = x.toBitVec >>> k := by
    apply BitVec.eq_of_toNat_eq
    show (x.toUInt64 >>> s).toNat = _
    rw [UInt64.toNat_shiftRight, es, Nat.mod_eq_of_lt hk, BitVec.toNat_ushiftRight]
    rfl
  have e : ∀ v : Nat, mb ((x.toUInt64 >>> s).toInt64) v = mb x (k + v) := fun v => by
    unfold mb
    rw [e2, BitVec.getLsbD_ushiftRight]
  refine mb_ext (fun v hv => ?_)
  rw [mb_and, e]
  by_cases z : v = 0
  · rw [z, Nat.add_zero]
    cases mb x k
    · rw [if_neg Bool.false_ne_true, mb_0]; rfl
    · rw [if_pos rfl]; rfl
  · have m1 : mb 1 v = false := by rw [mb_1 v hv]; exact decide_eq_false z
    rw [m1, Bool.and_false]
    cases mb x k
    · rw [if_neg Bool.false_ne_true, mb_0]
    · rw [if_pos rfl, m1]
theorem mb_t {x : Int64} {r : Int32} (h : 0 ≤ r.toInt ∧ r.toInt ≤ 60) : (lg_cmp ((Int64.toUInt64 (x : Int64) >>> (Int64.toUInt64 (Int32.toInt64 r) &&& Int64.toUInt64 63)).toInt64 &&& 1) (0 : Int64)).toInt = 0 ↔ mb x r.toNatClampNeg = false := by
  rw [mb_w h]
  have a := bn_lcmpI 1 0
  have b := bn_lcmpI 0 0
  have k0 : (0 : Int64).toInt = 0 := by decide
  have k1 : (1 : Int64).toInt = 1 := by decide
  cases mb x r.toNatClampNeg
  · rw [if_neg Bool.false_ne_true]
    exact ⟨fun _ => rfl, fun _ => by omega⟩
  · rw [if_pos rfl]
    exact ⟨fun q => by exfalso; omega, fun q => absurd q (by decide)⟩
theorem mb_n {x : Int64} : (lg_cmp x (0 : Int64)).toInt = 0 ↔ ∀ v : Nat, v < 64 → mb x v = false := by
  have a := bn_lcmpI x 0
  have k0 : (0 : Int64).toInt = 0 := by decide
  refine ⟨fun h v hv => ?_, fun h => ?_⟩
  · have e : x = 0 := Int64.toInt_inj.mp (by omega)
    rw [e, mb_0]
  · have e : x = 0 := mb_ext (fun v hv => by rw [h v hv, mb_0])
    rw [e] at a ⊢
    omega
/-- one bit put to its place -/
theorem mb_p {x : Int64} {r y : Int32} (h : 0 ≤ r.toInt ∧ r.toInt ≤ 60) (hy : 0 ≤ y.toInt ∧ y.toInt ≤ 60) (v : Nat) : mb (((Int64.toUInt64 (x : Int64) >>> (Int64.toUInt64 (Int32.toInt64 r) &&& Int64.toUInt64 63)).toInt64 &&& 1) <<< (Int32.toInt64 y &&& 63)) v = (mb x r.toNatClampNeg && decide (v = y.toNatClampNeg)) := by
  rw [mb_w h]
  have c := bn_clI hy.1
  cases mb x r.toNatClampNeg
  · rw [if_neg Bool.false_ne_true, Bool.false_and]
    have e := mb_z y.toNatClampNeg (by omega)
    rw [ofNn hy.1] at e
    rw [e, mb_0]
  · rw [if_pos rfl, Bool.true_and]
    exact mb_one hy v
/-- bits of an int -/
def mi (x : Int32) (v : Nat) : Bool := x.toBitVec.getLsbD v
theorem mi_or (x y : Int32) (v : Nat) : mi (x ||| y) v = (mi x v || mi y v) := by unfold mi; rw [Int32.toBitVec_or, BitVec.getLsbD_or]
theorem mi_0 (v : Nat) : mi 0 v = false := BitVec.getLsbD_zero
theorem mi_ext {x y : Int32} (h : ∀ v : Nat, v < 32 → mi x v = mi y v) : x = y := Int32.toBitVec_inj.mp (BitVec.eq_of_getLsbD_eq (fun i hi => h i hi))
theorem mi_c : ∀ k : Nat, k < 9 → ((1 : Int32) <<< (Int32.ofNat k &&& 31)).toBitVec = BitVec.twoPow 32 k := by decide +kernel
theorem mi_tp {k : Nat} (hk : k < 32) (v : Nat) : (BitVec.twoPow 32 k).getLsbD v = decide (v = k) := by
  rw [BitVec.getLsbD_twoPow]
  by_cases z : v = k
  · simp [z, hk]
  · have z1 : ¬ k = v := fun w => z w.symm
    simp [z, z1]
theorem mi_one {r : Int32} (h : 0 ≤ r.toInt ∧ r.toInt ≤ 8) (v : Nat) : mi ((1 : Int32) <<< (r &&& 31)) v = decide (v = r.toNatClampNeg) := by
  have c := bn_clI h.1
  have e := mi_c r.toNatClampNeg (by omega)
  rw [ofNn h.1] at e
  unfold mi
  rw [e]
  exact mi_tp (by omega) v
theorem mi_256 (v : Nat) : mi 256 v = decide (v = 8) := by
  have e : (256 : Int32).toBitVec = BitVec.twoPow 32 8 := by decide +kernel
  unfold mi
  rw [e]
  exact mi_tp (by decide) v
theorem mi_o1 (x : Int32) : (x ||| 1).toInt ≠ 0 := fun h => by
  have e : x ||| 1 = 0 := Int32.toInt_inj.mp (by rw [h]; decide)
  have a := mi_or x 1 0
  rw [e, mi_0, show mi 1 0 = true from by decide, Bool.or_true] at a
  exact absurd a (by decide)
/-- how a part stands behind a shift (8: nobody) -/
def bhv (m : Nat → Int32) (p c : Nat) (v : Int32) : Int32 := slp (m (64 + p)) (if c < 8 then tvn (m (8 * c + 6)) (m (8 * c + p)) v else v)
def bhN (m : Nat → Int32) (p c v : Nat) : Nat := (bhv m p c (Int32.ofNat v)).toNatClampNeg
theorem bhv_b {m : Nat → Int32} {p c : Nat} {v : Int32} (hm : mOk m) (hq : pOk m) (hp : p < 3) (hv : 0 ≤ v.toInt ∧ v.toInt ≤ 60) : 0 ≤ (bhv m p c v).toInt ∧ (bhv m p c v).toInt ≤ 60 := by
  have ha := hq (64 + p) (by omega) (by omega)
  unfold bhv
  by_cases z : c < 8
  · rw [if_pos z]
    obtain ⟨a, b, -⟩ := slp_b ha (tvn_b (nr := m (8 * c + 6)) ((hm c z).1 p hp) hv)
    exact ⟨a, b⟩
  · rw [if_neg z]
    obtain ⟨a, b, -⟩ := slp_b ha hv
    exact ⟨a, b⟩
theorem bhN_b {m : Nat → Int32} {p c v : Nat} (hm : mOk m) (hq : pOk m) (hp : p < 3) (hv : v ≤ 60) : bhN m p c v ≤ 60 := by
  have e : (Int32.ofNat v).toInt = (v : Int) := ofN_I (by omega)
  obtain ⟨a, b⟩ := bhv_b (c := c) (v := Int32.ofNat v) hm hq hp (by omega)
  have d := bn_clI a
  unfold bhN
  omega
/-- the sitter of the class's number -/
def cdy (y : Int32) : Nat := if y.toInt = -1 then 8 else y.toNatClampNeg
theorem xbhv {m : Nat → Int32} {p : Nat} {y v : Int32} {f : sg_F} (h2 : f 2 = m) (h27 : (f 27 2).toInt = (p : Int)) (hp : p < 3) (hy : y.toInt = -1 ∨ (0 ≤ y.toInt ∧ y.toInt ≤ 7)) (L : sg_L) : sX6_behindShift y v f L = bhv m p (cdy y) v := by
  have k6 : (6 : Int32).toInt = 6 := by decide
  unfold sX6_behindShift bhv cdy; (repeat first | rw [spl_d] | rw [spl2_d])
  by_cases z : y.toInt = -1
  · rw [if_pos z, if_pos z, slpX h27 hp, if_neg (by decide), h2]
  · have hy := hy.resolve_left z
    have c := bn_clI hy.1
    rw [if_neg z, if_neg z, slpX h27 hp, xtvn hy h27 hp, numX hy (by rw [k6]; decide), h2, if_pos (by omega), show (6 : Int32).toNatClampNeg = 6 from by decide]
theorem mbhv {m : Nat → Int32} {hl : Bool} {T : Nat → Int32} {n p : Nat} {x1 v s : Int32} {g : sg_F} (hC : mCx m hl T n g) (hm : mOk m) (hq : pOk m) (hp1 : x1.toInt = (p : Int)) (hp : p < 3) (hs : 0 ≤ s.toInt ∧ s.toInt ≤ 8) (hv : 0 ≤ v.toInt ∧ v.toInt ≤ 60) (L : sg_L) : sX12_standsBy x1 v s g L = bhv m p s.toNatClampNeg v := by
  have k6 : (6 : Int32).toInt = 6 := by decide
  have c := bn_clI hs.1
  have cp := bn_clI (x := x1) (by omega)
  have ep : x1.toNatClampNeg = p := by omega
  have ha : 0 ≤ (g 1 (64 + p)).toInt ∧ (g 1 (64 + p)).toInt ≤ 99 := by rw [hC.2.1 (64 + p) (by omega) (by omega)]; exact hq (64 + p) (by omega) (by omega)
  have eg : g 1 (64 + p) = m (64 + p) := hC.2.1 (64 + p) (by omega) (by omega)
  unfold sX12_standsBy sX12_standsBy_b31 bhv; (repeat first | rw [spl_d] | rw [spl2_d])
  by_cases z : s.toInt < 8
  · have hs7 : 0 ≤ s.toInt ∧ s.toInt ≤ 7 := by omega
    rw [if_pos z, if_pos (show s.toNatClampNeg < 8 from by omega), numM (w := x1) hs7 ⟨by omega, by omega⟩, numM (w := 6) hs7 (by rw [k6]; decide), ep, show (6 : Int32).toNatClampNeg = 6 from by decide, hC.1 s.toNatClampNeg p (by omega) (by omega), hC.1 s.toNatClampNeg 6 (by omega) (by decide)]
    have hw := (hm s.toNatClampNeg (by omega)).1 p hp
    obtain ⟨w, ew⟩ : ∃ x : Int32, x = m (8 * s.toNatClampNeg + p) := ⟨_, rfl⟩
    rw [← ew] at hw ⊢
    rw [siz_ab (x := w - v) (by have := (ab_le hw hv).1; omega), ab_sw hv hw]
    unfold tvn
    by_cases q : (m (8 * s.toNatClampNeg + 6)).toInt < (ab (v - w)).toInt
    · rw [if_pos q, if_pos q, slpM hp1 hp ha hw, eg]
    · rw [if_neg q, if_neg q, slpM hp1 hp ha hv, eg]
  · rw [if_neg z, if_neg (show ¬ s.toNatClampNeg < 8 from by omega), slpM hp1 hp ha hv, eg]
/-- where it may stand behind a shift of one -/
theorem xallB {m : Nat → Int32} {p : Nat} {y : Int32} {f : sg_F} (x : Int64) (h2 : f 2 = m) (h27 : (f 27 2).toInt = (p : Int)) (hp : p < 3) (hm : mOk m) (hq : pOk m) (hy : y.toInt = -1 ∨ (0 ≤ y.toInt ∧ y.toInt ≤ 7)) (L : sg_L) (u : Nat) : mb (sX6_allBehind x y f L) u = true ↔ ∃ v : Nat, v ≤ 60 ∧ mb x v = true ∧ bhN m p (cdy y) v = u := by
  have go : ∀ (q i : Nat) (z : Int32) (a : Int64), z.toInt = i → i ≤ 61 → 61 - i < q → (mb a u = true ↔ ∃ v : Nat, v < i ∧ mb x v = true ∧ bhN m p (cdy y) v = u) → (mb (sX6_allBehind_l6 x y q a z f L) u = true ↔ ∃ v : Nat, v ≤ 60 ∧ mb x v = true ∧ bhN m p (cdy y) v = u) := by
    intro q
    induction q with
    | zero => intro i z a _ _ h; exact absurd h (by omega)
    | succ q ih =>
      intro i z a ez hi hq' ha
      have e9 : sX6_allBehind_l6 x y (q + 1) a z f L = sX6_allBehind_h6 x y (sX6_allBehind_l6 x y q) a z f L := rfl
      have cz := bn_clI (x := z) (by omega)
      have ezn : z.toNatClampNeg = i := by omega
      have ez1 := inc1 ez (by omega)
      rw [e9]
      unfold sX6_allBehind_h6 sX6_allBehind_b38; (repeat first | rw [spl_d] | rw [spl2_d])
      by_cases c : i < 61
      case neg =>
        rw [if_pos (show 60 < z.toInt from by omega)]
        refine ha.trans ⟨fun w => ?_, fun w => ?_⟩
        · obtain ⟨v, v1, v2⟩ := w; exact ⟨v, by omega, v2⟩
        · obtain ⟨v, v1, v2⟩ := w; exact ⟨v, by omega, v2⟩
      have hz : 0 ≤ z.toInt ∧ z.toInt ≤ 60 := by omega
      rw [if_neg (show ¬ 60 < z.toInt from by omega)]
      have eo : Int32.ofNat i = z := by rw [← ezn]; exact ofNn hz.1
      by_cases b : mb x i = true
      · rw [if_neg (fun w => by have := (mb_t hz).mp w; rw [ezn, b] at this; exact absurd this (by decide)), xbhv h2 h27 hp hy]
        refine ih (i + 1) (z + 1) _ ez1 (by omega) (by omega) ?_
        have hr := bhv_b (c := cdy y) (v := z) hm hq hp hz
        rw [mb_or, mb_one hr u]
        have er : bhN m p (cdy y) i = (bhv m p (cdy y) z).toNatClampNeg := by unfold bhN; rw [eo]
        refine ⟨fun w => ?_, fun w => ?_⟩
        · rcases Bool.or_eq_true_iff.mp w with w | w
          · obtain ⟨v, v1, v2⟩ := ha.mp w; exact ⟨v, by omega, v2⟩
          · exact ⟨i, by omega, b, by rw [er]; exact (of_decide_eq_true w).symm⟩
        · obtain ⟨v, v1, v2, v3⟩ := w
          by_cases d : v = i
          · refine Bool.or_eq_true_iff.mpr (Or.inr (decide_eq_true ?_))
            rw [← er, ← d]; exact v3.symm
          · exact Bool.or_eq_true_iff.mpr (Or.inl (ha.mpr ⟨v, by omega, v2, v3⟩))
      · have b0 : mb x i = false := Bool.eq_false_iff.mpr b
        rw [if_pos ((mb_t hz).mpr (by rw [ezn]; exact b0))]
        refine ih (i + 1) (z + 1) a ez1 (by omega) (by omega) (ha.trans ⟨fun w => ?_, fun w => ?_⟩)
        · obtain ⟨v, v1, v2⟩ := w; exact ⟨v, by omega, v2⟩
        · obtain ⟨v, v1, v2, v3⟩ := w
          by_cases d : v = i
          · rw [d] at v2; exact absurd v2 b
          · exact ⟨v, by omega, v2, v3⟩
  refine go 62 0 0 0 (by decide) (by decide) (by decide) ?_
  rw [mb_0]
  exact ⟨fun w => absurd w (by decide), fun w => by obtain ⟨v, v1, -⟩ := w; exact absurd v1 (by omega)⟩
/-- what was seen at a place -/
def sn (E : Nat → Int64) (i u : Nat) : Prop := (E i).toInt = -1 ∨ (E i).toInt = (u : Int)
theorem xseen {t : Nat} {y : Int32} {i : Nat} (f : sg_F) (L : sg_L) (ey : y.toInt = (i : Int)) (u : Nat) (hu : u < 64) : mb (sX6_asSeen y t f L) u = true ↔ u ≤ 60 ∧ sn (L (41 + 2 * t)) i u := by
  have cy := bn_clI (x := y) (by omega)
  have k1 : (-1 : Int64).toInt = -1 := by decide
  have k0 : (0 : Int64).toInt = 0 := by decide
  have k6 : (60 : Int64).toInt = 60 := by decide
  unfold sX6_asSeen sn; (repeat first | rw [spl_d] | rw [spl2_d])
  rw [show y.toNatClampNeg = i from by omega]
  obtain ⟨w, ew⟩ : ∃ z : Int64, z = L (41 + 2 * t) i := ⟨_, rfl⟩
  rw [← ew]
  have a1 := bn_lcmpI w (-1)
  have a2 := bn_lcmpI w 0
  have a3 := bn_lcmpI w 60
  by_cases c1 : w.toInt = -1
  · rw [if_pos (show (lg_cmp w (-1)).toInt = 0 from by omega), mb_all u hu]
    exact ⟨fun z => ⟨of_decide_eq_true z, Or.inl c1⟩, fun z => decide_eq_true z.1⟩
  rw [if_neg (show ¬ (lg_cmp w (-1)).toInt = 0 from by omega)]
  by_cases c2 : w.toInt < 0
  · rw [if_pos (show (lg_cmp w 0).toInt < 0 from by omega), mb_0]
    exact ⟨fun z => absurd z (by decide), fun z => by exfalso; omega⟩
  rw [if_neg (show ¬ (lg_cmp w 0).toInt < 0 from by omega)]
  by_cases c3 : 60 < w.toInt
  · rw [if_pos (show 0 < (lg_cmp w 60).toInt from by omega), mb_0]
    exact ⟨fun z => absurd z (by decide), fun z => by exfalso; omega⟩
  have e2 : (Int64.toInt32 w).toInt = w.toInt := bn_l2i (by omega) (by omega)
  have c4 := bn_clI (x := Int64.toInt32 w) (by omega)
  rw [if_neg (show ¬ 0 < (lg_cmp w 60).toInt from by omega), mb_one (by omega) u]
  exact ⟨fun z => by have := of_decide_eq_true z; exact ⟨by omega, Or.inr (by omega)⟩, fun z => decide_eq_true (by omega)⟩
def okc (S c : Nat) : Prop := c < S ∨ c = 8
/-- where it may stand ahead of a shift, by what was seen till then -/
def cR (m : Nat → Int32) (p S : Nat) (E : Nat → Int64) (st : Nat) : Nat → Nat → Prop
  | 0 => fun u => u = st
  | i + 1 => fun u => (∃ v c : Nat, v ≤ 60 ∧ okc S c ∧ cR m p S E st i v ∧ bhN m p c v = u) ∧ sn E i u
/-- from where the last so many shifts may be as seen -/
def gO (m : Nat → Int32) (p S : Nat) (E : Nat → Int64) (n : Nat) : Nat → Nat → Prop
  | 0 => fun _ => True
  | r + 1 => fun v => ∃ c : Nat, okc S c ∧ sn E (n - (r + 1)) (bhN m p c v) ∧ gO m p S E n r (bhN m p c v)
theorem cR_b {m : Nat → Int32} {p S : Nat} {E : Nat → Int64} {st : Nat} (hm : mOk m) (hq : pOk m) (hp : p < 3) (hst : st ≤ 60) : ∀ i u : Nat, cR m p S E st i u → u ≤ 60 := by
  intro i
  cases i with
  | zero => intro u h; have h : u = st := h; omega
  | succ i =>
    intro u h
    obtain ⟨⟨v, c, v1, v2, v3, v4⟩, -⟩ := h
    rw [← v4]
    exact bhN_b hm hq hp v1
/-- what the class's question about who sat stands on -/
def sF (m : Nat → Int32) (p S : Nat) (f : sg_F) : Prop := f 2 = m ∧ (f 27 2).toInt = (p : Int) ∧ p < 3 ∧ mOk m ∧ pOk m ∧ (f 1 3).toInt = (S : Int) ∧ S ≤ 8
/-- nobody and the first so many -/
def fsj (j c : Nat) : Prop := (c = 8 ∧ 1 ≤ j) ∨ (c < 8 ∧ c + 1 < j)
theorem fst_S {S c : Nat} (hS : S ≤ 8) : fsj (S + 1) c ↔ okc S c := by
  unfold fsj okc
  omega
theorem cd_j {y : Int32} {j : Nat} (ey : y.toInt = (j : Int) - 1) (hj : j ≤ 8) : (j = 0 ∧ cdy y = 8) ∨ (1 ≤ j ∧ cdy y = j - 1) := by
  unfold cdy
  by_cases z : y.toInt = -1
  · rw [if_pos z]; exact Or.inl ⟨by omega, rfl⟩
  · rw [if_neg z]
    have c := bn_clI (x := y) (by omega)
    exact Or.inr ⟨by omega, by omega⟩
theorem fst_n {y : Int32} {j c : Nat} (ey : y.toInt = (j : Int) - 1) (hj : j ≤ 8) : fsj (j + 1) c ↔ fsj j c ∨ c = cdy y := by
  unfold fsj
  rcases cd_j ey hj with ⟨a, b⟩ | ⟨a, b⟩
  · rw [b]; omega
  · rw [b]; omega
/-- the shifts ahead, to the class -/
theorem xreach {m : Nat → Int32} {p S : Nat} {f : sg_F} {t : Nat} {L : sg_L} {k : Int32} {K : Nat} (h : sF m p S f) (hk : k.toInt = (K : Int)) (hK : K ≤ 11) (hst : 0 ≤ (f 3 p).toInt ∧ (f 3 p).toInt ≤ 60) : ∀ u : Nat, u < 64 → (mb (sX6_reachedAhead k t f L) u = true ↔ cR m p S (L (41 + 2 * t)) (f 3 p).toNatClampNeg K u) := by
  obtain ⟨h2, h27, hp, hm, hq, h13, hS⟩ := h
  have hst1 : (f 3 p).toNatClampNeg ≤ 60 := by have := bn_clI hst.1; omega
  obtain ⟨st, est⟩ : ∃ z : Nat, z = (f 3 p).toNatClampNeg := ⟨_, rfl⟩
  have one : ∀ (rec : Int64 → Int32 → sg_F → sg_L → Int64) (here : Int64) (z : Int32) (i : Nat), z.toInt = (i : Int) → i ≤ 1000 → (∀ u : Nat, u < 64 → (mb here u = true ↔ cR m p S (L (41 + 2 * t)) st i u)) → st ≤ 60 → ∀ (q j : Nat) (y : Int32) (a : Int64), y.toInt = (j : Int) - 1 → j ≤ S + 1 → S + 1 - j < q → (∀ u : Nat, u < 64 → (mb a u = true ↔ ∃ v c : Nat, v ≤ 60 ∧ fsj j c ∧ cR m p S (L (41 + 2 * t)) st i v ∧ bhN m p c v = u)) → ∃ b : Int64, sX6_reachedAhead_l30 rec k t q here z a y f L = rec b (z + 1) f L ∧ ∀ u : Nat, u < 64 → (mb b u = true ↔ cR m p S (L (41 + 2 * t)) st (i + 1) u) := by
    intro rec here z i ez hi hh hst60 q
    induction q with
    | zero => intro j y a _ _ h; exact absurd h (by omega)
    | succ q ih =>
      intro j y a ey hj hq' ha
      have e9 : sX6_reachedAhead_l30 rec k t (q + 1) here z a y f L = sX6_reachedAhead_h30 rec k t (sX6_reachedAhead_l30 rec k t q) here z a y f L := rfl
      rw [e9]
      unfold sX6_reachedAhead_h30; (repeat first | rw [spl_d] | rw [spl2_d])
      by_cases c : j < S + 1
      case neg =>
        rw [if_neg (show ¬ y.toInt < (f 1 3).toInt from by omega)]
        have : j = S + 1 := by omega
        subst this
        refine ⟨_, rfl, fun u hu => ?_⟩
        rw [mb_and]
        refine Bool.and_eq_true_iff.trans ⟨fun w => ?_, fun w => ?_⟩
        · obtain ⟨w1, w2⟩ := w
          obtain ⟨v, c, v1, v2, v3⟩ := (ha u hu).mp w1
          exact ⟨⟨v, c, v1, (fst_S hS).mp v2, v3⟩, ((xseen f L ez u hu).mp w2).2⟩
        · have ub := cR_b hm hq hp hst60 (i + 1) u w
          obtain ⟨⟨v, c, v1, v2, v3⟩, w2⟩ := w
          exact ⟨(ha u hu).mpr ⟨v, c, v1, (fst_S hS).mpr v2, v3⟩, (xseen f L ez u hu).mpr ⟨ub, w2⟩⟩
      rw [if_pos (show y.toInt < (f 1 3).toInt from by omega)]
      have k1 : (1 : Int32).toInt = 1 := by decide
      have ey1 : (y + 1).toInt = ((j + 1 : Nat) : Int) - 1 := (bn_addI (by omega) (by omega)).trans (by omega)
      refine ih (j + 1) (y + 1) _ ey1 (by omega) (by omega) (fun u hu => ?_)
      rw [mb_or]
      have xb := xallB (y := y) here h2 h27 hp hm hq (by omega) L u
      have fn : ∀ c : Nat, fsj (j + 1) c ↔ fsj j c ∨ c = cdy y := fun c => fst_n ey (by omega)
      refine Bool.or_eq_true_iff.trans ⟨fun w => ?_, fun w => ?_⟩
      · rcases w with w | w
        · obtain ⟨v, c, v1, v2, v3⟩ := (ha u hu).mp w
          exact ⟨v, c, v1, (fn c).mpr (Or.inl v2), v3⟩
        · obtain ⟨v, v1, v2, v3⟩ := xb.mp w
          exact ⟨v, cdy y, v1, (fn _).mpr (Or.inr rfl), (hh v (by omega)).mp v2, v3⟩
      · obtain ⟨v, c, v1, v2, v3, v4⟩ := w
        rcases (fn c).mp v2 with d | d
        · exact Or.inl ((ha u hu).mpr ⟨v, c, v1, d, v3, v4⟩)
        · exact Or.inr (xb.mpr ⟨v, v1, (hh v (by omega)).mpr v3, by rw [← d]; exact v4⟩)
  have go : ∀ (q i : Nat) (z : Int32) (here : Int64), z.toInt = (i : Int) → i ≤ K → K - i < q → (∀ u : Nat, u < 64 → (mb here u = true ↔ cR m p S (L (41 + 2 * t)) st i u)) → ∀ u : Nat, u < 64 → (mb (sX6_reachedAhead_l18 k t q here z f L) u = true ↔ cR m p S (L (41 + 2 * t)) st K u) := by
    intro q
    induction q with
    | zero => intro i z here _ _ h; exact absurd h (by omega)
    | succ q ih =>
      intro i z here ez hi hq' hh
      have e9 : sX6_reachedAhead_l18 k t (q + 1) here z f L = sX6_reachedAhead_h18 k t (sX6_reachedAhead_l18 k t q) here z f L := rfl
      rw [e9]
      unfold sX6_reachedAhead_h18; (repeat first | rw [spl_d] | rw [spl2_d])
      by_cases c : i < K
      case neg =>
        rw [if_neg (show ¬ z.toInt < k.toInt from by omega)]
        have : i = K := by omega
        subst this
        exact hh
      rw [if_pos (show z.toInt < k.toInt from by omega)]
      obtain ⟨b, b1, b2⟩ := one (sX6_reachedAhead_l18 k t q) here z i ez (by omega) hh (by rw [est]; exact hst1) 10 0 (-1) 0 (by decide) (by omega) (by omega) (fun u hu => by
        rw [mb_0]
        refine ⟨fun w => absurd w (by decide), fun w => ?_⟩
        obtain ⟨v, c, v1, v2, v3⟩ := w
        unfold fsj at v2
        exact absurd v2 (by omega))
      rw [b1]
      exact ih (i + 1) (z + 1) b (inc1 ez (by omega)) (by omega) (by omega) b2
  have c27 := bn_clI (x := f 27 2) (by omega)
  rw [← est]
  unfold sX6_reachedAhead; (repeat first | rw [spl_d] | rw [spl2_d])
  rw [show (f 27 2).toNatClampNeg = p from by omega]
  refine go 12 0 0 _ (by decide) (Nat.zero_le _) (by omega) (fun u hu => ?_)
  rw [mb_one hst u, est]
  exact ⟨fun w => (show u = (f 3 p).toNatClampNeg from of_decide_eq_true w), fun w => decide_eq_true (show u = (f 3 p).toNatClampNeg from w)⟩
/-- from where it may go on, to the class -/
theorem xahead {m : Nat → Int32} {p S : Nat} {f : sg_F} {L : sg_L} (h : sF m p S f) (x : Int64) : ∀ u : Nat, u < 64 → (mb (sX6_allAhead x f L) u = true ↔ u ≤ 60 ∧ ∃ c : Nat, okc S c ∧ mb x (bhN m p c u) = true) := by
  obtain ⟨h2, h27, hp, hm, hq, h13, hS⟩ := h
  have k1 : (1 : Int32).toInt = 1 := by decide
  have one : ∀ (rec : Int64 → Int32 → sg_F → sg_L → Int64) (v : Nat) (z : Int32), z.toInt = (v : Int) → v ≤ 60 → ∀ (q j : Nat) (y : Int32) (a : Int64), y.toInt = (j : Int) - 1 → j ≤ S + 1 → S + 1 - j < q → (∀ u : Nat, u < 64 → (mb a u = true ↔ (u < v ∧ ∃ c : Nat, okc S c ∧ mb x (bhN m p c u) = true) ∨ (u = v ∧ ∃ c : Nat, fsj j c ∧ mb x (bhN m p c u) = true))) → ∃ b : Int64, sX6_allAhead_l15 rec x q a z y f L = rec b (z + 1) f L ∧ ∀ u : Nat, u < 64 → (mb b u = true ↔ u < v + 1 ∧ ∃ c : Nat, okc S c ∧ mb x (bhN m p c u) = true) := by
    intro rec v z ez hv q
    induction q with
    | zero => intro j y a _ _ h; exact absurd h (by omega)
    | succ q ih =>
      intro j y a ey hj hq' ha
      have e9 : sX6_allAhead_l15 rec x (q + 1) a z y f L = sX6_allAhead_h15 rec x (sX6_allAhead_l15 rec x q) a z y f L := rfl
      rw [e9]
      unfold sX6_allAhead_h15; (repeat first | rw [spl_d] | rw [spl2_d])
      by_cases c : j < S + 1
      case neg =>
        rw [if_neg (show ¬ y.toInt < (f 1 3).toInt from by omega)]
        have : j = S + 1 := by omega
        subst this
        refine ⟨_, rfl, fun u hu => (ha u hu).trans ⟨fun w => ?_, fun w => ?_⟩⟩
        · rcases w with ⟨w1, w2⟩ | ⟨w1, c, w2, w3⟩
          · exact ⟨by omega, w2⟩
          · exact ⟨by omega, c, (fst_S hS).mp w2, w3⟩
        · obtain ⟨w1, c, w2, w3⟩ := w
          by_cases d : u = v
          · exact Or.inr ⟨d, c, (fst_S hS).mpr w2, w3⟩
          · exact Or.inl ⟨by omega, c, w2, w3⟩
      rw [if_pos (show y.toInt < (f 1 3).toInt from by omega)]
      have ey1 : (y + 1).toInt = ((j + 1 : Nat) : Int) - 1 := (bn_addI (by omega) (by omega)).trans (by omega)
      have hz : 0 ≤ z.toInt ∧ z.toInt ≤ 60 := by omega
      have cz := bn_clI hz.1
      have ezn : z.toNatClampNeg = v := by omega
      have eo : Int32.ofNat v = z := by rw [← ezn]; exact ofNn hz.1
      have er : bhN m p (cdy y) v = (bhv m p (cdy y) z).toNatClampNeg := by unfold bhN; rw [eo]
      rw [xbhv h2 h27 hp (by omega)]
      have hr := bhv_b (c := cdy y) (v := z) hm hq hp hz
      have fn : ∀ c : Nat, fsj (j + 1) c ↔ fsj j c ∨ c = cdy y := fun c => fst_n ey (by omega)
      refine ih (j + 1) (y + 1) _ ey1 (by omega) (by omega) (fun u hu => ?_)
      rw [mb_or, mb_p hr hz u, ezn, ← er]
      refine Bool.or_eq_true_iff.trans ⟨fun w => ?_, fun w => ?_⟩
      · rcases w with w | w
        · rcases (ha u hu).mp w with w | ⟨w1, c, w2, w3⟩
          · exact Or.inl w
          · exact Or.inr ⟨w1, c, (fn c).mpr (Or.inl w2), w3⟩
        · obtain ⟨w1, w2⟩ := Bool.and_eq_true_iff.mp w
          have w2 := of_decide_eq_true w2
          exact Or.inr ⟨w2, cdy y, (fn _).mpr (Or.inr rfl), by rw [w2]; exact w1⟩
      · rcases w with w | ⟨w1, c, w2, w3⟩
        · exact Or.inl ((ha u hu).mpr (Or.inl w))
        · rcases (fn c).mp w2 with d | d
          · exact Or.inl ((ha u hu).mpr (Or.inr ⟨w1, c, d, w3⟩))
          · exact Or.inr (Bool.and_eq_true_iff.mpr ⟨by rw [← d, ← w1]; exact w3, decide_eq_true w1⟩)
  have go : ∀ (q i : Nat) (z : Int32) (a : Int64), z.toInt = (i : Int) → i ≤ 61 → 61 - i < q → (∀ u : Nat, u < 64 → (mb a u = true ↔ u < i ∧ ∃ c : Nat, okc S c ∧ mb x (bhN m p c u) = true)) → ∀ u : Nat, u < 64 → (mb (sX6_allAhead_l5 x q a z f L) u = true ↔ u ≤ 60 ∧ ∃ c : Nat, okc S c ∧ mb x (bhN m p c u) = true) := by
    intro q
    induction q with
    | zero => intro i z a _ _ h; exact absurd h (by omega)
    | succ q ih =>
      intro i z a ez hi hq' ha
      have e9 : sX6_allAhead_l5 x (q + 1) a z f L = sX6_allAhead_h5 x (sX6_allAhead_l5 x q) a z f L := rfl
      rw [e9]
      unfold sX6_allAhead_h5; (repeat first | rw [spl_d] | rw [spl2_d])
      by_cases c : i < 61
      case neg =>
        rw [if_pos (show 60 < z.toInt from by omega)]
        exact fun u hu => (ha u hu).trans ⟨fun w => ⟨by omega, w.2⟩, fun w => ⟨by omega, w.2⟩⟩
      rw [if_neg (show ¬ 60 < z.toInt from by omega)]
      obtain ⟨b, b1, b2⟩ := one (sX6_allAhead_l5 x q) i z ez (by omega) 10 0 (-1) a (by decide) (by omega) (by omega) (fun u hu => (ha u hu).trans ⟨fun w => Or.inl w, fun w => by
        rcases w with w | ⟨w1, c, w2, w3⟩
        · exact w
        · unfold fsj at w2; exact absurd w2 (by omega)⟩)
      rw [b1]
      exact ih (i + 1) (z + 1) b (inc1 ez (by omega)) (by omega) (by omega) b2
  exact go 62 0 0 0 (by decide) (by decide) (by decide) (fun u hu => by
    rw [mb_0]
    exact ⟨fun w => absurd w (by decide), fun w => absurd w.1 (by omega)⟩)
theorem xfit {m : Nat → Int32} {p S : Nat} {f : sg_F} {t : Nat} {L : sg_L} {k : Int32} {K n : Nat} (h : sF m p S f) (hk : k.toInt = (K : Int)) (hKn : K < n) (hn : n ≤ 12) (hlen : ((f (40 + 2 * t) 2).toInt < 12 ∧ (f (40 + 2 * t) 2).toInt = (n : Int)) ∨ (12 ≤ (f (40 + 2 * t) 2).toInt ∧ n = 12)) : ∀ u : Nat, u < 64 → (mb (sX6_fittingBehind k t f L) u = true ↔ u ≤ 60 ∧ gO m p S (L (41 + 2 * t)) n (n - 1 - K) u ∧ sn (L (41 + 2 * t)) K u) := by
  have k12 : (12 : Int32).toInt = 12 := by decide
  have k1 : (1 : Int32).toInt = 1 := by decide
  have km : (-1 : Int32).toInt = -1 := by decide
  have hp : p < 3 := h.2.2.1
  have hm : mOk m := h.2.2.2.1
  have hq : pOk m := h.2.2.2.2.1
  have go : ∀ (q i : Nat) (z : Int32) (x : Int64), z.toInt = (i : Int) → K ≤ i → i < n → i - K < q → (∀ u : Nat, u < 64 → (mb x u = true ↔ u ≤ 60 ∧ gO m p S (L (41 + 2 * t)) n (n - 1 - i) u)) → ∀ u : Nat, u < 64 → (mb (sX6_fittingBehind_l20 k t q x z f L) u = true ↔ u ≤ 60 ∧ gO m p S (L (41 + 2 * t)) n (n - 1 - K) u ∧ sn (L (41 + 2 * t)) K u) := by
    intro q
    induction q with
    | zero => intro i z x _ _ _ h; exact absurd h (by omega)
    | succ q ih =>
      intro i z x ez hi1 hi2 hq' hx
      have e9 : sX6_fittingBehind_l20 k t (q + 1) x z f L = sX6_fittingBehind_h20 k t (sX6_fittingBehind_l20 k t q) x z f L := rfl
      rw [e9]
      unfold sX6_fittingBehind_h20; (repeat first | rw [spl_d] | rw [spl2_d])
      by_cases c : K < i
      case neg =>
        rw [if_neg (show ¬ k.toInt < z.toInt from by omega)]
        have : i = K := by omega
        subst this
        intro u hu
        rw [mb_and]
        exact Bool.and_eq_true_iff.trans ⟨fun w => ⟨((hx u hu).mp w.1).1, ((hx u hu).mp w.1).2, ((xseen f L hk u hu).mp w.2).2⟩, fun w => ⟨(hx u hu).mpr ⟨w.1, w.2.1⟩, (xseen f L hk u hu).mpr ⟨w.1, w.2.2⟩⟩⟩
      rw [if_pos (show k.toInt < z.toInt from by omega)]
      have ez1 : (z + (-1)).toInt = ((i - 1 : Nat) : Int) := (bn_addI (by omega) (by omega)).trans (by omega)
      refine ih (i - 1) (z + (-1)) _ ez1 (by omega) (by omega) (by omega) (fun u hu => ?_)
      have er : n - 1 - (i - 1) = (n - 1 - i) + 1 := by omega
      have ei : n - ((n - 1 - i) + 1) = i := by omega
      have eg : gO m p S (L (41 + 2 * t)) n (n - 1 - (i - 1)) u ↔ ∃ c : Nat, okc S c ∧ sn (L (41 + 2 * t)) i (bhN m p c u) ∧ gO m p S (L (41 + 2 * t)) n (n - 1 - i) (bhN m p c u) := by
        rw [er]
        show (∃ c : Nat, okc S c ∧ sn (L (41 + 2 * t)) (n - ((n - 1 - i) + 1)) (bhN m p c u) ∧ _) ↔ _
        rw [ei]
      rw [eg]
      refine (xahead h _ u hu).trans ⟨fun w => ⟨w.1, ?_⟩, fun w => ⟨w.1, ?_⟩⟩
      · obtain ⟨w1, c, w2, w3⟩ := w
        rw [mb_and] at w3
        obtain ⟨w4, w5⟩ := Bool.and_eq_true_iff.mp w3
        have hb := bhN_b (c := c) hm hq hp w1
        exact ⟨c, w2, ((xseen f L ez _ (by omega)).mp w5).2, ((hx _ (by omega)).mp w4).2⟩
      · obtain ⟨w1, c, w2, w3, w4⟩ := w
        have hb := bhN_b (c := c) hm hq hp w1
        exact ⟨c, w2, by rw [mb_and]; exact Bool.and_eq_true_iff.mpr ⟨(hx _ (by omega)).mpr ⟨hb, w4⟩, (xseen f L ez _ (by omega)).mpr ⟨hb, w3⟩⟩⟩
  have mi := bn_minI (f (40 + 2 * t) 2) 12
  unfold sX6_fittingBehind; (repeat first | rw [spl_d] | rw [spl2_d])
  obtain ⟨w, ew⟩ : ∃ z : Int32, z = (if f (40 + 2 * t) 2 < 12 then f (40 + 2 * t) 2 else 12) := ⟨_, rfl⟩
  rw [← ew] at mi ⊢
  have e1 : w.toInt = (n : Int) := by omega
  have e2 : (w - 1).toInt = ((n - 1 : Nat) : Int) := (bn_subI (by omega) (by omega)).trans (by omega)
  refine go 13 (n - 1) (w - 1) _ e2 (by omega) (by omega) (by omega) (fun u hu => ?_)
  rw [mb_all u hu, show n - 1 - (n - 1) = 0 from by omega]
  exact ⟨fun w => ⟨of_decide_eq_true w, trivial⟩, fun w => decide_eq_true w.1⟩
/-- who may have sat in a shift -/
def whoP (m : Nat → Int32) (p S : Nat) (E : Nat → Int64) (st n K c : Nat) : Prop := okc S c ∧ ∃ v : Nat, v ≤ 60 ∧ cR m p S E st K v ∧ sn E K (bhN m p c v) ∧ gO m p S E n (n - 1 - K) (bhN m p c v)
theorem xwho {m : Nat → Int32} {p S : Nat} {f : sg_F} {t : Nat} {L : sg_L} {x1 k : Int32} {K n : Nat} (h2 : f 2 = m) (hm : mOk m) (hq : pOk m) (h13 : (f 1 3).toInt = (S : Int)) (hS : S ≤ 8) (hp1 : x1.toInt = (p : Int)) (hp : p < 3) (hk : k.toInt = (K : Int)) (hKn : K < n) (hn : n ≤ 12) (hst : 0 ≤ (f 3 p).toInt ∧ (f 3 p).toInt ≤ 60) (hlen : ((f (40 + 2 * t) 2).toInt < 12 ∧ (f (40 + 2 * t) 2).toInt = (n : Int)) ∨ (12 ≤ (f (40 + 2 * t) 2).toInt ∧ n = 12)) (ht : t ≤ 5) : ∀ u : Nat, u < 32 → (mi (sX6_mayHaveSat t x1 k f L).1 u = true ↔ whoP m p S (L (41 + 2 * t)) (f 3 p).toNatClampNeg n K u) := by
  have k1 : (1 : Int32).toInt = 1 := by decide
  unfold sX6_mayHaveSat; (repeat first | rw [spl_d] | rw [spl2_d])
  obtain ⟨f1, ef⟩ : ∃ z : sg_F, z = sg_up f 27 (sgu (f 27) 2 x1) := ⟨_, rfl⟩
  rw [← ef]
  have gk : ∀ r : Nat, r ≠ 27 → f1 r = f r := fun r a => by rw [ef, sg_up_n a]
  have g27 : f1 27 2 = x1 := by rw [ef, sg_up_s, sgu_s]
  have hs : sF m p S f1 := ⟨by rw [gk 2 (by decide)]; exact h2, by rw [g27]; exact hp1, hp, hm, hq, by rw [gk 1 (by decide)]; exact h13, hS⟩
  have xr := xreach (t := t) (L := L) hs hk (by omega) (by rw [gk 3 (by decide)]; exact hst)
  have xf := xfit (t := t) (L := L) hs hk hKn hn (by rw [gk (40 + 2 * t) (by omega)]; exact hlen)
  rw [gk 3 (by decide)] at xr
  obtain ⟨R, eR⟩ : ∃ z : Int64, z = sX6_reachedAhead k t f1 L := ⟨_, rfl⟩
  obtain ⟨F, eF⟩ : ∃ z : Int64, z = sX6_fittingBehind k t f1 L := ⟨_, rfl⟩
  rw [← eR] at xr ⊢
  rw [← eF] at xf ⊢
  have may : ∀ y : Int32, (y.toInt = -1 ∨ (0 ≤ y.toInt ∧ y.toInt ≤ 7)) → okc S (cdy y) → ((lg_cmp (sX6_allBehind R y f1 L &&& F) 0).toInt = 0 ↔ ¬ whoP m p S (L (41 + 2 * t)) (f 3 p).toNatClampNeg n K (cdy y)) := by
    intro y hy ho
    have xb := fun u => xallB (y := y) R hs.1 hs.2.1 hp hm hq hy L u
    refine mb_n.trans ⟨fun w z => ?_, fun w u hu => ?_⟩
    · obtain ⟨z0, v, z1, z2, z3, z4⟩ := z
      have hb := bhN_b (c := cdy y) hm hq hp z1
      have a1 := (xb (bhN m p (cdy y) v)).mpr ⟨v, z1, (xr v (by omega)).mpr z2, rfl⟩
      have a2 := (xf (bhN m p (cdy y) v) (by omega)).mpr ⟨hb, z4, z3⟩
      have a3 := w (bhN m p (cdy y) v) (by omega)
      rw [mb_and, a1, a2] at a3
      exact absurd a3 (by decide)
    · refine Bool.eq_false_iff.mpr (fun z => w ?_)
      rw [mb_and] at z
      obtain ⟨z1, z2⟩ := Bool.and_eq_true_iff.mp z
      obtain ⟨v, v1, v2, v3⟩ := (xb u).mp z1
      obtain ⟨u1, u2, u3⟩ := (xf u hu).mp z2
      exact ⟨ho, v, v1, (xr v (by omega)).mp v2, by rw [v3]; exact u3, by rw [v3]; exact u2⟩
  have go : ∀ (q j : Nat) (y a : Int32), y.toInt = (j : Int) - 1 → j ≤ S + 1 → S + 1 - j < q → (∀ u : Nat, u < 32 → (mi a u = true ↔ fsj j u ∧ whoP m p S (L (41 + 2 * t)) (f 3 p).toNatClampNeg n K u)) → ∀ u : Nat, u < 32 → (mi (sX6_mayHaveSat_l30 t x1 k q R F a y f1 L).1 u = true ↔ whoP m p S (L (41 + 2 * t)) (f 3 p).toNatClampNeg n K u) := by
    intro q
    induction q with
    | zero => intro j y a _ _ h; exact absurd h (by omega)
    | succ q ih =>
      intro j y a ey hj hq' ha
      have e9 : sX6_mayHaveSat_l30 t x1 k (q + 1) R F a y f1 L = sX6_mayHaveSat_h30 t x1 k (sX6_mayHaveSat_l30 t x1 k q) R F a y f1 L := rfl
      rw [e9]
      unfold sX6_mayHaveSat_h30 sX6_mayHaveSat_b79; (repeat first | rw [spl_d] | rw [spl2_d])
      have h131 : (f1 1 3).toInt = (S : Int) := hs.2.2.2.2.2.1
      by_cases c : j < S + 1
      case neg =>
        rw [if_neg (show ¬ y.toInt < (f1 1 3).toInt from by omega)]
        have : j = S + 1 := by omega
        subst this
        exact fun u hu => (ha u hu).trans ⟨fun w => w.2, fun w => ⟨(fst_S hS).mpr w.1, w⟩⟩
      rw [if_pos (show y.toInt < (f1 1 3).toInt from by omega)]
      have ey1 : (y + 1).toInt = ((j + 1 : Nat) : Int) - 1 := (bn_addI (by omega) (by omega)).trans (by omega)
      have fn : ∀ c : Nat, fsj (j + 1) c ↔ fsj j c ∨ c = cdy y := fun c => fst_n ey (by omega)
      have hcd := cd_j ey (by omega)
      have ho : okc S (cdy y) := by unfold okc; omega
      have my := may y (by omega) ho
      have put : ∀ b : Int32, (∀ u : Nat, u < 32 → mi b u = decide (u = cdy y)) → whoP m p S (L (41 + 2 * t)) (f 3 p).toNatClampNeg n K (cdy y) → ∀ u : Nat, u < 32 → (mi (sX6_mayHaveSat_l30 t x1 k q R F (a ||| b) (y + 1) f1 L).1 u = true ↔ whoP m p S (L (41 + 2 * t)) (f 3 p).toNatClampNeg n K u) := by
        intro b hb hw
        refine ih (j + 1) (y + 1) _ ey1 (by omega) (by omega) (fun u hu => ?_)
        rw [mi_or, hb u hu]
        refine Bool.or_eq_true_iff.trans ⟨fun w => ?_, fun w => ?_⟩
        · rcases w with w | w
          · exact ⟨(fn u).mpr (Or.inl ((ha u hu).mp w).1), ((ha u hu).mp w).2⟩
          · have w := of_decide_eq_true w
            exact ⟨(fn u).mpr (Or.inr w), by rw [w]; exact hw⟩
        · rcases (fn u).mp w.1 with d | d
          · exact Or.inl ((ha u hu).mpr ⟨d, w.2⟩)
          · exact Or.inr (decide_eq_true d)
      by_cases d : (lg_cmp (sX6_allBehind R y f1 L &&& F) 0).toInt = 0
      · rw [if_pos d]
        refine ih (j + 1) (y + 1) a ey1 (by omega) (by omega) (fun u hu => (ha u hu).trans ⟨fun w => ⟨(fn u).mpr (Or.inl w.1), w.2⟩, fun w => ?_⟩)
        rcases (fn u).mp w.1 with e | e
        · exact ⟨e, w.2⟩
        · exact absurd (by rw [← e]; exact w.2) (my.mp d)
      · rw [if_neg d]
        have hw : whoP m p S (L (41 + 2 * t)) (f 3 p).toNatClampNeg n K (cdy y) := Classical.byContradiction (fun z => d (my.mpr z))
        by_cases e : y.toInt = -1
        · rw [if_pos e]
          exact put 256 (fun u hu => by rw [mi_256]; unfold cdy; rw [if_pos e]) hw
        · rw [if_neg e]
          exact put _ (fun u hu => by rw [mi_one (by omega) u]; unfold cdy; rw [if_neg e]) hw
  exact go 10 0 (-1) 0 (by decide) (by omega) (by omega) (fun u hu => by
    rw [mi_0]
    exact ⟨fun w => absurd w (by decide), fun w => by unfold fsj at w; exact absurd w.1 (by omega)⟩)
