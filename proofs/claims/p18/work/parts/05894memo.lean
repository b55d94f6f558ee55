/-! MEMORIES: both sides -/
/-- a is at least as good as b -/
def kle (SP PC : Nat → Int) (a b : Nat) : Prop := SP b < SP a ∨ (SP b = SP a ∧ (PC a < PC b ∨ (PC a = PC b ∧ a ≤ b)))
theorem kle_uniq {SP PC : Nat → Int} {a b : Nat} (h : kle SP PC a b) (h1 : kle SP PC b a) : a = b := by
  unfold kle at h h1
  omega
theorem memX_l {SP PC : Nat → Int} {F : sg_F} {L : sg_L} {x0 x1 : Int32} {M : Nat} (hM : ((1 : Int32) <<< ((F 1 3 : Int32) &&& 31)).toInt = M) (hM2 : M ≤ 256) (hSP : ∀ v : Nat, v < 256 → SP v = (spN (Int32.ofNat v) (F 16) 8).toInt) (hPC : ∀ v : Nat, PC v = (pcI (Int32.ofNat v)).toInt) : ∀ (q i : Nat) (y y3 y4 : Int32), y.toInt = i → 1 ≤ i → i ≤ M → M - i < q → (∃ b : Nat, b < i ∧ y3 = Int32.ofNat b ∧ y4.toInt = SP b ∧ PC b ≤ x0.toInt ∧ ∀ v : Nat, v < i → PC v ≤ x0.toInt → kle SP PC b v) → ∃ (b : Nat) (z : Int32), b < M ∧ PC b ≤ x0.toInt ∧ (∀ v : Nat, v < M → PC v ≤ x0.toInt → kle SP PC b v) ∧ z.toInt = SP b ∧ sX4_bestMemories_l19 x0 x1 q y3 y4 y F L = (if x1.toInt = 0 then Int32.ofNat b else F 13 6 - z, F) := by
  intro q
  induction q with
  | zero => intro i y y3 y4 _ _ _ h; exact absurd h (by omega)
  | succ q ih =>
    intro i y y3 y4 ey h1 hi hq hb
    obtain ⟨b, b1, b2, b3, b4, b5⟩ := hb
    have e9 : sX4_bestMemories_l19 x0 x1 (q + 1) y3 y4 y F L = sX4_bestMemories_h19 x0 x1 (sX4_bestMemories_l19 x0 x1 q) y3 y4 y F L := rfl
    rw [e9]
    unfold sX4_bestMemories_h19; (repeat first | rw [spl_d] | rw [spl2_d])
    by_cases c : i < M
    case neg =>
      rw [if_neg (by omega)]
      have : i = M := by omega
      subst this
      refine ⟨b, y4, b1, b4, b5, b3, ?_⟩
      by_cases z : x1.toInt = 0
      · rw [if_pos z, if_pos z, b2]
      · rw [if_neg z, if_neg z]
    rw [if_pos (by omega)]
    have cy := bn_clI (x := y) (by omega)
    have e8 : Int32.ofNat i = y := by
      have : y.toNatClampNeg = i := by omega
      rw [← this]; exact ofN (by omega) (by omega)
    have e3 : (Int32.ofNat b).toInt = b := nI_toInt (n := b) (by omega)
    have r20 : sJ6_bitCount_0f7a4 y F L = pcI y := bits_X (by omega) (by omega) F L
    have r32 : sJ6_bitCount_0f7a4 y3 F L = pcI y3 := by rw [b2]; exact bits_X (by omega) (by omega) F L
    rw [r20, r32, sparedX]
    have p1 : (pcI y).toInt = PC i := by rw [hPC, e8]
    have p2 : (pcI y3).toInt = PC b := by rw [hPC, b2]
    have s1 : (spN y (F 16) 8).toInt = SP i := by rw [hSP i (by omega), e8]
    have ey1 := inc1 ey (by omega)
    have b96 : sX4_bestMemories_b96 (sX4_bestMemories_l19 x0 x1 q) x0 x1 y3 y4 y F L = sX4_bestMemories_l19 x0 x1 q y3 y4 (y + 1) F L := rfl
    have b89 : sX4_bestMemories_b89 (sX4_bestMemories_l19 x0 x1 q) x0 x1 y (spN y (F 16) 8) F L = sX4_bestMemories_l19 x0 x1 q y (spN y (F 16) 8) (y + 1) F L := rfl
    -- it is taken
    have yes : PC i ≤ x0.toInt → (SP b < SP i ∨ (SP b = SP i ∧ PC i < PC b)) → ∃ (b : Nat) (z : Int32), b < M ∧ PC b ≤ x0.toInt ∧ (∀ v : Nat, v < M → PC v ≤ x0.toInt → kle SP PC b v) ∧ z.toInt = SP b ∧ sX4_bestMemories_l19 x0 x1 q y (spN y (F 16) 8) (y + 1) F L = (if x1.toInt = 0 then Int32.ofNat b else F 13 6 - z, F) := by
      intro u1 u2
      have hq9 : M - (i + 1) < q := by omega
      refine ih (i + 1) (y + 1) y (spN y (F 16) 8) ey1 (by omega) (by omega) hq9 ⟨i, by omega, e8.symm, s1, u1, fun v hv hp => ?_⟩
      by_cases z : v = i
      · subst z; exact Or.inr ⟨rfl, Or.inr ⟨rfl, Nat.le_refl _⟩⟩
      · have := b5 v (by omega) hp
        unfold kle at this ⊢
        omega
    -- it is left
    have no : ¬ (PC i ≤ x0.toInt ∧ (SP b < SP i ∨ (SP b = SP i ∧ PC i < PC b))) → ∃ (b : Nat) (z : Int32), b < M ∧ PC b ≤ x0.toInt ∧ (∀ v : Nat, v < M → PC v ≤ x0.toInt → kle SP PC b v) ∧ z.toInt = SP b ∧ sX4_bestMemories_l19 x0 x1 q y3 y4 (y + 1) F L = (if x1.toInt = 0 then Int32.ofNat b else F 13 6 - z, F) := by
      clear yes
      intro u
      have hq9 : M - (i + 1) < q := by omega
      refine ih (i + 1) (y + 1) y3 y4 ey1 (by omega) (by omega) hq9 ⟨b, by omega, b2, b3, b4, fun v hv hp => ?_⟩
      by_cases z : v = i
      · subst z
        unfold kle
        omega
      · exact b5 v (by omega) hp
    have b68 : ¬ (SP b = SP i ∧ PC i < PC b) → ∃ (b : Nat) (z : Int32), b < M ∧ PC b ≤ x0.toInt ∧ (∀ v : Nat, v < M → PC v ≤ x0.toInt → kle SP PC b v) ∧ z.toInt = SP b ∧ sX4_bestMemories_b68 (sX4_bestMemories_l19 x0 x1 q) x0 x1 y3 y4 y (pcI y) (spN y (F 16) 8) F L = (if x1.toInt = 0 then Int32.ofNat b else F 13 6 - z, F) := by
      intro u
      unfold sX4_bestMemories_b68
      rw [b96, b89]
      by_cases d1 : x0.toInt < (pcI y).toInt
      · rw [if_pos d1]; exact no (by omega)
      rw [if_neg d1]
      by_cases d2 : y4.toInt < (spN y (F 16) 8).toInt
      · rw [if_pos d2]; exact yes (by omega) (by omega)
      · rw [if_neg d2]; exact no (by omega)
    by_cases d1 : (spN y (F 16) 8).toInt = y4.toInt
    · rw [if_pos d1]
      by_cases d2 : (pcI y).toInt < (pcI y3).toInt
      · rw [if_pos d2, b96, b89]
        by_cases d3 : x0.toInt < (pcI y).toInt
        · rw [if_pos d3]; exact no (by omega)
        rw [if_neg d3, if_neg (show ¬ y4.toInt < (spN y (F 16) 8).toInt from by omega)]
        exact yes (by omega) (by omega)
      · rw [if_neg d2]; exact b68 (by omega)
    · rw [if_neg d1]; exact b68 (by omega)
/-- what a week costs with a mask -/
theorem wR.mask {m : Nat → Int32} {f g : sg_F} (h : wR m 0 0 0 f g) (h3 : g 0 23 = 0) : g 0 31 + g 0 30 + spN (g 0 22) (f 16) 8 = f 13 6 := by
  obtain ⟨e1, e2, e3, e4, e5, e6⟩ := h
  rw [Int32.add_zero] at e4 e5
  have q : ∀ p : Nat, mpr m g p = m (67 + p) := fun p => by
    unfold mpr
    rw [h3, if_pos (by decide)]
  rw [q, q, q] at e5
  rw [e6, ← e5, ← e4]
  ac_rfl
/-- what the reference's questions about masks leave alone -/
def gS (m : Nat → Int32) (S : Int) (hl : Bool) (T : Nat → Int32) (n : Nat) (W : Nat → Int32) (N : Nat) (d : Int32) (LM : sg_L) (f g : sg_F) : Prop := wS m S hl T n W N d LM f g ∧ g 0 20 = -1 ∧ g 0 23 = 0 ∧ g 0 24 = -1 ∧ (∀ j : Nat, g 11 j = 0) ∧ f 13 7 = -1 ∧ f 13 9 = -1
theorem gS.put {m : Nat → Int32} {S : Int} {hl : Bool} {T : Nat → Int32} {n : Nat} {W : Nat → Int32} {N : Nat} {d : Int32} {LM : sg_L} {f g g1 : sg_F} (h : gS m S hl T n W N d LM f g) (k : mH g g1) (x : Int32) : gS m S hl T n W N d LM f (sg_up g1 0 (sgu (g1 0) 22 x)) := by
  obtain ⟨h1, h2, h3, h4, h5, h6, h7⟩ := h
  have k0 : ∀ j : Nat, j ≠ 22 → (j ≠ 12 ∧ j ≠ 13 ∧ j ≠ 14 ∧ j ≠ 15 ∧ j ≠ 16 ∧ j ≠ 29 ∧ j ≠ 30 ∧ j ≠ 31) → sg_up g1 0 (sgu (g1 0) 22 x) 0 j = g 0 j := fun j hj hk => by rw [sg_up_s, sgu_n hj]; exact k 0 j (by decide) (by decide) (by decide) (Or.inr hk)
  have kk : ∀ k1 j : Nat, k1 ≠ 8 → k1 ≠ 12 → k1 ≠ 13 → k1 ≠ 0 → sg_up g1 0 (sgu (g1 0) 22 x) k1 j = g k1 j := fun k1 j a b c e => by rw [sg_up_n e]; exact k k1 j a b c (Or.inl e)
  refine ⟨h1.chg h1.1 (fun _ _ _ _ _ _ _ => rfl) kk (k0 6 (by decide) (by decide)) (k0 11 (by decide) (by decide)) ⟨?_, fun z => ?_, ?_, fun z => ?_, fun s _ => ?_⟩, ?_, ?_, ?_, fun j => ?_, h6, h7⟩
  · rw [h6, k0 20 (by decide) (by decide), h2]
  · rw [h6] at z; exact absurd z (by decide)
  · rw [h7, k0 24 (by decide) (by decide), h4]
  · rw [h7] at z; exact absurd z (by decide)
  · rw [k0 23 (by decide) (by decide), h3]; decide
  · rw [k0 20 (by decide) (by decide)]; exact h2
  · rw [k0 23 (by decide) (by decide)]; exact h3
  · rw [k0 24 (by decide) (by decide)]; exact h4
  · rw [kk 11 j (by decide) (by decide) (by decide) (by decide)]; exact h5 j
/-- masks that were asked about -/
def inP (PC : Nat → Int) (M : Nat) (c : Int) (v u : Nat) : Prop := u < M ∧ (PC u < c ∨ (PC u = c ∧ u < v))
/-- the best so far -/
def bst (SP PC : Nat → Int) (M : Nat) (tot : Int) (c : Int) (v : Nat) (y4 y5 : Int32) : Prop := (y5 = -1 ∧ ∀ u : Nat, ¬ inP PC M c v u) ∨ ∃ b : Nat, y4 = Int32.ofNat b ∧ y5.toInt = tot - SP b ∧ 0 ≤ tot - SP b ∧ inP PC M c v b ∧ ∀ u : Nat, inP PC M c v u → kle SP PC b u
theorem memM_l {m : Nat → Int32} {S : Int} {hl : Bool} {T : Nat → Int32} {n : Nat} {W : Nat → Int32} {N : Nat} {d x1 x2 y6 : Int32} {LX LM : sg_L} {f F : sg_F} {SP PC : Nat → Int} {M : Nat} (rec : Int32 → Int32 → Int32 → sg_F → sg_L → Int32 × sg_F) (hS : S ≤ 8) (hm : mOk m) (hq : pOk m) (hN : N ≤ 21) (hF : F = xSq W (sX4_begin f LX) LX N) (hM : ((1 : Int32) <<< ((f 1 3 : Int32) &&& 31)).toInt = M) (hM2 : M ≤ 256) (hSP : ∀ v : Nat, v < 256 → SP v = (spN (Int32.ofNat v) (F 16) 8).toInt ∧ 0 ≤ SP v ∧ SP v ≤ (F 13 6).toInt) (hPC : ∀ v : Nat, PC v = (pcI (Int32.ofNat v)).toInt) (htot : (F 13 6).toInt ≤ 2000000000) : ∀ (q v : Nat) (y4 y5 : Int32) (g : sg_F), g 0 22 = Int32.ofNat v → g 0 6 = f 1 3 → v ≤ M → M - v < q → gS m S hl T n W N d LM f g → bst SP PC M (F 13 6).toInt y6.toInt v y4 y5 → ∃ (z4 z5 : Int32) (g1 : sg_F), sX12_memories_l67 rec d x1 x2 q y4 y5 y6 g LM = rec z4 z5 (y6 + 1) g1 LM ∧ gS m S hl T n W N d LM f g1 ∧ g1 0 6 = f 1 3 ∧ bst SP PC M (F 13 6).toInt y6.toInt M z4 z5 := by
  intro q
  induction q with
  | zero => intro v y4 y5 g _ _ _ h; exact absurd h (by omega)
  | succ q ih =>
    intro v y4 y5 g h22 h6 hv hq' hg hb
    have e9 : sX12_memories_l67 rec d x1 x2 (q + 1) y4 y5 y6 g LM = sX12_memories_h67 rec d x1 x2 (sX12_memories_l67 rec d x1 x2 q) y4 y5 y6 g LM := rfl
    rw [e9]
    unfold sX12_memories_h67; (repeat first | rw [spl_d] | rw [spl2_d])
    have ev : (Int32.ofNat v).toInt = v := nI_toInt (n := v) (by omega)
    rw [h22, h6]
    by_cases c : v < M
    case neg =>
      rw [if_neg (by omega)]
      have : v = M := by omega
      subst this
      exact ⟨y4, y5, g, rfl, hg, h6, hb⟩
    rw [if_pos (by omega), bits_M]
    have pv : (pcI (Int32.ofNat v)).toInt = PC v := (hPC v).symm
    have eo : Int32.ofNat v + 1 = Int32.ofNat (v + 1) := by
      refine Int32.toInt_inj.mp ?_
      have ev1 : (Int32.ofNat (v + 1)).toInt = ((v + 1 : Nat) : Int) := nI_toInt (n := v + 1) (by omega)
      rw [inc1 ev (by omega), ev1]
    have step : ∀ (g1 : sg_F) (a b : Int32), mH g g1 → bst SP PC M (F 13 6).toInt y6.toInt (v + 1) a b → ∃ (z4 z5 : Int32) (g2 : sg_F), sX12_memories_b143 rec (sX12_memories_l67 rec d x1 x2 q) d x1 x2 a b y6 g1 LM = rec z4 z5 (y6 + 1) g2 LM ∧ gS m S hl T n W N d LM f g2 ∧ g2 0 6 = f 1 3 ∧ bst SP PC M (F 13 6).toInt y6.toInt M z4 z5 := by
      intro g1 a b k hb1
      unfold sX12_memories_b143; (repeat first | rw [spl_d] | rw [spl2_d])
      have k22 : g1 0 22 = Int32.ofNat v := (k 0 22 (by decide) (by decide) (by decide) (Or.inr (by decide))).trans h22
      rw [k22, eo]
      exact ih (v + 1) a b _ (by rw [sg_up_s, sgu_s]) (by rw [sg_up_s, sgu_n (by decide), k 0 6 (by decide) (by decide) (by decide) (Or.inr (by decide))]; exact h6) (by omega) (by omega) (hg.put k _) hb1
    by_cases d1 : PC v = y6.toInt
    case neg =>
      rw [if_neg (by omega)]
      refine step g y4 y5 mH.rf ?_
      have same : ∀ u : Nat, inP PC M y6.toInt (v + 1) u ↔ inP PC M y6.toInt v u := by
        intro u
        unfold inP
        by_cases z : u = v
        · subst z; omega
        · omega
      rcases hb with ⟨b1, b2⟩ | ⟨b, b1, b2, b3, b4, b5⟩
      · exact Or.inl ⟨b1, fun u hu => b2 u ((same u).mp hu)⟩
      · exact Or.inr ⟨b, b1, b2, b3, (same b).mpr b4, fun u hu => b5 u ((same u).mp hu)⟩
    rw [if_pos (by omega)]
    obtain ⟨g1, p1, p2, p3, p4, p5, p6⟩ := hg.1.go hS hm hq hN LX
    rw [p1]
    dsimp only
    rw [← hF] at p2
    have g23 : g1 0 23 = 0 := (p3 0 23 (by decide) (by decide) (by decide) (Or.inr (by decide))).trans hg.2.2.1
    have g22 : g1 0 22 = Int32.ofNat v := (p3 0 22 (by decide) (by decide) (by decide) (Or.inr (by decide))).trans h22
    have mk := p2.mask g23
    rw [g22] at mk
    obtain ⟨s1, s2, s3⟩ := hSP v (by omega)
    obtain ⟨r, er⟩ : ∃ z : Int32, z = g1 0 31 + g1 0 30 := ⟨_, rfl⟩
    rw [← er] at mk ⊢
    have rI : r.toInt = (F 13 6).toInt - SP v := by
      have e : r = F 13 6 - spN (Int32.ofNat v) (F 16) 8 := by
        rw [← mk, Int32.add_sub_cancel]
      rw [e, s1]
      exact bn_subI (by omega) (by omega)
    -- it is taken
    have yes : (∀ b : Nat, y4 = Int32.ofNat b → y5.toInt = (F 13 6).toInt - SP b → SP b < SP v ∨ y5 = -1) → bst SP PC M (F 13 6).toInt y6.toInt (v + 1) (Int32.ofNat v) r := by
      intro u
      refine Or.inr ⟨v, rfl, rI, by omega, ⟨c, Or.inr ⟨d1, by omega⟩⟩, fun w hw => ?_⟩
      by_cases z : w = v
      · subst z; exact Or.inr ⟨rfl, Or.inr ⟨rfl, Nat.le_refl _⟩⟩
      · have hw1 : inP PC M y6.toInt v w := by
          unfold inP at hw ⊢
          omega
        rcases hb with ⟨b1, b2⟩ | ⟨b, b1, b2, b3, b4, b5⟩
        · exact absurd hw1 (b2 w)
        · have k := b5 w hw1
          have hu := u b b1 b2
          have km : (-1 : Int32).toInt = -1 := by decide
          have hs : SP b < SP v := by
            rcases hu with hu | hu
            · exact hu
            · exfalso; rw [hu] at b2; omega
          unfold kle at k ⊢
          omega
    have m134 : sX12_memories_b134 rec (sX12_memories_l67 rec d x1 x2 q) d x1 x2 (Int32.ofNat v) y6 r g1 LM = sX12_memories_b143 rec (sX12_memories_l67 rec d x1 x2 q) d x1 x2 (Int32.ofNat v) r y6 g1 LM := rfl
    by_cases d2 : y5.toInt < 0
    · rw [if_pos d2]
      unfold sX12_memories_b111; (repeat first | rw [spl_d] | rw [spl2_d])
      rw [if_pos d2, g22, m134]
      refine step g1 _ _ p3 (yes (fun b hb1 hb2 => ?_))
      rcases hb with ⟨b1, -⟩ | ⟨b', b1, b2, b3, -⟩
      · exact Or.inr b1
      · exfalso; omega
    rw [if_neg d2]
    by_cases d3 : r.toInt < y5.toInt
    · rw [if_pos d3]
      unfold sX12_memories_b111; (repeat first | rw [spl_d] | rw [spl2_d])
      rw [if_neg d2, if_pos d3, g22, m134]
      exact step g1 _ _ p3 (yes (fun b _ hb2 => Or.inl (by omega)))
    · rw [if_neg d3, if_neg d3]
      refine step g1 y4 y5 p3 ?_
      rcases hb with ⟨b1, b2⟩ | ⟨b, b1, b2, b3, b4, b5⟩
      · exfalso
        rw [b1] at d2
        exact d2 (by decide)
      · refine Or.inr ⟨b, b1, b2, b3, ?_, fun u hu => ?_⟩
        · unfold inP at b4 ⊢; omega
        · by_cases z : u = v
          · subst z
            unfold inP at b4
            unfold kle
            omega
          · refine b5 u ?_
            unfold inP at hu ⊢
            omega
