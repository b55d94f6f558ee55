/-! MEMORIES: the call -/
theorem memO_l {m : Nat → Int32} {S : Int} {hl : Bool} {T : Nat → Int32} {n : Nat} {W : Nat → Int32} {N : Nat} {d x1 x2 : Int32} {LX LM : sg_L} {f F : sg_F} {SP PC : Nat → Int} {M : Nat} (hS : S ≤ 8) (hm : mOk m) (hq : pOk m) (hN : N ≤ 21) (hF : F = xSq W (sX4_begin f LX) LX N) (hM : ((1 : Int32) <<< ((f 1 3 : Int32) &&& 31)).toInt = M) (hM1 : 1 ≤ M) (hM2 : M ≤ 256) (hSP : ∀ v : Nat, v < 256 → SP v = (spN (Int32.ofNat v) (F 16) 8).toInt ∧ 0 ≤ SP v ∧ SP v ≤ (F 13 6).toInt) (hPC : ∀ v : Nat, PC v = (pcI (Int32.ofNat v)).toInt) (hP0 : ∀ v : Nat, v < 256 → 0 ≤ PC v) (htot : (F 13 6).toInt ≤ 2000000000) (hx1 : 0 ≤ x1.toInt ∧ x1.toInt ≤ 3) : ∀ (q : Nat) (y4 y5 y6 : Int32) (g : sg_F), 0 ≤ y6.toInt → y6.toInt ≤ x1.toInt + 1 → x1.toInt + 1 - y6.toInt < (q : Int) → g 0 6 = f 1 3 → gS m S hl T n W N d LM f g → bst SP PC M (F 13 6).toInt y6.toInt 0 y4 y5 → ∃ (b : Nat) (z : Int32) (g1 : sg_F), b < M ∧ PC b ≤ x1.toInt ∧ (∀ v : Nat, v < M → PC v ≤ x1.toInt → kle SP PC b v) ∧ z.toInt = (F 13 6).toInt - SP b ∧ sX12_memories_l56 d x1 x2 q y4 y5 y6 g LM = (if x2.toInt = 0 then Int32.ofNat b else z, g1) ∧ gS m S hl T n W N d LM f g1 ∧ g1 0 22 = 0 := by
  have k1 : (1 : Int32).toInt = 1 := by decide
  intro q
  induction q with
  | zero => intro y4 y5 y6 g h0 h1 h; exact absurd h (by omega)
  | succ q ih =>
    intro y4 y5 y6 g h0 h1 hq' h6 hg hb
    have e9 : sX12_memories_l56 d x1 x2 (q + 1) y4 y5 y6 g LM = sX12_memories_h56 d x1 x2 (sX12_memories_l56 d x1 x2 q) y4 y5 y6 g LM := rfl
    rw [e9]
    unfold sX12_memories_h56; (repeat first | rw [spl_d] | rw [spl2_d])
    by_cases c : x1.toInt < y6.toInt
    · rw [if_pos c]
      have iP : ∀ u : Nat, inP PC M y6.toInt 0 u ↔ (u < M ∧ PC u ≤ x1.toInt) := by
        intro u
        unfold inP
        omega
      have P0 : PC 0 = 0 := by rw [hPC]; exact bits_0
      rcases hb with ⟨b1, b2⟩ | ⟨b, b1, b2, b3, b4, b5⟩
      · exact absurd ((iP 0).mpr ⟨by omega, by omega⟩) (b2 0)
      · obtain ⟨u1, u2⟩ := (iP b).mp b4
        refine ⟨b, y5, sg_up g 0 (sgu (g 0) 22 0), u1, u2, fun v hv hp => b5 v ((iP v).mpr ⟨hv, hp⟩), b2, ?_, hg.put mH.rf 0, by rw [sg_up_s, sgu_s]⟩
        by_cases z : x2.toInt = 0
        · rw [if_pos z, if_pos z, b1]
        · rw [if_neg z, if_neg z]
    · rw [if_neg c]
      obtain ⟨z4, z5, g1, p1, p2, p3, p4⟩ := memM_l (x1 := x1) (x2 := x2) (y6 := y6) (d := d) (LX := LX) (LM := LM) (W := W) (f := f) (F := F) (SP := SP) (PC := PC) (M := M) (m := m) (hl := hl) (T := T) (n := n) (sX12_memories_l56 d x1 x2 q) hS hm hq hN hF hM hM2 hSP hPC htot 488 0 y4 y5 (sg_up g 0 (sgu (g 0) 22 0)) (by rw [sg_up_s, sgu_s]; rfl) (by rw [sg_up_s, sgu_n (by decide)]; exact h6) (Nat.zero_le _) (by omega) (hg.put mH.rf 0) hb
      rw [p1]
      have e6 : (y6 + 1).toInt = y6.toInt + 1 := (bn_addI (by omega) (by omega)).trans (by omega)
      refine ih z4 z5 (y6 + 1) g1 (by omega) (by omega) (by omega) p3 p2 ?_
      have iP : ∀ u : Nat, inP PC M (y6 + 1).toInt 0 u ↔ inP PC M y6.toInt M u := by
        intro u
        unfold inP
        omega
      rcases p4 with ⟨b1, b2⟩ | ⟨b, b1, b2, b3, b4, b5⟩
      · exact Or.inl ⟨b1, fun u hu => b2 u ((iP u).mp hu)⟩
      · exact Or.inr ⟨b, b1, b2, b3, (iP b).mpr b4, fun u hu => b5 u ((iP u).mp hu)⟩
theorem t_memories {fX fX1 fM fM1 : sg_F} {LX LM : sg_L} {hl : Bool} {T : Nat → Int32} {n : Nat} {d s k r1 r2 : Int32} (h : rAll fX fM LX LM) (hm : mOk (fX 2)) (hq : pOk (fX 2)) (hc : xCx (fX 2) (fX 1 3).toInt hl T n fX) (hC : mCx (fX 2) hl T n fM) (e1 : (r1, fX1) = sX11_memories d s k fX LX) (e2 : (r2, fM1) = sX12_memories d s k fM LM) : r1 = r2 ∧ xLo (fX 2) (fX 1 3).toInt hl T n (fX1 9) ∧ rIdle fX1 fM1 := by
  have hb : 0 ≤ (fX 1 3).toInt ∧ (fX 1 3).toInt ≤ 8 := h.2.2.2.2.2.2 1 3
  have hid := h.2.2.2.2.2.1
  have e13 : fX 1 3 = fM 0 6 := Int32.toInt_inj.mp h.1.1
  have j0 : (0 : Int64).toInt = 0 := by decide
  have j1 : (1 : Int64).toInt = 1 := by decide
  have j3 : (3 : Int64).toInt = 3 := by decide
  have es := Int32.toInt_toInt64 s
  have ek := Int32.toInt_toInt64 k
  have no : ∀ x : Int32, (r1, fX1) = (x, fX) → (r2, fM1) = (x, fM) → r1 = r2 ∧ xLo (fX 2) (fX 1 3).toInt hl T n (fX1 9) ∧ rIdle fX1 fM1 := fun x e1 e2 => by
    obtain ⟨a1, b1⟩ := Prod.mk.inj e1
    obtain ⟨a2, b2⟩ := Prod.mk.inj e2
    exact ⟨by rw [a1, a2], by rw [b1]; exact hc.2.2.2, by rw [b1, b2]; exact hid⟩
  unfold sX11_memories at e1; (repeat first | rw [spl_d] at e1 | rw [spl2_d] at e1)
  unfold sX12_memories at e2; (repeat first | rw [spl_d] at e2 | rw [spl2_d] at e2)
  rw [pX_isShelf] at e1
  rw [pM_within, pM_within, es, ek, j0, j1, j3] at e2
  by_cases q1 : 0 ≤ d.toInt ∧ d.toInt ≤ 5
  case neg =>
    rw [if_neg q1, if_neg zk0] at e1
    rw [mbytes, if_neg q1, if_neg (by decide), if_pos rfl] at e2
    exact no _ e1 e2
  rw [if_pos q1, if_pos rfl] at e1
  have e2n : (¬ (0 ≤ s.toInt ∧ s.toInt ≤ 3) ∨ ¬ (0 ≤ k.toInt ∧ k.toInt ≤ 1)) → (r2, fM1) = (-1, fM) := fun z => by
    have inner : ∀ x : Int32 × sg_F, (if (if 0 ≤ s.toInt ∧ s.toInt ≤ 3 then (1 : Int32) else 0) = 1 then (if (if 0 ≤ k.toInt ∧ k.toInt ≤ 1 then (1 : Int32) else 0) = 1 then x else (-1, fM)) else (-1, fM)) = (-1, fM) := fun x => by
      by_cases z1 : 0 ≤ s.toInt ∧ s.toInt ≤ 3
      · have z2 : ¬ (0 ≤ k.toInt ∧ k.toInt ≤ 1) := z.resolve_left (fun w => w z1)
        rw [if_pos z1, if_pos rfl, if_neg z2, if_neg zk0]
      · rw [if_neg z1, if_neg zk0]
    by_cases y : sX12_bytesIs d fM LM = 1
    · rw [if_pos y, inner] at e2; exact e2
    · rw [if_neg y] at e2
      by_cases y2 : sX12_bytesIs d fM LM = -1
      · rw [if_pos y2] at e2; exact e2
      · rw [if_neg y2, inner] at e2; exact e2
  by_cases q2 : 0 ≤ s.toInt ∧ s.toInt ≤ 3
  case neg =>
    refine no (-1) ?_ (e2n (Or.inl q2))
    by_cases c1 : s.toInt < 0
    · rw [if_pos c1] at e1; exact e1
    · rw [if_neg c1, if_pos (by omega)] at e1; exact e1
  rw [if_neg (show ¬ s.toInt < 0 from by omega), if_neg (show ¬ 3 < s.toInt from by omega)] at e1
  by_cases q3 : 0 ≤ k.toInt ∧ k.toInt ≤ 1
  case neg =>
    refine no (-1) ?_ (e2n (Or.inr q3))
    by_cases c1 : k.toInt < 0
    · rw [if_pos c1] at e1; exact e1
    · rw [if_neg c1, if_pos (by omega)] at e1; exact e1
  rw [if_neg (show ¬ k.toInt < 0 from by omega), if_neg (show ¬ 1 < k.toInt from by omega)] at e1
  rw [if_pos q2, if_pos q3, if_pos rfl, if_pos rfl, if_pos rfl, if_pos rfl] at e2
  rcases h.week hc hC q1 with ⟨a, b⟩ | ⟨a, b⟩ | ⟨b, W, N, f1, a, hN, hw, e, -⟩
  · rw [a] at e1; dsimp only at e1; rw [if_neg (by decide)] at e1
    rw [b, if_neg (by decide), if_neg (by decide)] at e2
    exact no _ e1 e2
  · rw [a] at e1; dsimp only at e1; rw [if_neg (by decide)] at e1
    rw [b, if_neg (by decide), if_neg (by decide)] at e2
    exact no _ e1 e2
  · obtain ⟨i1, i2, i3, i4, i5, i6, i7⟩ := hid
    have e13' : f1 13 = fX 13 := e 13 (by decide) (by decide) (by decide)
    have e1' : f1 1 = fX 1 := e 1 (by decide) (by decide) (by decide)
    rw [a] at e1; dsimp only at e1; rw [if_pos (by decide)] at e1
    unfold sX4_bestMemories at e1; (repeat first | rw [spl_d] at e1 | rw [spl2_d] at e1)
    rw [b, if_pos rfl] at e2
    obtain ⟨g1, p1, p2, p3, p4, p5, p6⟩ := hw.go hb.2 hm hq hN LX
    rw [p6 (f1 10 2) N hw.2.2.2.2.2.2.2.2 (Nat.le_refl N)] at e1
    have x9 : f1 13 9 = -1 := by rw [e13']; exact i2
    have x7 : f1 13 7 = -1 := by rw [e13']; exact i1
    have hW := hw.2.2.2.2.2.1.W hN
    have hz := xbg f1 LX
    have hB := xSqB (f0 := f1) (L := LX) hb.2 hm hq hN hW (fun z => absurd z (by rw [x9]; decide)) hz.2.2.2.1 p5
    -- what is spared stays below what is paid
    have hJ : ∀ j : Nat, j ≤ N → jS (xSq W (sX4_begin f1 LX) LX j) := by
      intro j
      induction j with
      | zero =>
        intro _
        refine ⟨fun s hs => ?_, ?_⟩
        · show 0 ≤ (sX4_begin f1 LX 16 s).toInt
          rw [hz.2.1 s hs]; decide
        · show sI (sX4_begin f1 LX 16) 8 ≤ (sX4_begin f1 LX 13 6).toInt
          rw [hz.2.2.2.1]
          show 0 + (sX4_begin f1 LX 16 0).toInt + (sX4_begin f1 LX 16 1).toInt + (sX4_begin f1 LX 16 2).toInt + (sX4_begin f1 LX 16 3).toInt + (sX4_begin f1 LX 16 4).toInt + (sX4_begin f1 LX 16 5).toInt + (sX4_begin f1 LX 16 6).toInt + (sX4_begin f1 LX 16 7).toInt ≤ (0 : Int32).toInt
          rw [hz.2.1 0 (by decide), hz.2.1 1 (by decide), hz.2.1 2 (by decide), hz.2.1 3 (by decide), hz.2.1 4 (by decide), hz.2.1 5 (by decide), hz.2.1 6 (by decide), hz.2.1 7 (by decide)]
          decide
      | succ j ih =>
        intro hj
        obtain ⟨u1, u2, u3⟩ := p5 j (by omega)
        exact (ih (by omega)).pass (K := 70000 * (j : Int)) u1 hb.2 hm hq u3 (hW j (by omega)) (by rw [u2.2 9 (by decide) (by decide), x9]; decide) (hB j (by omega)) (by omega) LX
    have hJN := hJ N (Nat.le_refl N)
    have hBN := hB N (Nat.le_refl N)
    have hFN := p5 N (Nat.le_refl N)
    obtain ⟨F, eF⟩ : ∃ z : sg_F, z = xSq W (sX4_begin f1 LX) LX N := ⟨_, rfl⟩
    rw [← eF] at e1 hJN hBN hFN
    have F13 : F 1 3 = f1 1 3 := by rw [hFN.2.1.1 1 (by decide) (by decide) (by decide) (by decide) (by decide) (by decide)]
    -- how many masks
    have hMe : ∃ M : Nat, ((1 : Int32) <<< ((f1 1 3 : Int32) &&& 31)).toInt = M ∧ 1 ≤ M ∧ M ≤ 256 := by
      rcases bn_shl1 (y := f1 1 3) (by rw [e1']; exact hb.1) (by rw [e1']; exact hb.2) with ⟨-, z⟩ | ⟨-, z⟩ | ⟨-, z⟩ | ⟨-, z⟩ | ⟨-, z⟩ | ⟨-, z⟩ | ⟨-, z⟩ | ⟨-, z⟩ | ⟨-, z⟩
      · exact ⟨1, by rw [z]; rfl, by decide, by decide⟩
      · exact ⟨2, by rw [z]; rfl, by decide, by decide⟩
      · exact ⟨4, by rw [z]; rfl, by decide, by decide⟩
      · exact ⟨8, by rw [z]; rfl, by decide, by decide⟩
      · exact ⟨16, by rw [z]; rfl, by decide, by decide⟩
      · exact ⟨32, by rw [z]; rfl, by decide, by decide⟩
      · exact ⟨64, by rw [z]; rfl, by decide, by decide⟩
      · exact ⟨128, by rw [z]; rfl, by decide, by decide⟩
      · exact ⟨256, by rw [z]; rfl, by decide, by decide⟩
    obtain ⟨M, hM, hM1, hM2⟩ := hMe
    obtain ⟨SP, eSP⟩ : ∃ z : Nat → Int, z = fun v => (spN (Int32.ofNat v) (F 16) 8).toInt := ⟨_, rfl⟩
    obtain ⟨PC, ePC⟩ : ∃ z : Nat → Int, z = fun v => (pcI (Int32.ofNat v)).toInt := ⟨_, rfl⟩
    have hSP : ∀ v : Nat, SP v = (spN (Int32.ofNat v) (F 16) 8).toInt := fun v => by rw [eSP]
    have hPC : ∀ v : Nat, PC v = (pcI (Int32.ofNat v)).toInt := fun v => by rw [ePC]
    have hSPb : ∀ v : Nat, v < 256 → SP v = (spN (Int32.ofNat v) (F 16) 8).toInt ∧ 0 ≤ SP v ∧ SP v ≤ (F 13 6).toInt := fun v _ => by
      have := spN_I (k := Int32.ofNat v) (K := 70000 * (N : Int)) hJN.1 (by omega) 8 (Nat.le_refl 8) (by have := hJN.2; omega)
      have e := hSP v
      have := hJN.2
      exact ⟨e, by omega, by omega⟩
    have hP0 : ∀ v : Nat, v < 256 → 0 ≤ PC v := fun v hv => by rw [hPC]; exact (bits_fin ⟨v, hv⟩).2
    have P0 : PC 0 = 0 := by rw [hPC]; exact bits_0
    have S0 : SP 0 = 0 := by
      rw [hSP]
      show (spN 0 (F 16) 8).toInt = 0
      rw [spN_k0]; decide
    -- the class
    obtain ⟨bx, zx, u1, u2, u3, u4, u5⟩ := memX_l (SP := SP) (PC := PC) (F := F) (L := LX) (x0 := s) (x1 := k) (M := M) (by rw [F13]; exact hM) hM2 (fun v _ => hSP v) hPC 256 1 1 0 0 (by decide) (by decide) hM1 (by omega) ⟨0, by decide, rfl, by rw [S0]; decide, by omega, fun v hv _ => by
      have : v = 0 := by omega
      subst this
      exact Or.inr ⟨rfl, Or.inr ⟨rfl, Nat.le_refl _⟩⟩⟩
    rw [u5] at e1
    dsimp only at e1
    -- the reference
    have k0 : (0 : Int32).toInt = 0 := by decide
    obtain ⟨bm, zm, G, v1, v2, v3, v4, v5, v6, v7⟩ := memO_l (d := d) (x1 := s) (x2 := k) (LX := LX) (LM := LM) (W := W) (f := f1) (F := F) (SP := SP) (PC := PC) (M := M) (m := fX 2) (S := (fX 1 3).toInt) (hl := hl) (T := T) (n := n) (N := N) hb.2 hm hq hN eF hM hM1 hM2 hSPb hPC hP0 (by omega) q2 5 0 (-1) 0 fM (by decide) (by omega) (by omega) (by rw [← e13, e1']) ⟨hw, i3, i5, i6, i7, x7, x9⟩ (Or.inl ⟨rfl, fun u hu => by
      unfold inP at hu
      have := hP0 u (by omega)
      have z0 : (0 : Int32).toInt = 0 := by decide
      omega⟩)
    rw [v5] at e2
    have eb : bx = bm := kle_uniq (u3 bm v1 v2) (v3 bx u1 u2)
    subst eb
    obtain ⟨a1, b1⟩ := Prod.mk.inj e1
    obtain ⟨a2, b2⟩ := Prod.mk.inj e2
    refine ⟨?_, by rw [b1]; exact hFN.1.2.2.2, ?_⟩
    · rw [a1, a2]
      by_cases z : k.toInt = 0
      · rw [if_pos z, if_pos z]
      · rw [if_neg z, if_neg z]
        have hs := hSPb bx (by omega)
        have ez : (F 13 6 - zx).toInt = (F 13 6).toInt - zx.toInt := bn_subI (by omega) (by omega)
        exact Int32.toInt_inj.mp (by omega)
    · obtain ⟨w1, w2, w3, w4, w5, w6, w7⟩ := v6
      exact ⟨by rw [b1, hFN.2.1.2 7 (by decide) (by decide)]; exact x7, by rw [b1, hFN.2.1.2 9 (by decide) (by decide)]; exact x9, by rw [b2]; exact w2, by rw [b2]; exact v7, by rw [b2]; exact w3, by rw [b2]; exact w4, fun j => by rw [b2]; exact w5 j⟩
