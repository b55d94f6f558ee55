/-! SITTERS COME -/
theorem bX_come (a b c t : Int32) (f : sg_F) (L : sg_L) (hs : 0 ≤ (f 1 3).toInt ∧ (f 1 3).toInt < 8) : ∃ f1 : sg_F, sX0_comes a b c t f L = (f 1 3 + 1 - 1, f1) ∧ f1 2 = sgu (sgu (sgu (sgu (sgu (sgu (f 2) (8 * (f 1 3).toNatClampNeg) a) (8 * (f 1 3).toNatClampNeg + 1) b) (8 * (f 1 3).toNatClampNeg + 2) c) (8 * (f 1 3).toNatClampNeg + 3) 1) (8 * (f 1 3).toNatClampNeg + 4) 1) (8 * (f 1 3).toNatClampNeg + 5) t ∧ f1 1 3 = f 1 3 + 1 ∧ ∀ k : Nat, k ≠ 1 → k ≠ 2 → k ≠ 9 → f1 k = f k := by
  have k8 : (8 : Int32).toInt = 8 := by decide
  have k1 : (1 : Int32).toInt = 1 := by decide
  have k2 : (2 : Int32).toInt = 2 := by decide
  have k3 : (3 : Int32).toInt = 3 := by decide
  have k4 : (4 : Int32).toInt = 4 := by decide
  have k5 : (5 : Int32).toInt = 5 := by decide
  have em : (f 1 3 * 8).toInt = (f 1 3).toInt * 8 := bn_mulI k8 (by omega) (by omega)
  have cs := bn_clI hs.1
  have c0 := bn_clI (x := f 1 3 * 8) (by omega)
  have i1 : (f 1 3 * 8 + 1).toInt = (f 1 3 * 8).toInt + 1 := (bn_addI (by omega) (by omega)).trans (by omega)
  have i2 : (f 1 3 * 8 + 2).toInt = (f 1 3 * 8).toInt + 2 := (bn_addI (by omega) (by omega)).trans (by omega)
  have i3 : (f 1 3 * 8 + 3).toInt = (f 1 3 * 8).toInt + 3 := (bn_addI (by omega) (by omega)).trans (by omega)
  have i4 : (f 1 3 * 8 + 4).toInt = (f 1 3 * 8).toInt + 4 := (bn_addI (by omega) (by omega)).trans (by omega)
  have i5 : (f 1 3 * 8 + 5).toInt = (f 1 3 * 8).toInt + 5 := (bn_addI (by omega) (by omega)).trans (by omega)
  have c1 := bn_clI (x := f 1 3 * 8 + 1) (by omega)
  have c2 := bn_clI (x := f 1 3 * 8 + 2) (by omega)
  have c3 := bn_clI (x := f 1 3 * 8 + 3) (by omega)
  have c4 := bn_clI (x := f 1 3 * 8 + 4) (by omega)
  have c5 := bn_clI (x := f 1 3 * 8 + 5) (by omega)
  unfold sX0_comes; (repeat first | rw [spl_d] | rw [spl2_d])
  rw [if_pos hs.2]
  simp only [sg_up_s, sg_upup]
  rw [show (f 1 3 * 8).toNatClampNeg = 8 * (f 1 3).toNatClampNeg from by omega, show (f 1 3 * 8 + 1).toNatClampNeg = 8 * (f 1 3).toNatClampNeg + 1 from by omega, show (f 1 3 * 8 + 2).toNatClampNeg = 8 * (f 1 3).toNatClampNeg + 2 from by omega, show (f 1 3 * 8 + 3).toNatClampNeg = 8 * (f 1 3).toNatClampNeg + 3 from by omega, show (f 1 3 * 8 + 4).toNatClampNeg = 8 * (f 1 3).toNatClampNeg + 4 from by omega, show (f 1 3 * 8 + 5).toNatClampNeg = 8 * (f 1 3).toNatClampNeg + 5 from by omega]
  refine ⟨_, rfl, ?_, ?_, fun k h1 h2 h9 => ?_⟩
  · rw [sg_up_n (by decide), bX_forget _ _ _ 2 (by decide), sg_up_s]
  · rw [sg_up_s, sgu_s]
  · rw [sg_up_n h1, bX_forget _ _ _ k h9, sg_up_n h2]
theorem bM_clk {k x : Int32} {n : Nat} (hk : k.toInt = (n : Int)) (hn : n ≤ 56) (hs : 0 ≤ x.toInt ∧ x.toInt < 8) : (k + x).toNatClampNeg = n + x.toNatClampNeg := by
  have i : (k + x).toInt = k.toInt + x.toInt := bn_addI (by omega) (by omega)
  have c := bn_clI hs.1
  have c1 := bn_clI (x := k + x) (by omega)
  omega
theorem bM_adds (a b c t : Int32) (f : sg_F) (L : sg_L) (hs : 0 ≤ (f 0 6).toInt ∧ (f 0 6).toInt < 8) : sX12_adds a b c t f L 1 = sgu (sgu (sgu (sgu (sgu (sgu (sgu (sgu (f 1) (f 0 6).toNatClampNeg a) (8 + (f 0 6).toNatClampNeg) b) (16 + (f 0 6).toNatClampNeg) c) (24 + (f 0 6).toNatClampNeg) 1) (32 + (f 0 6).toNatClampNeg) 1) (40 + (f 0 6).toNatClampNeg) t) (48 + (f 0 6).toNatClampNeg) 0) (56 + (f 0 6).toNatClampNeg) 0 ∧ sX12_adds a b c t f L 0 = sgu (f 0) 6 (f 0 6 + 1) ∧ ∀ k : Nat, k ≠ 0 → k ≠ 1 → sX12_adds a b c t f L k = f k := by
  first
  | (have E : sX12_adds a b c t f L = sg_up (sg_up f 1 (sgu (sgu (sgu (sgu (sgu (sgu (sgu (sgu (f 1) (f 0 6).toNatClampNeg a) (8 + (f 0 6).toNatClampNeg) b) (16 + (f 0 6).toNatClampNeg) c) (24 + (f 0 6).toNatClampNeg) 1) (32 + (f 0 6).toNatClampNeg) 1) (40 + (f 0 6).toNatClampNeg) t) (48 + (f 0 6).toNatClampNeg) 0) (56 + (f 0 6).toNatClampNeg) 0)) 0 (sgu (f 0) 6 (f 0 6 + 1)) := by
       have e1 : ((8 : Int32) + f 0 6).toNatClampNeg = 8 + (f 0 6).toNatClampNeg := bM_clk (n := 8) (by decide) (by decide) hs
       have e2 : ((16 : Int32) + f 0 6).toNatClampNeg = 16 + (f 0 6).toNatClampNeg := bM_clk (n := 16) (by decide) (by decide) hs
       have e3 : ((24 : Int32) + f 0 6).toNatClampNeg = 24 + (f 0 6).toNatClampNeg := bM_clk (n := 24) (by decide) (by decide) hs
       have e4 : ((32 : Int32) + f 0 6).toNatClampNeg = 32 + (f 0 6).toNatClampNeg := bM_clk (n := 32) (by decide) (by decide) hs
       have e5 : ((40 : Int32) + f 0 6).toNatClampNeg = 40 + (f 0 6).toNatClampNeg := bM_clk (n := 40) (by decide) (by decide) hs
       have e6 : ((48 : Int32) + f 0 6).toNatClampNeg = 48 + (f 0 6).toNatClampNeg := bM_clk (n := 48) (by decide) (by decide) hs
       have e7 : ((56 : Int32) + f 0 6).toNatClampNeg = 56 + (f 0 6).toNatClampNeg := bM_clk (n := 56) (by decide) (by decide) hs
       unfold sX12_adds; simp only [spl_d, spl2_d, sg_up_s, sg_upup]
       rw [e1, e2, e3, e4, e5, e6, e7, sg_up_n (by decide)]
     rw [E]; exact ⟨by rw [sg_up_n (by decide), sg_up_s], by rw [sg_up_s], fun k h0 h1 => by rw [sg_up_n h0, sg_up_n h1]⟩)
  | (
     have k8 : (8 : Int32).toInt = 8 := by decide
     have k16 : (16 : Int32).toInt = 16 := by decide
     have k24 : (24 : Int32).toInt = 24 := by decide
     have k32 : (32 : Int32).toInt = 32 := by decide
     have k40 : (40 : Int32).toInt = 40 := by decide
     have k48 : (48 : Int32).toInt = 48 := by decide
     have k56 : (56 : Int32).toInt = 56 := by decide
     have cs := bn_clI hs.1
     have i1 : (8 + f 0 6).toInt = 8 + (f 0 6).toInt := (bn_addI (by omega) (by omega)).trans (by omega)
     have i2 : (16 + f 0 6).toInt = 16 + (f 0 6).toInt := (bn_addI (by omega) (by omega)).trans (by omega)
     have i3 : (24 + f 0 6).toInt = 24 + (f 0 6).toInt := (bn_addI (by omega) (by omega)).trans (by omega)
     have i4 : (32 + f 0 6).toInt = 32 + (f 0 6).toInt := (bn_addI (by omega) (by omega)).trans (by omega)
     have i5 : (40 + f 0 6).toInt = 40 + (f 0 6).toInt := (bn_addI (by omega) (by omega)).trans (by omega)
     have i6 : (48 + f 0 6).toInt = 48 + (f 0 6).toInt := (bn_addI (by omega) (by omega)).trans (by omega)
     have i7 : (56 + f 0 6).toInt = 56 + (f 0 6).toInt := (bn_addI (by omega) (by omega)).trans (by omega)
     have c1 := bn_clI (x := 8 + f 0 6) (by omega)
     have c2 := bn_clI (x := 16 + f 0 6) (by omega)
     have c3 := bn_clI (x := 24 + f 0 6) (by omega)
     have c4 := bn_clI (x := 32 + f 0 6) (by omega)
     have c5 := bn_clI (x := 40 + f 0 6) (by omega)
     have c6 := bn_clI (x := 48 + f 0 6) (by omega)
     have c7 := bn_clI (x := 56 + f 0 6) (by omega)
     unfold sX12_adds; simp only [spl_d, spl2_d, sg_up_s, sg_upup]
     rw [show (8 + f 0 6).toNatClampNeg = 8 + (f 0 6).toNatClampNeg from by omega, show (16 + f 0 6).toNatClampNeg = 16 + (f 0 6).toNatClampNeg from by omega, show (24 + f 0 6).toNatClampNeg = 24 + (f 0 6).toNatClampNeg from by omega, show (32 + f 0 6).toNatClampNeg = 32 + (f 0 6).toNatClampNeg from by omega, show (40 + f 0 6).toNatClampNeg = 40 + (f 0 6).toNatClampNeg from by omega, show (48 + f 0 6).toNatClampNeg = 48 + (f 0 6).toNatClampNeg from by omega, show (56 + f 0 6).toNatClampNeg = 56 + (f 0 6).toNatClampNeg from by omega]
     refine ⟨?_, ?_, fun k h0 h1 => ?_⟩
     · rw [sg_up_n (by decide), sg_up_s]
     · rw [sg_up_n (by decide)]
     · rw [sg_up_n h0, sg_up_n h1])
theorem rNum.come {fX fX1 fM fM1 : sg_F} (h : rNum fX fM) {a b c t : Int32} (hs : 0 ≤ (fX 1 3).toInt ∧ (fX 1 3).toInt < 8) (x1 : fX1 2 = sgu (sgu (sgu (sgu (sgu (sgu (fX 2) (8 * (fX 1 3).toNatClampNeg) a) (8 * (fX 1 3).toNatClampNeg + 1) b) (8 * (fX 1 3).toNatClampNeg + 2) c) (8 * (fX 1 3).toNatClampNeg + 3) 1) (8 * (fX 1 3).toNatClampNeg + 4) 1) (8 * (fX 1 3).toNatClampNeg + 5) t) (x2 : fX1 1 3 = fX 1 3 + 1) (m1 : fM1 1 = sgu (sgu (sgu (sgu (sgu (sgu (sgu (sgu (fM 1) (fM 0 6).toNatClampNeg a) (8 + (fM 0 6).toNatClampNeg) b) (16 + (fM 0 6).toNatClampNeg) c) (24 + (fM 0 6).toNatClampNeg) 1) (32 + (fM 0 6).toNatClampNeg) 1) (40 + (fM 0 6).toNatClampNeg) t) (48 + (fM 0 6).toNatClampNeg) 0) (56 + (fM 0 6).toNatClampNeg) 0) (m2 : fM1 0 6 = fM 0 6 + 1) : rNum fX1 fM1 := by
  have k1 : (1 : Int32).toInt = 1 := by decide
  have ee : fX 1 3 = fM 0 6 := Int32.toInt_inj.mp h.1
  rw [← ee] at m1 m2
  have e1 : (fX 1 3 + 1).toInt = (fX 1 3).toInt + 1 := (bn_addI (by omega) (by omega)).trans (by omega)
  have cs := bn_clI hs.1
  obtain ⟨S, eS⟩ : ∃ z : Nat, z = (fX 1 3).toNatClampNeg := ⟨_, rfl⟩
  rw [← eS] at x1 m1 cs
  have hS : S < 8 := by omega
  refine ⟨by rw [x2, m2], fun p hp => ?_, fun s h1 h2 => ?_⟩
  · rw [x1, m1]
    rcases (show p = 8 * S ∨ p = 8 * S + 1 ∨ p = 8 * S + 2 ∨ p = 8 * S + 3 ∨ p = 8 * S + 4 ∨ p = 8 * S + 5 ∨ p = 8 * S + 6 ∨ p = 8 * S + 7 ∨ (p / 8 ≠ S) from by omega) with q | q | q | q | q | q | q | q | q
    · have z := npl_s (a := S) (b := 0) hS (by omega)
      rw [q, show npl (8 * S) = S from by rw [← Nat.add_zero (8 * S), z]; omega]
      rw [sgu_n (by omega), sgu_n (by omega), sgu_n (by omega), sgu_n (by omega), sgu_n (by omega), sgu_s, sgu_n (by omega), sgu_n (by omega), sgu_n (by omega), sgu_n (by omega), sgu_n (by omega), sgu_n (by omega), sgu_n (by omega), sgu_s]
    · have z := npl_s (a := S) (b := 1) hS (by omega)
      rw [q, z, show 8 * 1 + S = 8 + S from by omega]
      rw [sgu_n (by omega), sgu_n (by omega), sgu_n (by omega), sgu_n (by omega), sgu_s, sgu_n (by omega), sgu_n (by omega), sgu_n (by omega), sgu_n (by omega), sgu_n (by omega), sgu_n (by omega), sgu_s]
    · have z := npl_s (a := S) (b := 2) hS (by omega)
      rw [q, z, show 8 * 2 + S = 16 + S from by omega]
      rw [sgu_n (by omega), sgu_n (by omega), sgu_n (by omega), sgu_s, sgu_n (by omega), sgu_n (by omega), sgu_n (by omega), sgu_n (by omega), sgu_n (by omega), sgu_s]
    · have z := npl_s (a := S) (b := 3) hS (by omega)
      rw [q, z, show 8 * 3 + S = 24 + S from by omega]
      rw [sgu_n (by omega), sgu_n (by omega), sgu_s, sgu_n (by omega), sgu_n (by omega), sgu_n (by omega), sgu_n (by omega), sgu_s]
    · have z := npl_s (a := S) (b := 4) hS (by omega)
      rw [q, z, show 8 * 4 + S = 32 + S from by omega]
      rw [sgu_n (by omega), sgu_s, sgu_n (by omega), sgu_n (by omega), sgu_n (by omega), sgu_s]
    · have z := npl_s (a := S) (b := 5) hS (by omega)
      rw [q, z, show 8 * 5 + S = 40 + S from by omega]
      rw [sgu_s, sgu_n (by omega), sgu_n (by omega), sgu_s]
    · have z := npl_s (a := S) (b := 6) hS (by omega)
      rw [q, z, show 8 * 6 + S = 48 + S from by omega]
      rw [sgu_n (by omega), sgu_n (by omega), sgu_n (by omega), sgu_n (by omega), sgu_n (by omega), sgu_n (by omega), sgu_n (by omega), sgu_s]
      exact (h.2.2 S (by omega) hS).1
    · have z := npl_s (a := S) (b := 7) hS (by omega)
      rw [q, z, show 8 * 7 + S = 56 + S from by omega]
      rw [sgu_n (by omega), sgu_n (by omega), sgu_n (by omega), sgu_n (by omega), sgu_n (by omega), sgu_n (by omega), sgu_s]
      exact (h.2.2 S (by omega) hS).2
    · have hn : ∀ w : Nat, w < 8 → npl p ≠ 8 * w + S := by
        intro w hw z
        rw [← npl_s hS hw] at z
        have := npl_inj z
        omega
      have g0 := hn 0 (by omega)
      have g1 := hn 1 (by omega)
      have g2 := hn 2 (by omega)
      have g3 := hn 3 (by omega)
      have g4 := hn 4 (by omega)
      have g5 := hn 5 (by omega)
      have g6 := hn 6 (by omega)
      have g7 := hn 7 (by omega)
      rw [sgu_n (by omega), sgu_n (by omega), sgu_n (by omega), sgu_n (by omega), sgu_n (by omega), sgu_n (by omega), sgu_n (by omega), sgu_n (by omega), sgu_n (by omega), sgu_n (by omega), sgu_n (by omega), sgu_n (by omega), sgu_n (by omega), sgu_n (by omega)]
      exact h.2.1 p hp
  · rw [x2, e1] at h1
    rw [x1]
    rw [sgu_n (by omega), sgu_n (by omega), sgu_n (by omega), sgu_n (by omega), sgu_n (by omega), sgu_n (by omega), sgu_n (by omega), sgu_n (by omega), sgu_n (by omega), sgu_n (by omega), sgu_n (by omega), sgu_n (by omega)]
    exact h.2.2 s (by omega) h2
theorem rNum.sitter {fX fX1 fM fM1 : sg_F} {LX LM : sg_L} {v t r1 r2 : Int32} (h : rNum fX fM) (hI : sgI loX hiX fX) (e1 : (r1, fX1) = sX11_sitter v t fX LX) (e2 : (r2, fM1) = sX12_sitter v t fM LM) : r1 = r2 ∧ rNum fX1 fM1 ∧ (fX 1 3).toInt ≤ (fX1 1 3).toInt := by
  have hb : 0 ≤ (fX 1 3).toInt ∧ (fX 1 3).toInt ≤ 8 := hI 1 3
  have ee : fX 1 3 = fM 0 6 := Int32.toInt_inj.mp h.1
  have k1 : (1 : Int32).toInt = 1 := by decide
  have j1 : (1 : Int64).toInt = 1 := by decide
  have j12 : (12 : Int64).toInt = 12 := by decide
  have ev := Int32.toInt_toInt64 v
  have et := Int32.toInt_toInt64 t
  have e5 : (5 : Int32).toInt = 5 := by decide
  have l5 : mlo 5 = 1 := by decide
  have h5 : mhi 5 = 12 := by decide
  unfold sX11_sitter at e1; (repeat first | rw [spl_d] at e1 | rw [spl2_d] at e1)
  unfold sX12_sitter at e2; (repeat first | rw [spl_d] at e2 | rw [spl2_d] at e2)
  rw [pX_isSetting, pX_fits t fX LX (by rw [e5]; decide), e5, l5, h5] at e1
  rw [pM_isSetting, pM_within, ev, et, j1, j12, ← ee] at e2
  by_cases c1 : 0 ≤ v.toInt ∧ v.toInt ≤ 60
  case neg =>
    rw [if_neg c1, if_neg zk0] at e1 e2
    obtain ⟨a1, b1⟩ := Prod.mk.inj e1
    obtain ⟨a2, b2⟩ := Prod.mk.inj e2
    rw [a1, a2, b1, b2]; exact ⟨rfl, h, Int.le_refl _⟩
  rw [if_pos c1, if_pos rfl] at e1 e2
  by_cases c2 : 1 ≤ t.toInt ∧ t.toInt ≤ 12
  case neg =>
    rw [if_neg c2, if_neg zk0] at e1 e2
    obtain ⟨a1, b1⟩ := Prod.mk.inj e1
    obtain ⟨a2, b2⟩ := Prod.mk.inj e2
    rw [a1, a2, b1, b2]; exact ⟨rfl, h, Int.le_refl _⟩
  rw [if_pos c2, if_pos rfl] at e1 e2
  by_cases c3 : (fX 1 3).toInt < 8
  · rw [if_neg (by omega)] at e2
    obtain ⟨f1, q1, q2, q3, q4⟩ := bX_come v v v t fX LX ⟨hb.1, c3⟩
    obtain ⟨u1, u2, u3⟩ := bM_adds v v v t fM LM (by rw [← ee]; exact ⟨hb.1, c3⟩)
    rw [q1] at e1
    obtain ⟨a1, b1⟩ := Prod.mk.inj e1
    obtain ⟨a2, b2⟩ := Prod.mk.inj e2
    have u0 : sX12_adds v v v t fM LM 0 6 = fX 1 3 + 1 := by rw [u2, sgu_s, ee]
    have e9 : (fX 1 3 + 1).toInt = (fX 1 3).toInt + 1 := (bn_addI (by omega) (by omega)).trans (by omega)
    refine ⟨by rw [a1, a2, u0], ?_, ?_⟩
    · rw [b1, b2]
      exact h.come ⟨hb.1, c3⟩ q2 q3 u1 (by rw [u0, ee])
    · rw [b1]; show (fX 1 3).toInt ≤ (f1 1 3).toInt; rw [q3, e9]; omega
  · rw [if_pos (by omega)] at e2
    have e1 : (r1, fX1) = sX0_comes v v v t fX LX := e1
    unfold sX0_comes at e1; (repeat first | rw [spl_d] at e1 | rw [spl2_d] at e1)
    rw [if_neg c3] at e1
    obtain ⟨a1, b1⟩ := Prod.mk.inj e1
    obtain ⟨a2, b2⟩ := Prod.mk.inj e2
    rw [a1, a2, b1, b2]; exact ⟨rfl, h, Int.le_refl _⟩
/-! elements of rows of bytes are bytes -/
def rByte (fX : sg_F) (LX : sg_L) : Prop := ∀ t : Nat, t < 6 → (fX (40 + 2 * t) 1).toInt = 0 → ∀ i : Nat, (i : Int) < (fX (40 + 2 * t) 2).toInt → -128 ≤ (LX (41 + 2 * t) i).toInt ∧ (LX (41 + 2 * t) i).toInt ≤ 127
theorem rByte.zero : rByte f0X L0 := by
  intro t ht h
  rw [f0X_sh ht, sgu_s] at h
  exact absurd h (by decide)
theorem rByte.fr {fX fX1 : sg_F} {LX : sg_L} (h : rByte fX LX) (a : ∀ t j : Nat, fX1 (40 + 2 * t) j = fX (40 + 2 * t) j) : rByte fX1 LX := by
  intro t ht h1 i hi
  rw [a] at h1 hi
  exact h t ht h1 i hi
theorem rByte.keep {fX fX1 : sg_F} {LX : sg_L} {d w r : Int32} (h : rByte fX LX) (e1 : (r, fX1) = sX11_keep d w fX LX) : rByte fX1 LX := by
  rw [bX_keep] at e1
  by_cases q : 0 ≤ d.toInt ∧ d.toInt ≤ 5 ∧ -1 ≤ w.toInt ∧ w.toInt < (fX 36 2).toInt
  · rw [if_pos q] at e1
    obtain ⟨-, a⟩ := Prod.mk.inj e1
    intro t ht h1 i hi
    by_cases z : t = d.toNatClampNeg
    · exfalso
      rw [a, z, shD_s1] at h1
      by_cases y : w.toInt < 0
      · rw [if_pos y] at h1; exact absurd h1 (by decide)
      · rw [if_neg y] at h1; exact absurd h1 (by decide)
    · rw [a, shD_n (by omega)] at h1 hi
      exact h t ht h1 i hi
  · rw [if_neg q] at e1
    obtain ⟨-, a⟩ := Prod.mk.inj e1
    rw [a]; exact h
theorem rByte.row {fX fX1 : sg_F} {LX LX1 : sg_L} {d s n r : Int32} (h : rByte fX LX) (e1 : (r, fX1, LX1) = sX11_row d s n fX LX) : rByte fX1 LX1 := by
  have h1 := bX_row d s n fX LX
  rw [← e1] at h1
  rcases h1 with ⟨q1, q2, q3, q4, q5, q6, q⟩ | ⟨q, r9, g⟩
  · obtain ⟨-, a⟩ := Prod.mk.inj q
    obtain ⟨a, b⟩ := Prod.mk.inj a
    intro t ht h1 i hi
    by_cases z : t = d.toNatClampNeg
    · rw [a, z, shR_s2] at hi
      rw [b, z, sg_up_s]
      unfold zfill
      rw [if_pos ⟨Nat.zero_le _, by have := bn_clI (x := n) (by omega); omega⟩]
      decide
    · rw [a, shR_n (by omega)] at h1 hi
      rw [b, sg_up_n (by omega)]
      exact h t ht h1 i hi
  · obtain ⟨-, a⟩ := Prod.mk.inj g
    obtain ⟨a, b⟩ := Prod.mk.inj a
    rw [a, b]; exact h
theorem byte_cut (v : Int64) : -128 ≤ (cutF 0 v).toInt ∧ (cutF 0 v).toInt ≤ 127 := by
  unfold cutF
  rw [if_pos rfl, Int32.toInt_toInt64, Int8.toInt_toInt32]
  have h1 := Int8.le_toInt (Int32.toInt8 (Int64.toInt32 v))
  have h2 := Int8.toInt_lt (Int32.toInt8 (Int64.toInt32 v))
  exact ⟨by omega, by omega⟩
theorem rByte.put {fX : sg_F} {LX LX1 : sg_L} {d i r : Int32} {v : Int64} (h : rByte fX LX) (hI : sgI loX hiX fX) (e1 : (r, LX1) = sX11_put d i v fX LX) : rByte fX LX1 := by
  obtain ⟨hs, hb⟩ := shB hI
  have a1 := rfX_at d i fX LX hs hb
  have o1 := okX_iff a1
  unfold sX11_put at e1; (repeat first | rw [spl_d] at e1 | rw [spl2_d] at e1)
  rw [bX_cut] at e1
  by_cases q : sX11_refusalAt d i fX LX = 0
  · rw [if_pos q] at e1
    obtain ⟨-, b⟩ := Prod.mk.inj e1
    intro t ht h1 j hj
    rw [b]
    by_cases z : t = d.toNatClampNeg
    · rw [z, sg_up_s]
      by_cases y : j = i.toNatClampNeg
      · rw [y, sgu_s, ← z, h1]; exact byte_cut v
      · rw [sgu_n y, ← z]; exact h t ht h1 j hj
    · rw [sg_up_n (by omega)]; exact h t ht h1 j hj
  · rw [if_neg q] at e1
    obtain ⟨-, b⟩ := Prod.mk.inj e1
    rw [b]; exact h
/-- what shift leaves of the class's elements -/
theorem bX_shift (d i e j n : Int32) (f : sg_F) (L : sg_L) (hI : sgI loX hiX f) : (sX11_shift d i e j n f L).2 = L ∨ (0 ≤ d.toInt ∧ d.toInt ≤ 5 ∧ 0 ≤ e.toInt ∧ e.toInt ≤ 5 ∧ 0 ≤ i.toInt ∧ 0 ≤ j.toInt ∧ 0 ≤ n.toInt ∧ (f (40 + 2 * d.toNatClampNeg) 1).toInt = (f (40 + 2 * e.toNatClampNeg) 1).toInt ∧ i.toInt + n.toInt ≤ (f (40 + 2 * d.toNatClampNeg) 2).toInt ∧ j.toInt + n.toInt ≤ (f (40 + 2 * e.toNatClampNeg) 2).toInt ∧ (sX11_shift d i e j n f L).2 = sg_up L (41 + 2 * e.toNatClampNeg) (va_cpy (L (41 + 2 * d.toNatClampNeg)) (L (41 + 2 * e.toNatClampNeg)) i.toNatClampNeg j.toNatClampNeg n.toNatClampNeg)) := by
  obtain ⟨hs, hb⟩ := shB hI
  have k0 : (0 : Int32).toInt = 0 := by decide
  have k1 : (1 : Int32).toInt = 1 := by decide
  unfold sX11_shift sX7_isRow; (repeat first | rw [spl_d] | rw [spl2_d])
  rw [pX_isShelf, pX_isShelf]
  by_cases q1 : 0 ≤ d.toInt ∧ d.toInt ≤ 5
  case neg => rw [if_neg q1, if_neg zk0]; exact Or.inl rfl
  by_cases q2 : 0 ≤ e.toInt ∧ e.toInt ≤ 5
  case neg => rw [if_pos q1, if_pos rfl, if_neg q2, if_neg zk0]; exact Or.inl rfl
  have ed := bn_clI q1.1
  have ee := bn_clI q2.1
  rw [pX_hasPlaces _ _ _ _ _ (hb d.toNatClampNeg (by omega)), pX_hasPlaces _ _ _ _ _ (hb e.toNatClampNeg (by omega)), if_pos q1, if_pos rfl, if_pos q2, if_pos rfl]
  by_cases q3 : (f (40 + 2 * d.toNatClampNeg) 1).toInt = -1
  · rw [if_pos q3]; exact Or.inl rfl
  rw [if_neg q3]
  by_cases q4 : (f (40 + 2 * e.toNatClampNeg) 1).toInt = -1
  · rw [if_pos q4]; exact Or.inl rfl
  rw [if_neg q4]
  by_cases q5 : (f (40 + 2 * d.toNatClampNeg) 1).toInt < 0
  · rw [if_pos q5, if_pos k0]; exact Or.inl rfl
  rw [if_neg q5, if_neg (by rw [k1]; decide)]
  by_cases q6 : (f (40 + 2 * d.toNatClampNeg) 1).toInt = (f (40 + 2 * e.toNatClampNeg) 1).toInt
  case neg => rw [if_neg q6]; exact Or.inl rfl
  rw [if_pos q6]
  by_cases q7 : 0 ≤ i.toInt ∧ 0 ≤ n.toInt ∧ i.toInt + n.toInt ≤ (f (40 + 2 * d.toNatClampNeg) 2).toInt
  case neg => rw [if_neg q7, if_neg zk0]; exact Or.inl rfl
  rw [if_pos q7, if_pos rfl]
  by_cases q8 : 0 ≤ j.toInt ∧ 0 ≤ n.toInt ∧ j.toInt + n.toInt ≤ (f (40 + 2 * e.toNatClampNeg) 2).toInt
  case neg => rw [if_neg q8, if_neg zk0]; exact Or.inl rfl
  rw [if_pos q8, if_pos rfl]
  exact Or.inr ⟨q1.1, q1.2, q2.1, q2.2, q7.1, q8.1, q7.2.1, q6, q7.2.2, q8.2.2, rfl⟩
theorem rByte.shift {fX : sg_F} {LX LX1 : sg_L} {d i e j n r : Int32} (h : rByte fX LX) (hI : sgI loX hiX fX) (e1 : (r, LX1) = sX11_shift d i e j n fX LX) : rByte fX LX1 := by
  have a := bX_shift d i e j n fX LX hI
  rw [← e1] at a
  rcases a with a | ⟨q1, q2, q3, q4, q5, q6, q7, q8, q9, q10, a⟩
  · have a : LX1 = LX := a
    rw [a]; exact h
  · have a : LX1 = _ := a
    have ed := bn_clI q1
    have ee := bn_clI q3
    have ei := bn_clI q5
    have ej := bn_clI q6
    have en := bn_clI q7
    intro t ht h1 x hx
    rw [a]
    by_cases z : t = e.toNatClampNeg
    · rw [z, sg_up_s]
      unfold va_cpy
      by_cases w : j.toNatClampNeg ≤ x ∧ x < j.toNatClampNeg + n.toNatClampNeg
      · rw [if_pos w]
        exact h d.toNatClampNeg (by omega) (by rw [q8, ← z]; exact h1) _ (by omega)
      · rw [if_neg w, ← z]; exact h t ht h1 x hx
    · rw [sg_up_n (by omega)]; exact h t ht h1 x hx
/-! sitters from a row -/
theorem l2i_byte {w : Int64} (h : -128 ≤ w.toInt ∧ w.toInt ≤ 127) : (Int64.toInt32 w).toInt = w.toInt := bn_l2i (by omega) (by omega)
/-- a step from the row: who comes, on both sides -/
theorem bX_from (t : Nat) (x : Int32) (f : sg_F) (L : sg_L) (hx : 0 ≤ x.toInt ∧ x.toInt ≤ 56) (hb : 0 ≤ (f 1 3).toInt ∧ (f 1 3).toInt ≤ 8) (hw : ∀ q : Nat, q < 4 → -128 ≤ (L (41 + 2 * t) (x.toNatClampNeg + q)).toInt ∧ (L (41 + 2 * t) (x.toNatClampNeg + q)).toInt ≤ 127) : sX11_comesFrom t x f L = if ((0 ≤ (L (41 + 2 * t) x.toNatClampNeg).toInt ∧ (L (41 + 2 * t) x.toNatClampNeg).toInt ≤ 60) ∧ (0 ≤ (L (41 + 2 * t) (x.toNatClampNeg + 1)).toInt ∧ (L (41 + 2 * t) (x.toNatClampNeg + 1)).toInt ≤ 60) ∧ (0 ≤ (L (41 + 2 * t) (x.toNatClampNeg + 2)).toInt ∧ (L (41 + 2 * t) (x.toNatClampNeg + 2)).toInt ≤ 60) ∧ (1 ≤ (L (41 + 2 * t) (x.toNatClampNeg + 3)).toInt ∧ (L (41 + 2 * t) (x.toNatClampNeg + 3)).toInt ≤ 12)) ∧ (f 1 3).toInt < 8 then (1, (sX0_comes (Int64.toInt32 (L (41 + 2 * t) x.toNatClampNeg)) (Int64.toInt32 (L (41 + 2 * t) (x.toNatClampNeg + 1))) (Int64.toInt32 (L (41 + 2 * t) (x.toNatClampNeg + 2))) (Int64.toInt32 (L (41 + 2 * t) (x.toNatClampNeg + 3))) f L).2) else (0, f) := by
  have k1 : (1 : Int32).toInt = 1 := by decide
  have k2 : (2 : Int32).toInt = 2 := by decide
  have k3 : (3 : Int32).toInt = 3 := by decide
  have m3 : (-3 : Int32).toInt = -3 := by decide
  have e5 : (5 : Int32).toInt = 5 := by decide
  have l5 : mlo 5 = 1 := by decide
  have h5 : mhi 5 = 12 := by decide
  have c0 := bn_clI hx.1
  have i1 : (x + 1).toInt = x.toInt + 1 := (bn_addI (by omega) (by omega)).trans (by omega)
  have i2 : (x + 2).toInt = x.toInt + 2 := (bn_addI (by omega) (by omega)).trans (by omega)
  have i3 : (x + 3).toInt = x.toInt + 3 := (bn_addI (by omega) (by omega)).trans (by omega)
  have c1 := bn_clI (x := x + 1) (by omega)
  have c2 := bn_clI (x := x + 2) (by omega)
  have c3 := bn_clI (x := x + 3) (by omega)
  have w0 := hw 0 (by omega)
  have w1 := hw 1 (by omega)
  have w2 := hw 2 (by omega)
  have w3 := hw 3 (by omega)
  rw [Nat.add_zero] at w0
  unfold sX11_comesFrom; (repeat first | rw [spl_d] | rw [spl2_d])
  rw [show (x + 1).toNatClampNeg = x.toNatClampNeg + 1 from by omega, show (x + 2).toNatClampNeg = x.toNatClampNeg + 2 from by omega, show (x + 3).toNatClampNeg = x.toNatClampNeg + 3 from by omega]
  rw [pX_isSetting, pX_isSetting, pX_isSetting, pX_fits _ f L (by rw [e5]; decide), e5, l5, h5, l2i_byte w0, l2i_byte w1, l2i_byte w2, l2i_byte w3]
  by_cases q0 : 0 ≤ (L (41 + 2 * t) x.toNatClampNeg).toInt ∧ (L (41 + 2 * t) x.toNatClampNeg).toInt ≤ 60
  case neg => rw [if_neg q0, if_neg zk0, if_neg (fun z => q0 z.1.1)]
  rw [if_pos q0, if_pos rfl]
  by_cases q1 : 0 ≤ (L (41 + 2 * t) (x.toNatClampNeg + 1)).toInt ∧ (L (41 + 2 * t) (x.toNatClampNeg + 1)).toInt ≤ 60
  case neg => rw [if_neg q1, if_neg zk0, if_neg (fun z => q1 z.1.2.1)]
  rw [if_pos q1, if_pos rfl]
  by_cases q2 : 0 ≤ (L (41 + 2 * t) (x.toNatClampNeg + 2)).toInt ∧ (L (41 + 2 * t) (x.toNatClampNeg + 2)).toInt ≤ 60
  case neg => rw [if_neg q2, if_neg zk0, if_neg (fun z => q2 z.1.2.2.1)]
  rw [if_pos q2, if_pos rfl]
  by_cases q3 : 1 ≤ (L (41 + 2 * t) (x.toNatClampNeg + 3)).toInt ∧ (L (41 + 2 * t) (x.toNatClampNeg + 3)).toInt ≤ 12
  case neg => rw [if_neg q3, if_neg zk0, if_neg (fun z => q3 z.1.2.2.2)]
  rw [if_pos q3, if_pos rfl]
  by_cases q4 : (f 1 3).toInt < 8
  · refine Eq.trans ?_ (if_pos ⟨⟨q0, q1, q2, q3⟩, q4⟩).symm
    obtain ⟨f1, z1, -, -, -⟩ := bX_come (Int64.toInt32 (L (41 + 2 * t) x.toNatClampNeg)) (Int64.toInt32 (L (41 + 2 * t) (x.toNatClampNeg + 1))) (Int64.toInt32 (L (41 + 2 * t) (x.toNatClampNeg + 2))) (Int64.toInt32 (L (41 + 2 * t) (x.toNatClampNeg + 3))) f L ⟨hb.1, q4⟩
    have e9 : (f 1 3 + 1).toInt = (f 1 3).toInt + 1 := (bn_addI (by omega) (by omega)).trans (by omega)
    have e8 : (f 1 3 + 1 - 1).toInt = (f 1 3 + 1).toInt - 1 := (bn_subI (by omega) (by omega)).trans (by omega)
    rw [z1, if_neg (show ¬ (f 1 3 + 1 - 1).toInt < 0 from by omega)]
  · refine Eq.trans ?_ (if_neg (fun z => q4 z.2)).symm
    have z1 : sX0_comes (Int64.toInt32 (L (41 + 2 * t) x.toNatClampNeg)) (Int64.toInt32 (L (41 + 2 * t) (x.toNatClampNeg + 1))) (Int64.toInt32 (L (41 + 2 * t) (x.toNatClampNeg + 2))) (Int64.toInt32 (L (41 + 2 * t) (x.toNatClampNeg + 3))) f L = (-3, f) := by
      unfold sX0_comes; (repeat first | rw [spl_d] | rw [spl2_d])
      rw [if_neg q4]
    rw [z1, if_pos (show (-3 : Int32).toInt < 0 from by decide)]
theorem bX_from1 (t : Nat) (x : Int32) (f : sg_F) (L : sg_L) (hx : 0 ≤ x.toInt ∧ x.toInt ≤ 56) (hb : 0 ≤ (f 1 3).toInt ∧ (f 1 3).toInt ≤ 8) (hw : ∀ q : Nat, q < 4 → -128 ≤ (L (41 + 2 * t) (x.toNatClampNeg + q)).toInt ∧ (L (41 + 2 * t) (x.toNatClampNeg + q)).toInt ≤ 127) (c : ((0 ≤ (L (41 + 2 * t) x.toNatClampNeg).toInt ∧ (L (41 + 2 * t) x.toNatClampNeg).toInt ≤ 60) ∧ (0 ≤ (L (41 + 2 * t) (x.toNatClampNeg + 1)).toInt ∧ (L (41 + 2 * t) (x.toNatClampNeg + 1)).toInt ≤ 60) ∧ (0 ≤ (L (41 + 2 * t) (x.toNatClampNeg + 2)).toInt ∧ (L (41 + 2 * t) (x.toNatClampNeg + 2)).toInt ≤ 60) ∧ (1 ≤ (L (41 + 2 * t) (x.toNatClampNeg + 3)).toInt ∧ (L (41 + 2 * t) (x.toNatClampNeg + 3)).toInt ≤ 12)) ∧ (f 1 3).toInt < 8) : sX11_comesFrom t x f L = (1, (sX0_comes (Int64.toInt32 (L (41 + 2 * t) x.toNatClampNeg)) (Int64.toInt32 (L (41 + 2 * t) (x.toNatClampNeg + 1))) (Int64.toInt32 (L (41 + 2 * t) (x.toNatClampNeg + 2))) (Int64.toInt32 (L (41 + 2 * t) (x.toNatClampNeg + 3))) f L).2) := (bX_from t x f L hx hb hw).trans (if_pos c)
theorem bX_from0 (t : Nat) (x : Int32) (f : sg_F) (L : sg_L) (hx : 0 ≤ x.toInt ∧ x.toInt ≤ 56) (hb : 0 ≤ (f 1 3).toInt ∧ (f 1 3).toInt ≤ 8) (hw : ∀ q : Nat, q < 4 → -128 ≤ (L (41 + 2 * t) (x.toNatClampNeg + q)).toInt ∧ (L (41 + 2 * t) (x.toNatClampNeg + q)).toInt ≤ 127) (c : ¬ (((0 ≤ (L (41 + 2 * t) x.toNatClampNeg).toInt ∧ (L (41 + 2 * t) x.toNatClampNeg).toInt ≤ 60) ∧ (0 ≤ (L (41 + 2 * t) (x.toNatClampNeg + 1)).toInt ∧ (L (41 + 2 * t) (x.toNatClampNeg + 1)).toInt ≤ 60) ∧ (0 ≤ (L (41 + 2 * t) (x.toNatClampNeg + 2)).toInt ∧ (L (41 + 2 * t) (x.toNatClampNeg + 2)).toInt ≤ 60) ∧ (1 ≤ (L (41 + 2 * t) (x.toNatClampNeg + 3)).toInt ∧ (L (41 + 2 * t) (x.toNatClampNeg + 3)).toInt ≤ 12)) ∧ (f 1 3).toInt < 8)) : sX11_comesFrom t x f L = (0, f) := (bX_from t x f L hx hb hw).trans (if_neg c)
theorem bM_stop (d i n y : Int32) (m : Nat) (g : sg_F) (L : sg_L) : sX12_sitters_l69 d i n (m + 1) y 0 g L = (y, g) := by
  show sX12_sitters_h69 d i n (sX12_sitters_l69 d i n m) y 0 g L = (y, g)
  unfold sX12_sitters_h69; (repeat first | rw [spl_d] | rw [spl2_d])
  rw [if_pos (by decide)]
theorem from_two (d i n u : Int32) (len : Int) (LX LM : sg_L) (hd : 0 ≤ d.toInt ∧ d.toInt ≤ 5) (hi : 0 ≤ i.toInt) (hn : 1 ≤ n.toInt ∧ n.toInt ≤ 8) (hlen : 0 ≤ len ∧ len ≤ 60) (hel : ∀ j : Nat, (j : Int) < len → LX (41 + 2 * d.toNatClampNeg) j = LM 24 (60 * d.toNatClampNeg + j)) (hby : ∀ j : Nat, (j : Int) < len → -128 ≤ (LX (41 + 2 * d.toNatClampNeg) j).toInt ∧ (LX (41 + 2 * d.toNatClampNeg) j).toInt ≤ 127) : ∀ (m m2 : Nat) (y z : Int32) (f g : sg_F), z.toInt = i.toInt + 4 * y.toInt → (y.toInt = 0 ∨ z.toInt ≤ len) → 0 ≤ y.toInt → y.toInt ≤ n.toInt → n.toInt - y.toInt < (m : Int) → n.toInt - y.toInt + 2 < (m2 : Int) → (f (40 + 2 * d.toNatClampNeg) 2).toInt = len → (g 23 d.toNatClampNeg).toInt = len → rNum f g → 0 ≤ (f 1 3).toInt ∧ (f 1 3).toInt ≤ 8 → ∃ (r : Int32) (f1 g1 : sg_F), sX11_fromRow_l6 d.toNatClampNeg u n m y z f LX = (r, f1) ∧ sX12_sitters_l69 d i n m2 y 1 g LM = (r, g1) ∧ rNum f1 g1 ∧ (f 1 3).toInt ≤ (f1 1 3).toInt := by
  have k1 : (1 : Int32).toInt = 1 := by decide
  have k0 : (0 : Int32).toInt = 0 := by decide
  have k2 : (2 : Int32).toInt = 2 := by decide
  have k3 : (3 : Int32).toInt = 3 := by decide
  have k4 : (4 : Int32).toInt = 4 := by decide
  have k60 : (60 : Int32).toInt = 60 := by decide
  have j0 : (0 : Int64).toInt = 0 := by decide
  have j1 : (1 : Int64).toInt = 1 := by decide
  have j12 : (12 : Int64).toInt = 12 := by decide
  have cd := bn_clI hd.1
  intro m
  induction m with
  | zero => intro m2 y z f g _ _ _ _ h; exact absurd h (by omega)
  | succ m ih =>
    intro m2 y z f g hz hzl hy hyn hm hm2 hf hg hN hb
    match m2, hm2 with
    | 0, h => exact absurd h (by omega)
    | 1, h => exact absurd h (by omega)
    | m2 + 2, hm2 =>
      have gx : sX11_fromRow_l6 d.toNatClampNeg u n (m + 1) y z f LX = sX11_fromRow_h6 d.toNatClampNeg u n (sX11_fromRow_l6 d.toNatClampNeg u n m) y z f LX := rfl
      have gm : sX12_sitters_l69 d i n (m2 + 2) y 1 g LM = sX12_sitters_h69 d i n (sX12_sitters_l69 d i n (m2 + 1)) y 1 g LM := rfl
      rw [gx, gm]
      unfold sX11_fromRow_h6 sX12_sitters_h69; (repeat first | rw [spl_d] | rw [spl2_d])
      rw [if_neg (show ¬ (1 : Int32).toInt = 0 by decide)]
      by_cases c1 : y.toInt < n.toInt
      case neg => rw [if_neg c1, if_neg c1]; exact ⟨y, f, g, rfl, rfl, hN, Int.le_refl _⟩
      rw [if_pos c1, if_pos c1, pX_hasPlaces _ _ _ _ _ (by omega), hf, k4]
      have e1 : (g 23 d.toNatClampNeg - 4).toInt = (g 23 d.toNatClampNeg).toInt - 4 := (bn_subI (by omega) (by omega)).trans (by omega)
      have e2 : (4 * y).toInt = 4 * y.toInt := bn_mulJ k4 (by omega) (by omega)
      have e3 : (g 23 d.toNatClampNeg - 4 - 4 * y).toInt = (g 23 d.toNatClampNeg - 4).toInt - (4 * y).toInt := bn_subI (by omega) (by omega)
      rw [e3, e1, e2, hg]
      by_cases c2 : 0 ≤ z.toInt ∧ (0 : Int) ≤ 4 ∧ z.toInt + 4 ≤ len
      case neg =>
        rw [if_neg c2, if_neg zk0, if_pos (by omega), bM_stop]
        exact ⟨y, f, g, rfl, rfl, hN, Int.le_refl _⟩
      rw [if_pos c2, if_pos rfl, if_neg (show ¬ len - 4 - 4 * y.toInt < i.toInt from by omega)]
      have ee : f 1 3 = g 0 6 := Int32.toInt_inj.mp hN.1
      have cz := bn_clI c2.1
      have em : (60 * d).toInt = 60 * d.toInt := bn_mulJ k60 (by omega) (by omega)
      have ea : (60 * d + i).toInt = (60 * d).toInt + i.toInt := bn_addI (by omega) (by omega)
      have ek : (60 * d + i + 4 * y).toInt = (60 * d + i).toInt + (4 * y).toInt := bn_addI (by omega) (by omega)
      have ck := bn_clI (x := 60 * d + i + 4 * y) (by omega)
      have q1 : (60 * d + i + 4 * y + 1).toInt = (60 * d + i + 4 * y).toInt + 1 := (bn_addI (by omega) (by omega)).trans (by omega)
      have q2 : (60 * d + i + 4 * y + 2).toInt = (60 * d + i + 4 * y).toInt + 2 := (bn_addI (by omega) (by omega)).trans (by omega)
      have q3 : (60 * d + i + 4 * y + 3).toInt = (60 * d + i + 4 * y).toInt + 3 := (bn_addI (by omega) (by omega)).trans (by omega)
      have ck1 := bn_clI (x := 60 * d + i + 4 * y + 1) (by omega)
      have ck2 := bn_clI (x := 60 * d + i + 4 * y + 2) (by omega)
      have ck3 := bn_clI (x := 60 * d + i + 4 * y + 3) (by omega)
      have w0 : LM 24 (60 * d + i + 4 * y).toNatClampNeg = LX (41 + 2 * d.toNatClampNeg) z.toNatClampNeg := by rw [hel _ (by omega)]; exact congrArg _ (by omega)
      have w1 : LM 24 (60 * d + i + 4 * y + 1).toNatClampNeg = LX (41 + 2 * d.toNatClampNeg) (z.toNatClampNeg + 1) := by rw [hel _ (by omega)]; exact congrArg _ (by omega)
      have w2 : LM 24 (60 * d + i + 4 * y + 2).toNatClampNeg = LX (41 + 2 * d.toNatClampNeg) (z.toNatClampNeg + 2) := by rw [hel _ (by omega)]; exact congrArg _ (by omega)
      have w3 : LM 24 (60 * d + i + 4 * y + 3).toNatClampNeg = LX (41 + 2 * d.toNatClampNeg) (z.toNatClampNeg + 3) := by rw [hel _ (by omega)]; exact congrArg _ (by omega)
      rw [w0, w1, w2, w3, pM_isSetting, pM_isSetting, pM_isSetting, pM_within, j1, j12, ← ee]
      have F0 := bX_from0 d.toNatClampNeg z f LX ⟨c2.1, by omega⟩ hb (fun q hq => hby _ (by omega))
      have F1 := bX_from1 d.toNatClampNeg z f LX ⟨c2.1, by omega⟩ hb (fun q hq => hby _ (by omega))
      obtain ⟨A0, hA0⟩ : ∃ v : Int64, v = LX (41 + 2 * d.toNatClampNeg) z.toNatClampNeg := ⟨_, rfl⟩
      obtain ⟨A1, hA1⟩ : ∃ v : Int64, v = LX (41 + 2 * d.toNatClampNeg) (z.toNatClampNeg + 1) := ⟨_, rfl⟩
      obtain ⟨A2, hA2⟩ : ∃ v : Int64, v = LX (41 + 2 * d.toNatClampNeg) (z.toNatClampNeg + 2) := ⟨_, rfl⟩
      obtain ⟨A3, hA3⟩ : ∃ v : Int64, v = LX (41 + 2 * d.toNatClampNeg) (z.toNatClampNeg + 3) := ⟨_, rfl⟩
      rw [← hA0, ← hA1, ← hA2, ← hA3] at F0 F1 ⊢
      have stop : ∃ (r : Int32) (f1 g1 : sg_F), (y, f) = (r, f1) ∧ sX12_sitters_l69 d i n (m2 + 1) y 0 g LM = (r, g1) ∧ rNum f1 g1 ∧ (f 1 3).toInt ≤ (f1 1 3).toInt := ⟨y, f, g, rfl, bM_stop d i n y m2 g LM, hN, Int.le_refl _⟩
      by_cases c3 : (f 1 3).toInt < 8
      case neg => rw [F0 (fun w => c3 w.2), if_pos k0, if_neg c3]; exact stop
      rw [if_pos c3]
      by_cases s0 : 0 ≤ A0.toInt ∧ A0.toInt ≤ 60
      case neg => rw [F0 (fun w => s0 w.1.1), if_pos k0, if_neg s0, if_neg zk0]; exact stop
      rw [if_pos s0, if_pos rfl]
      by_cases s1 : 0 ≤ A1.toInt ∧ A1.toInt ≤ 60
      case neg => rw [F0 (fun w => s1 w.1.2.1), if_pos k0, if_neg s1, if_neg zk0]; exact stop
      rw [if_pos s1, if_pos rfl]
      by_cases s2 : 0 ≤ A2.toInt ∧ A2.toInt ≤ 60
      case neg => rw [F0 (fun w => s2 w.1.2.2.1), if_pos k0, if_neg s2, if_neg zk0]; exact stop
      rw [if_pos s2, if_pos rfl]
      by_cases s3 : 1 ≤ A3.toInt ∧ A3.toInt ≤ 12
      case neg => rw [F0 (fun w => s3 w.1.2.2.2), if_pos k0, if_neg s3, if_neg zk0]; exact stop
      rw [if_pos s3, if_pos rfl, F1 ⟨⟨s0, s1, s2, s3⟩, c3⟩, if_neg (show ¬ (1 : Int32).toInt = 0 by decide)]
      obtain ⟨f1, p1, p2, p3, p4⟩ := bX_come (Int64.toInt32 A0) (Int64.toInt32 A1) (Int64.toInt32 A2) (Int64.toInt32 A3) f LX ⟨hb.1, c3⟩
      obtain ⟨u1, u2, u3⟩ := bM_adds (Int64.toInt32 A0) (Int64.toInt32 A1) (Int64.toInt32 A2) (Int64.toInt32 A3) g LM (by rw [← ee]; exact ⟨hb.1, c3⟩)
      rw [p1]
      have e9 : (f 1 3 + 1).toInt = (f 1 3).toInt + 1 := (bn_addI (by omega) (by omega)).trans (by omega)
      have f13 : (f1 1 3).toInt = (f 1 3).toInt + 1 := by rw [p3]; exact e9
      have ey : (y + 1).toInt = y.toInt + 1 := (bn_addI (by omega) (by omega)).trans (by omega)
      have ez : (z + 4).toInt = z.toInt + 4 := (bn_addI (by omega) (by omega)).trans (by omega)
      obtain ⟨r, f2, g2, o1, o2, o3, o4⟩ := ih (m2 + 1) (y + 1) (z + 4) f1 (sX12_adds (Int64.toInt32 A0) (Int64.toInt32 A1) (Int64.toInt32 A2) (Int64.toInt32 A3) g LM) (by omega) (by omega) (by omega) (by omega) (by omega) (by omega) (by rw [p4 _ (by omega) (by omega) (by omega)]; exact hf) (by rw [u3 23 (by decide) (by decide)]; exact hg) (hN.come ⟨hb.1, c3⟩ p2 p3 u1 (by rw [u2, sgu_s])) (by omega)
      exact ⟨r, f2, g2, o1, o2, o3, by omega⟩
theorem rNum.sitters {fX fX1 fM fM1 : sg_F} {LX LM : sg_L} {d i n r1 r2 : Int32} (h : rNum fX fM) (hs : rShelf fX fM) (he : rEl fX LX LM) (hy : rByte fX LX) (hI : sgI loX hiX fX) (h9 : (fX 36 2).toInt ≤ 50) (e1 : (r1, fX1) = sX11_sitters d i n fX LX) (e2 : (r2, fM1) = sX12_sitters d i n fM LM) : r1 = r2 ∧ rNum fX1 fM1 ∧ (fX 1 3).toInt ≤ (fX1 1 3).toInt := by
  have hb : 0 ≤ (fX 1 3).toInt ∧ (fX 1 3).toInt ≤ 8 := hI 1 3
  obtain ⟨hs1, hs2⟩ := shB hI
  have k0 : (0 : Int32).toInt = 0 := by decide
  have j1 : (1 : Int64).toInt = 1 := by decide
  have j8 : (8 : Int64).toInt = 8 := by decide
  have en := Int32.toInt_toInt64 n
  unfold sX11_sitters at e1; (repeat first | rw [spl_d] at e1 | rw [spl2_d] at e1)
  unfold sX12_sitters sX12_sitters_b44 at e2; (repeat first | rw [spl_d] at e2 | rw [spl2_d] at e2)
  rw [pX_isShelf] at e1
  rw [pM_isShelf, pM_within, j1, j8, en] at e2
  by_cases q1 : 0 ≤ d.toInt ∧ d.toInt ≤ 5
  case neg =>
    rw [if_neg q1, if_neg zk0] at e1 e2
    obtain ⟨a1, b1⟩ := Prod.mk.inj e1
    obtain ⟨a2, b2⟩ := Prod.mk.inj e2
    rw [a1, a2, b1, b2]; exact ⟨rfl, h, Int.le_refl _⟩
  rw [if_pos q1, if_pos rfl] at e1 e2
  by_cases q2 : 1 ≤ n.toInt ∧ n.toInt ≤ 8
  case neg =>
    rw [if_neg q2, if_neg zk0] at e2
    obtain ⟨a2, b2⟩ := Prod.mk.inj e2
    by_cases q3 : n.toInt < 1
    · rw [if_pos q3] at e1
      obtain ⟨a1, b1⟩ := Prod.mk.inj e1
      rw [a1, a2, b1, b2]; exact ⟨rfl, h, Int.le_refl _⟩
    · rw [if_neg q3, if_pos (by omega)] at e1
      obtain ⟨a1, b1⟩ := Prod.mk.inj e1
      rw [a1, a2, b1, b2]; exact ⟨rfl, h, Int.le_refl _⟩
  rw [if_pos q2, if_pos rfl] at e2
  rw [if_neg (by omega), if_neg (by omega)] at e1
  have cd := bn_clI q1.1
  have kb := hs2 d.toNatClampNeg (by omega)
  rcases hs.at q1.1 q1.2 with ⟨a, b⟩ | ⟨a, b, c1, c2⟩ | ⟨a, a4, b, c⟩
  · rw [if_pos a] at e1
    rw [if_pos (by omega), if_neg (by omega), bM_stop] at e2
    obtain ⟨a1, b1⟩ := Prod.mk.inj e1
    obtain ⟨a2, b2⟩ := Prod.mk.inj e2
    rw [a1, a2, b1, b2]; exact ⟨rfl, h, Int.le_refl _⟩
  · rw [if_neg (by omega), if_neg (by omega)] at e1
    rw [if_neg (by omega), if_neg (by omega)] at e2
    obtain ⟨a1, b1⟩ := Prod.mk.inj e1
    obtain ⟨a2, b2⟩ := Prod.mk.inj e2
    rw [a1, a2, b1, b2]; exact ⟨rfl, h, Int.le_refl _⟩
  · by_cases z : (fX (40 + 2 * d.toNatClampNeg) 1).toInt = 0
    · rw [if_neg (by omega), if_pos z] at e1
      rw [if_neg (by omega), if_pos (by omega), if_pos (by omega)] at e2
      have e1 : (r1, fX1) = sX11_fromRow_l6 d.toNatClampNeg i n 9 0 i fX LX := e1
      by_cases y : i.toInt < 0
      · rw [if_pos y, bM_stop] at e2
        have gx : sX11_fromRow_l6 d.toNatClampNeg i n 9 0 i fX LX = sX11_fromRow_h6 d.toNatClampNeg i n (sX11_fromRow_l6 d.toNatClampNeg i n 8) 0 i fX LX := rfl
        rw [gx] at e1
        unfold sX11_fromRow_h6 at e1; (repeat first | rw [spl_d] at e1 | rw [spl2_d] at e1)
        rw [if_pos (by omega), pX_hasPlaces _ _ _ _ _ kb, if_neg (show ¬ (0 ≤ i.toInt ∧ 0 ≤ (4 : Int32).toInt ∧ i.toInt + (4 : Int32).toInt ≤ (fX (40 + 2 * d.toNatClampNeg) 2).toInt) from fun w => by omega), if_neg zk0] at e1
        obtain ⟨a1, b1⟩ := Prod.mk.inj e1
        obtain ⟨a2, b2⟩ := Prod.mk.inj e2
        rw [a1, a2, b1, b2]; exact ⟨rfl, h, Int.le_refl _⟩
      · rw [if_neg y] at e2
        obtain ⟨r, f1, g1, o1, o2, o3, o4⟩ := from_two d i n i (fX (40 + 2 * d.toNatClampNeg) 2).toInt LX LM q1 (by omega) q2 kb (fun j hj => he _ (by omega) a j hj) (fun j hj => hy _ (by omega) z j hj) 9 30 0 i fX fM (by omega) (Or.inl k0) (by omega) (by omega) (by omega) (by omega) rfl c.symm h hb
        rw [o1] at e1
        rw [o2] at e2
        obtain ⟨a1, b1⟩ := Prod.mk.inj e1
        obtain ⟨a2, b2⟩ := Prod.mk.inj e2
        rw [a1, a2, b1, b2]; exact ⟨rfl, o3, o4⟩
    · rw [if_neg (by omega), if_neg z] at e1
      rw [if_neg (by omega), if_neg (by omega)] at e2
      obtain ⟨a1, b1⟩ := Prod.mk.inj e1
      obtain ⟨a2, b2⟩ := Prod.mk.inj e2
      rw [a1, a2, b1, b2]; exact ⟨rfl, h, Int.le_refl _⟩
