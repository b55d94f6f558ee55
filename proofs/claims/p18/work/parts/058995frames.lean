/-! what methods leave alone. Laid by a program (wip/tool/frames.py) -/
theorem sgK.tr2 {W1 W : List (Nat × Nat × Option Nat)} {f0 f f1 : sg_F} (hs : ∀ q ∈ W1, q ∈ W) (h1 : sgK W1 f f1) (h : sgK W f0 f) : sgK W f0 f1 := h.tr h1 hs
theorem sgK.put2 {W : List (Nat × Nat × Option Nat)} {f0 f : sg_F} {k j : Nat} {x : Int32} (hw : sgin W k j = true) (h : sgK W f0 f) : sgK W f0 (sg_up f k (sgu (f k) j x)) := h.put rfl hw
theorem sgK.row2 {W : List (Nat × Nat × Option Nat)} {f0 f : sg_F} {k : Nat} {g : Nat → Int32} (hw : ∀ j : Nat, sgin W k j = true) (h : sgK W f0 f) : sgK W f0 (sg_up f k g) := h.row rfl hw
abbrev fw_sX8_sumGroupsUpTo_0 : List (Nat × Nat × Option Nat) := [(21, 21, none), (22, 22, none)]
set_option maxRecDepth 100000 in
theorem fk_sX8_sumGroupsUpTo_0_h5 (x1 : Int32) (x2 : Int32) (rec_5 : Int32 → sg_F → sg_L → sg_F) (y4_5 : Int32) (fp_5 : sg_F) (L : sg_L) (hrec_5 : ∀ (a0 : Int32) (g : sg_F) (M : sg_L), sgK fw_sX8_sumGroupsUpTo_0 g (rec_5 a0 g M)) : sgK fw_sX8_sumGroupsUpTo_0 fp_5 (sX8_sumGroupsUpTo_0_h5 x1 x2 rec_5 y4_5 fp_5 L) := by
  unfold sX8_sumGroupsUpTo_0_h5; (repeat first | rw [spl_d] | rw [spl2_d] | rw [spl3_d])
  (repeat' split) <;> (repeat first | with_reducible exact sgK.rf | ((with_reducible refine sgK.tr2 ?_ (hrec_5 _ _ _) ?_); exact fun _ h => h) | ((with_reducible refine sgK.put2 ?_ ?_); rfl) | ((with_reducible refine sgK.row2 ?_ ?_); exact fun _ => rfl))
theorem fk_sX8_sumGroupsUpTo_0_l5 (x1 : Int32) (x2 : Int32)  : ∀ (n : Nat) (a0 : Int32) (g : sg_F) (M : sg_L), sgK fw_sX8_sumGroupsUpTo_0 g (sX8_sumGroupsUpTo_0_l5 x1 x2 n a0 g M) := by
  intro n
  induction n with
  | zero => intro a0 g M; exact sgK.rf
  | succ n ih =>
    intro a0 g M
    exact fk_sX8_sumGroupsUpTo_0_h5 x1 x2 (sX8_sumGroupsUpTo_0_l5 x1 x2 n) a0 g M ih
set_option maxRecDepth 100000 in
theorem fk_sX8_sumGroupsUpTo_0 (x1 : Int32) (x2 : Int32) (f : sg_F) (L : sg_L)  : sgK fw_sX8_sumGroupsUpTo_0 f (sX8_sumGroupsUpTo_0 x1 x2 f L) := by
  unfold sX8_sumGroupsUpTo_0; (repeat first | rw [spl_d] | rw [spl2_d] | rw [spl3_d])
  (repeat' split) <;> (repeat first | with_reducible exact sgK.rf | ((with_reducible refine sgK.tr2 ?_ (fk_sX8_sumGroupsUpTo_0_l5 _ _ _ _ _ _) ?_); decide) | ((with_reducible refine sgK.put2 ?_ ?_); rfl) | ((with_reducible refine sgK.row2 ?_ ?_); exact fun _ => rfl))
abbrev fw_sX8_sumGroupsUpTo_1 : List (Nat × Nat × Option Nat) := [(21, 21, none), (22, 22, none)]
set_option maxRecDepth 100000 in
theorem fk_sX8_sumGroupsUpTo_1_h5 (x1 : Int32) (x2 : Int32) (rec_5 : Int32 → sg_F → sg_L → sg_F) (y4_5 : Int32) (fp_5 : sg_F) (L : sg_L) (hrec_5 : ∀ (a0 : Int32) (g : sg_F) (M : sg_L), sgK fw_sX8_sumGroupsUpTo_1 g (rec_5 a0 g M)) : sgK fw_sX8_sumGroupsUpTo_1 fp_5 (sX8_sumGroupsUpTo_1_h5 x1 x2 rec_5 y4_5 fp_5 L) := by
  unfold sX8_sumGroupsUpTo_1_h5; (repeat first | rw [spl_d] | rw [spl2_d] | rw [spl3_d])
  (repeat' split) <;> (repeat first | with_reducible exact sgK.rf | ((with_reducible refine sgK.tr2 ?_ (hrec_5 _ _ _) ?_); exact fun _ h => h) | ((with_reducible refine sgK.put2 ?_ ?_); rfl) | ((with_reducible refine sgK.row2 ?_ ?_); exact fun _ => rfl))
theorem fk_sX8_sumGroupsUpTo_1_l5 (x1 : Int32) (x2 : Int32)  : ∀ (n : Nat) (a0 : Int32) (g : sg_F) (M : sg_L), sgK fw_sX8_sumGroupsUpTo_1 g (sX8_sumGroupsUpTo_1_l5 x1 x2 n a0 g M) := by
  intro n
  induction n with
  | zero => intro a0 g M; exact sgK.rf
  | succ n ih =>
    intro a0 g M
    exact fk_sX8_sumGroupsUpTo_1_h5 x1 x2 (sX8_sumGroupsUpTo_1_l5 x1 x2 n) a0 g M ih
set_option maxRecDepth 100000 in
theorem fk_sX8_sumGroupsUpTo_1 (x1 : Int32) (x2 : Int32) (f : sg_F) (L : sg_L)  : sgK fw_sX8_sumGroupsUpTo_1 f (sX8_sumGroupsUpTo_1 x1 x2 f L) := by
  unfold sX8_sumGroupsUpTo_1; (repeat first | rw [spl_d] | rw [spl2_d] | rw [spl3_d])
  (repeat' split) <;> (repeat first | with_reducible exact sgK.rf | ((with_reducible refine sgK.tr2 ?_ (fk_sX8_sumGroupsUpTo_1_l5 _ _ _ _ _ _) ?_); decide) | ((with_reducible refine sgK.put2 ?_ ?_); rfl) | ((with_reducible refine sgK.row2 ?_ ?_); exact fun _ => rfl))
abbrev fw_sX8_sumGroupsUpTo_2 : List (Nat × Nat × Option Nat) := [(21, 21, none), (22, 22, none)]
set_option maxRecDepth 100000 in
theorem fk_sX8_sumGroupsUpTo_2_h5 (x1 : Int32) (x2 : Int32) (rec_5 : Int32 → sg_F → sg_L → sg_F) (y4_5 : Int32) (fp_5 : sg_F) (L : sg_L) (hrec_5 : ∀ (a0 : Int32) (g : sg_F) (M : sg_L), sgK fw_sX8_sumGroupsUpTo_2 g (rec_5 a0 g M)) : sgK fw_sX8_sumGroupsUpTo_2 fp_5 (sX8_sumGroupsUpTo_2_h5 x1 x2 rec_5 y4_5 fp_5 L) := by
  unfold sX8_sumGroupsUpTo_2_h5; (repeat first | rw [spl_d] | rw [spl2_d] | rw [spl3_d])
  (repeat' split) <;> (repeat first | with_reducible exact sgK.rf | ((with_reducible refine sgK.tr2 ?_ (hrec_5 _ _ _) ?_); exact fun _ h => h) | ((with_reducible refine sgK.put2 ?_ ?_); rfl) | ((with_reducible refine sgK.row2 ?_ ?_); exact fun _ => rfl))
theorem fk_sX8_sumGroupsUpTo_2_l5 (x1 : Int32) (x2 : Int32)  : ∀ (n : Nat) (a0 : Int32) (g : sg_F) (M : sg_L), sgK fw_sX8_sumGroupsUpTo_2 g (sX8_sumGroupsUpTo_2_l5 x1 x2 n a0 g M) := by
  intro n
  induction n with
  | zero => intro a0 g M; exact sgK.rf
  | succ n ih =>
    intro a0 g M
    exact fk_sX8_sumGroupsUpTo_2_h5 x1 x2 (sX8_sumGroupsUpTo_2_l5 x1 x2 n) a0 g M ih
set_option maxRecDepth 100000 in
theorem fk_sX8_sumGroupsUpTo_2 (x1 : Int32) (x2 : Int32) (f : sg_F) (L : sg_L)  : sgK fw_sX8_sumGroupsUpTo_2 f (sX8_sumGroupsUpTo_2 x1 x2 f L) := by
  unfold sX8_sumGroupsUpTo_2; (repeat first | rw [spl_d] | rw [spl2_d] | rw [spl3_d])
  (repeat' split) <;> (repeat first | with_reducible exact sgK.rf | ((with_reducible refine sgK.tr2 ?_ (fk_sX8_sumGroupsUpTo_2_l5 _ _ _ _ _ _) ?_); decide) | ((with_reducible refine sgK.put2 ?_ ?_); rfl) | ((with_reducible refine sgK.row2 ?_ ?_); exact fun _ => rfl))
abbrev fw_sX8_sumGroupsUpTo_3 : List (Nat × Nat × Option Nat) := [(21, 21, none), (22, 22, none)]
set_option maxRecDepth 100000 in
theorem fk_sX8_sumGroupsUpTo_3_h5 (x1 : Int32) (x2 : Int32) (rec_5 : Int32 → sg_F → sg_L → sg_F) (y4_5 : Int32) (fp_5 : sg_F) (L : sg_L) (hrec_5 : ∀ (a0 : Int32) (g : sg_F) (M : sg_L), sgK fw_sX8_sumGroupsUpTo_3 g (rec_5 a0 g M)) : sgK fw_sX8_sumGroupsUpTo_3 fp_5 (sX8_sumGroupsUpTo_3_h5 x1 x2 rec_5 y4_5 fp_5 L) := by
  unfold sX8_sumGroupsUpTo_3_h5; (repeat first | rw [spl_d] | rw [spl2_d] | rw [spl3_d])
  (repeat' split) <;> (repeat first | with_reducible exact sgK.rf | ((with_reducible refine sgK.tr2 ?_ (hrec_5 _ _ _) ?_); exact fun _ h => h) | ((with_reducible refine sgK.put2 ?_ ?_); rfl) | ((with_reducible refine sgK.row2 ?_ ?_); exact fun _ => rfl))
theorem fk_sX8_sumGroupsUpTo_3_l5 (x1 : Int32) (x2 : Int32)  : ∀ (n : Nat) (a0 : Int32) (g : sg_F) (M : sg_L), sgK fw_sX8_sumGroupsUpTo_3 g (sX8_sumGroupsUpTo_3_l5 x1 x2 n a0 g M) := by
  intro n
  induction n with
  | zero => intro a0 g M; exact sgK.rf
  | succ n ih =>
    intro a0 g M
    exact fk_sX8_sumGroupsUpTo_3_h5 x1 x2 (sX8_sumGroupsUpTo_3_l5 x1 x2 n) a0 g M ih
set_option maxRecDepth 100000 in
theorem fk_sX8_sumGroupsUpTo_3 (x1 : Int32) (x2 : Int32) (f : sg_F) (L : sg_L)  : sgK fw_sX8_sumGroupsUpTo_3 f (sX8_sumGroupsUpTo_3 x1 x2 f L) := by
  unfold sX8_sumGroupsUpTo_3; (repeat first | rw [spl_d] | rw [spl2_d] | rw [spl3_d])
  (repeat' split) <;> (repeat first | with_reducible exact sgK.rf | ((with_reducible refine sgK.tr2 ?_ (fk_sX8_sumGroupsUpTo_3_l5 _ _ _ _ _ _) ?_); decide) | ((with_reducible refine sgK.put2 ?_ ?_); rfl) | ((with_reducible refine sgK.row2 ?_ ?_); exact fun _ => rfl))
abbrev fw_sX8_sumGroupsUpTo_4 : List (Nat × Nat × Option Nat) := [(21, 21, none), (22, 22, none)]
set_option maxRecDepth 100000 in
theorem fk_sX8_sumGroupsUpTo_4_h5 (x1 : Int32) (x2 : Int32) (rec_5 : Int32 → sg_F → sg_L → sg_F) (y4_5 : Int32) (fp_5 : sg_F) (L : sg_L) (hrec_5 : ∀ (a0 : Int32) (g : sg_F) (M : sg_L), sgK fw_sX8_sumGroupsUpTo_4 g (rec_5 a0 g M)) : sgK fw_sX8_sumGroupsUpTo_4 fp_5 (sX8_sumGroupsUpTo_4_h5 x1 x2 rec_5 y4_5 fp_5 L) := by
  unfold sX8_sumGroupsUpTo_4_h5; (repeat first | rw [spl_d] | rw [spl2_d] | rw [spl3_d])
  (repeat' split) <;> (repeat first | with_reducible exact sgK.rf | ((with_reducible refine sgK.tr2 ?_ (hrec_5 _ _ _) ?_); exact fun _ h => h) | ((with_reducible refine sgK.put2 ?_ ?_); rfl) | ((with_reducible refine sgK.row2 ?_ ?_); exact fun _ => rfl))
theorem fk_sX8_sumGroupsUpTo_4_l5 (x1 : Int32) (x2 : Int32)  : ∀ (n : Nat) (a0 : Int32) (g : sg_F) (M : sg_L), sgK fw_sX8_sumGroupsUpTo_4 g (sX8_sumGroupsUpTo_4_l5 x1 x2 n a0 g M) := by
  intro n
  induction n with
  | zero => intro a0 g M; exact sgK.rf
  | succ n ih =>
    intro a0 g M
    exact fk_sX8_sumGroupsUpTo_4_h5 x1 x2 (sX8_sumGroupsUpTo_4_l5 x1 x2 n) a0 g M ih
set_option maxRecDepth 100000 in
theorem fk_sX8_sumGroupsUpTo_4 (x1 : Int32) (x2 : Int32) (f : sg_F) (L : sg_L)  : sgK fw_sX8_sumGroupsUpTo_4 f (sX8_sumGroupsUpTo_4 x1 x2 f L) := by
  unfold sX8_sumGroupsUpTo_4; (repeat first | rw [spl_d] | rw [spl2_d] | rw [spl3_d])
  (repeat' split) <;> (repeat first | with_reducible exact sgK.rf | ((with_reducible refine sgK.tr2 ?_ (fk_sX8_sumGroupsUpTo_4_l5 _ _ _ _ _ _) ?_); decide) | ((with_reducible refine sgK.put2 ?_ ?_); rfl) | ((with_reducible refine sgK.row2 ?_ ?_); exact fun _ => rfl))
abbrev fw_sX8_sumGroupsUpTo_5 : List (Nat × Nat × Option Nat) := [(21, 21, none), (22, 22, none)]
set_option maxRecDepth 100000 in
theorem fk_sX8_sumGroupsUpTo_5_h5 (x1 : Int32) (x2 : Int32) (rec_5 : Int32 → sg_F → sg_L → sg_F) (y4_5 : Int32) (fp_5 : sg_F) (L : sg_L) (hrec_5 : ∀ (a0 : Int32) (g : sg_F) (M : sg_L), sgK fw_sX8_sumGroupsUpTo_5 g (rec_5 a0 g M)) : sgK fw_sX8_sumGroupsUpTo_5 fp_5 (sX8_sumGroupsUpTo_5_h5 x1 x2 rec_5 y4_5 fp_5 L) := by
  unfold sX8_sumGroupsUpTo_5_h5; (repeat first | rw [spl_d] | rw [spl2_d] | rw [spl3_d])
  (repeat' split) <;> (repeat first | with_reducible exact sgK.rf | ((with_reducible refine sgK.tr2 ?_ (hrec_5 _ _ _) ?_); exact fun _ h => h) | ((with_reducible refine sgK.put2 ?_ ?_); rfl) | ((with_reducible refine sgK.row2 ?_ ?_); exact fun _ => rfl))
theorem fk_sX8_sumGroupsUpTo_5_l5 (x1 : Int32) (x2 : Int32)  : ∀ (n : Nat) (a0 : Int32) (g : sg_F) (M : sg_L), sgK fw_sX8_sumGroupsUpTo_5 g (sX8_sumGroupsUpTo_5_l5 x1 x2 n a0 g M) := by
  intro n
  induction n with
  | zero => intro a0 g M; exact sgK.rf
  | succ n ih =>
    intro a0 g M
    exact fk_sX8_sumGroupsUpTo_5_h5 x1 x2 (sX8_sumGroupsUpTo_5_l5 x1 x2 n) a0 g M ih
set_option maxRecDepth 100000 in
theorem fk_sX8_sumGroupsUpTo_5 (x1 : Int32) (x2 : Int32) (f : sg_F) (L : sg_L)  : sgK fw_sX8_sumGroupsUpTo_5 f (sX8_sumGroupsUpTo_5 x1 x2 f L) := by
  unfold sX8_sumGroupsUpTo_5; (repeat first | rw [spl_d] | rw [spl2_d] | rw [spl3_d])
  (repeat' split) <;> (repeat first | with_reducible exact sgK.rf | ((with_reducible refine sgK.tr2 ?_ (fk_sX8_sumGroupsUpTo_5_l5 _ _ _ _ _ _) ?_); decide) | ((with_reducible refine sgK.put2 ?_ ?_); rfl) | ((with_reducible refine sgK.row2 ?_ ?_); exact fun _ => rfl))
abbrev fw_sX8_sumGroupsUpTo_6 : List (Nat × Nat × Option Nat) := [(21, 21, none), (22, 22, none)]
set_option maxRecDepth 100000 in
theorem fk_sX8_sumGroupsUpTo_6_h5 (x1 : Int32) (x2 : Int32) (rec_5 : Int32 → sg_F → sg_L → sg_F) (y4_5 : Int32) (fp_5 : sg_F) (L : sg_L) (hrec_5 : ∀ (a0 : Int32) (g : sg_F) (M : sg_L), sgK fw_sX8_sumGroupsUpTo_6 g (rec_5 a0 g M)) : sgK fw_sX8_sumGroupsUpTo_6 fp_5 (sX8_sumGroupsUpTo_6_h5 x1 x2 rec_5 y4_5 fp_5 L) := by
  unfold sX8_sumGroupsUpTo_6_h5; (repeat first | rw [spl_d] | rw [spl2_d] | rw [spl3_d])
  (repeat' split) <;> (repeat first | with_reducible exact sgK.rf | ((with_reducible refine sgK.tr2 ?_ (hrec_5 _ _ _) ?_); exact fun _ h => h) | ((with_reducible refine sgK.put2 ?_ ?_); rfl) | ((with_reducible refine sgK.row2 ?_ ?_); exact fun _ => rfl))
theorem fk_sX8_sumGroupsUpTo_6_l5 (x1 : Int32) (x2 : Int32)  : ∀ (n : Nat) (a0 : Int32) (g : sg_F) (M : sg_L), sgK fw_sX8_sumGroupsUpTo_6 g (sX8_sumGroupsUpTo_6_l5 x1 x2 n a0 g M) := by
  intro n
  induction n with
  | zero => intro a0 g M; exact sgK.rf
  | succ n ih =>
    intro a0 g M
    exact fk_sX8_sumGroupsUpTo_6_h5 x1 x2 (sX8_sumGroupsUpTo_6_l5 x1 x2 n) a0 g M ih
set_option maxRecDepth 100000 in
theorem fk_sX8_sumGroupsUpTo_6 (x1 : Int32) (x2 : Int32) (f : sg_F) (L : sg_L)  : sgK fw_sX8_sumGroupsUpTo_6 f (sX8_sumGroupsUpTo_6 x1 x2 f L) := by
  unfold sX8_sumGroupsUpTo_6; (repeat first | rw [spl_d] | rw [spl2_d] | rw [spl3_d])
  (repeat' split) <;> (repeat first | with_reducible exact sgK.rf | ((with_reducible refine sgK.tr2 ?_ (fk_sX8_sumGroupsUpTo_6_l5 _ _ _ _ _ _) ?_); decide) | ((with_reducible refine sgK.put2 ?_ ?_); rfl) | ((with_reducible refine sgK.row2 ?_ ?_); exact fun _ => rfl))
abbrev fw_sX8_sumGroupsUpTo_7 : List (Nat × Nat × Option Nat) := [(21, 21, none), (22, 22, none)]
set_option maxRecDepth 100000 in
theorem fk_sX8_sumGroupsUpTo_7_h5 (x1 : Int32) (x2 : Int32) (rec_5 : Int32 → sg_F → sg_L → sg_F) (y4_5 : Int32) (fp_5 : sg_F) (L : sg_L) (hrec_5 : ∀ (a0 : Int32) (g : sg_F) (M : sg_L), sgK fw_sX8_sumGroupsUpTo_7 g (rec_5 a0 g M)) : sgK fw_sX8_sumGroupsUpTo_7 fp_5 (sX8_sumGroupsUpTo_7_h5 x1 x2 rec_5 y4_5 fp_5 L) := by
  unfold sX8_sumGroupsUpTo_7_h5; (repeat first | rw [spl_d] | rw [spl2_d] | rw [spl3_d])
  (repeat' split) <;> (repeat first | with_reducible exact sgK.rf | ((with_reducible refine sgK.tr2 ?_ (hrec_5 _ _ _) ?_); exact fun _ h => h) | ((with_reducible refine sgK.put2 ?_ ?_); rfl) | ((with_reducible refine sgK.row2 ?_ ?_); exact fun _ => rfl))
theorem fk_sX8_sumGroupsUpTo_7_l5 (x1 : Int32) (x2 : Int32)  : ∀ (n : Nat) (a0 : Int32) (g : sg_F) (M : sg_L), sgK fw_sX8_sumGroupsUpTo_7 g (sX8_sumGroupsUpTo_7_l5 x1 x2 n a0 g M) := by
  intro n
  induction n with
  | zero => intro a0 g M; exact sgK.rf
  | succ n ih =>
    intro a0 g M
    exact fk_sX8_sumGroupsUpTo_7_h5 x1 x2 (sX8_sumGroupsUpTo_7_l5 x1 x2 n) a0 g M ih
set_option maxRecDepth 100000 in
theorem fk_sX8_sumGroupsUpTo_7 (x1 : Int32) (x2 : Int32) (f : sg_F) (L : sg_L)  : sgK fw_sX8_sumGroupsUpTo_7 f (sX8_sumGroupsUpTo_7 x1 x2 f L) := by
  unfold sX8_sumGroupsUpTo_7; (repeat first | rw [spl_d] | rw [spl2_d] | rw [spl3_d])
  (repeat' split) <;> (repeat first | with_reducible exact sgK.rf | ((with_reducible refine sgK.tr2 ?_ (fk_sX8_sumGroupsUpTo_7_l5 _ _ _ _ _ _) ?_); decide) | ((with_reducible refine sgK.put2 ?_ ?_); rfl) | ((with_reducible refine sgK.row2 ?_ ?_); exact fun _ => rfl))
abbrev fw_sX8_weigh : List (Nat × Nat × Option Nat) := [(17, 17, some 11), (17, 17, some 12), (24, 24, none)]
set_option maxRecDepth 100000 in
theorem fk_sX8_weigh_h57 (rec_57 : Int32 → sg_F → sg_L → sg_F) (y2_57 : Int32) (fp_57 : sg_F) (L : sg_L) (hrec_57 : ∀ (a0 : Int32) (g : sg_F) (M : sg_L), sgK fw_sX8_weigh g (rec_57 a0 g M)) : sgK fw_sX8_weigh fp_57 (sX8_weigh_h57 rec_57 y2_57 fp_57 L) := by
  unfold sX8_weigh_h57; (repeat first | rw [spl_d] | rw [spl2_d] | rw [spl3_d])
  (repeat' split) <;> (repeat first | with_reducible exact sgK.rf | ((with_reducible refine sgK.tr2 ?_ (hrec_57 _ _ _) ?_); exact fun _ h => h) | ((with_reducible refine sgK.put2 ?_ ?_); rfl) | ((with_reducible refine sgK.row2 ?_ ?_); exact fun _ => rfl))
theorem fk_sX8_weigh_l57   : ∀ (n : Nat) (a0 : Int32) (g : sg_F) (M : sg_L), sgK fw_sX8_weigh g (sX8_weigh_l57 n a0 g M) := by
  intro n
  induction n with
  | zero => intro a0 g M; exact sgK.rf
  | succ n ih =>
    intro a0 g M
    exact fk_sX8_weigh_h57 (sX8_weigh_l57 n) a0 g M ih
set_option maxRecDepth 100000 in
theorem fk_sX8_weigh_b45 (y1_45 : Int32) (fp_45 : sg_F) (L : sg_L)  : sgK fw_sX8_weigh fp_45 (sX8_weigh_b45 y1_45 fp_45 L) := by
  unfold sX8_weigh_b45; (repeat first | rw [spl_d] | rw [spl2_d] | rw [spl3_d])
  (repeat' split) <;> (repeat first | with_reducible exact sgK.rf | ((with_reducible refine sgK.tr2 ?_ (fk_sX8_weigh_l57 _ _ _ _) ?_); decide) | ((with_reducible refine sgK.put2 ?_ ?_); rfl) | ((with_reducible refine sgK.row2 ?_ ?_); exact fun _ => rfl))
set_option maxRecDepth 100000 in
theorem fk_sX8_weigh_h4 (rec_4 : Int32 → Int32 → sg_F → sg_L → sg_F) (y1_4 : Int32) (y2_4 : Int32) (fp_4 : sg_F) (L : sg_L) (hrec_4 : ∀ (a0 : Int32) (a1 : Int32) (g : sg_F) (M : sg_L), sgK fw_sX8_weigh g (rec_4 a0 a1 g M)) : sgK fw_sX8_weigh fp_4 (sX8_weigh_h4 rec_4 y1_4 y2_4 fp_4 L) := by
  unfold sX8_weigh_h4; (repeat first | rw [spl_d] | rw [spl2_d] | rw [spl3_d])
  (repeat' split) <;> (repeat first | with_reducible exact sgK.rf | ((with_reducible refine sgK.tr2 ?_ (hrec_4 _ _ _ _) ?_); exact fun _ h => h) | ((with_reducible refine sgK.tr2 ?_ (fk_sX8_weigh_b45 _ _ _) ?_); decide) | ((with_reducible refine sgK.put2 ?_ ?_); rfl) | ((with_reducible refine sgK.row2 ?_ ?_); exact fun _ => rfl))
theorem fk_sX8_weigh_l4   : ∀ (n : Nat) (a0 : Int32) (a1 : Int32) (g : sg_F) (M : sg_L), sgK fw_sX8_weigh g (sX8_weigh_l4 n a0 a1 g M) := by
  intro n
  induction n with
  | zero => intro a0 a1 g M; exact sgK.rf
  | succ n ih =>
    intro a0 a1 g M
    exact fk_sX8_weigh_h4 (sX8_weigh_l4 n) a0 a1 g M ih
set_option maxRecDepth 100000 in
theorem fk_sX8_weigh (f : sg_F) (L : sg_L)  : sgK fw_sX8_weigh f (sX8_weigh f L) := by
  unfold sX8_weigh; (repeat first | rw [spl_d] | rw [spl2_d] | rw [spl3_d])
  (repeat' split) <;> (repeat first | with_reducible exact sgK.rf | ((with_reducible refine sgK.tr2 ?_ (fk_sX8_weigh_l4 _ _ _ _ _) ?_); decide) | ((with_reducible refine sgK.put2 ?_ ?_); rfl) | ((with_reducible refine sgK.row2 ?_ ?_); exact fun _ => rfl))
abbrev fw_sX8_part_8 : List (Nat × Nat × Option Nat) := [(17, 17, some 11), (17, 17, some 12), (24, 24, none)]
set_option maxRecDepth 100000 in
theorem fk_sX8_part_8 (f : sg_F) (L : sg_L)  : sgK fw_sX8_part_8 f (sX8_part_8 f L) := by
  unfold sX8_part_8; (repeat first | rw [spl_d] | rw [spl2_d] | rw [spl3_d])
  (repeat' split) <;> (repeat first | with_reducible exact sgK.rf | ((with_reducible refine sgK.tr2 ?_ (fk_sX8_weigh _ _) ?_); decide) | ((with_reducible refine sgK.put2 ?_ ?_); rfl) | ((with_reducible refine sgK.row2 ?_ ?_); exact fun _ => rfl))
abbrev fw_sX8_part_7 : List (Nat × Nat × Option Nat) := [(17, 17, some 11), (17, 17, some 12), (23, 23, none), (24, 24, none)]
set_option maxRecDepth 100000 in
theorem fk_sX8_part_7_h15 (rec_15 : Int32 → sg_F → sg_L → sg_F) (y2_15 : Int32) (fp_15 : sg_F) (L : sg_L) (hrec_15 : ∀ (a0 : Int32) (g : sg_F) (M : sg_L), sgK fw_sX8_part_7 g (rec_15 a0 g M)) : sgK fw_sX8_part_7 fp_15 (sX8_part_7_h15 rec_15 y2_15 fp_15 L) := by
  unfold sX8_part_7_h15; (repeat first | rw [spl_d] | rw [spl2_d] | rw [spl3_d])
  (repeat' split) <;> (repeat first | with_reducible exact sgK.rf | ((with_reducible refine sgK.tr2 ?_ (hrec_15 _ _ _) ?_); exact fun _ h => h) | ((with_reducible refine sgK.tr2 ?_ (fk_sX8_part_8 _ _) ?_); decide) | ((with_reducible refine sgK.put2 ?_ ?_); rfl) | ((with_reducible refine sgK.row2 ?_ ?_); exact fun _ => rfl))
theorem fk_sX8_part_7_l15   : ∀ (n : Nat) (a0 : Int32) (g : sg_F) (M : sg_L), sgK fw_sX8_part_7 g (sX8_part_7_l15 n a0 g M) := by
  intro n
  induction n with
  | zero => intro a0 g M; exact sgK.rf
  | succ n ih =>
    intro a0 g M
    exact fk_sX8_part_7_h15 (sX8_part_7_l15 n) a0 g M ih
set_option maxRecDepth 100000 in
theorem fk_sX8_part_7 (f : sg_F) (L : sg_L)  : sgK fw_sX8_part_7 f (sX8_part_7 f L) := by
  unfold sX8_part_7; (repeat first | rw [spl_d] | rw [spl2_d] | rw [spl3_d])
  (repeat' split) <;> (repeat first | with_reducible exact sgK.rf | ((with_reducible refine sgK.tr2 ?_ (fk_sX8_part_7_l15 _ _ _ _) ?_); decide) | ((with_reducible refine sgK.tr2 ?_ (fk_sX8_weigh _ _) ?_); decide) | ((with_reducible refine sgK.put2 ?_ ?_); rfl) | ((with_reducible refine sgK.row2 ?_ ?_); exact fun _ => rfl))
abbrev fw_sX8_part_6 : List (Nat × Nat × Option Nat) := [(17, 17, some 11), (17, 17, some 12), (23, 23, none), (24, 24, none)]
set_option maxRecDepth 100000 in
theorem fk_sX8_part_6_h15 (rec_15 : Int32 → sg_F → sg_L → sg_F) (y2_15 : Int32) (fp_15 : sg_F) (L : sg_L) (hrec_15 : ∀ (a0 : Int32) (g : sg_F) (M : sg_L), sgK fw_sX8_part_6 g (rec_15 a0 g M)) : sgK fw_sX8_part_6 fp_15 (sX8_part_6_h15 rec_15 y2_15 fp_15 L) := by
  unfold sX8_part_6_h15; (repeat first | rw [spl_d] | rw [spl2_d] | rw [spl3_d])
  (repeat' split) <;> (repeat first | with_reducible exact sgK.rf | ((with_reducible refine sgK.tr2 ?_ (hrec_15 _ _ _) ?_); exact fun _ h => h) | ((with_reducible refine sgK.tr2 ?_ (fk_sX8_part_7 _ _) ?_); decide) | ((with_reducible refine sgK.put2 ?_ ?_); rfl) | ((with_reducible refine sgK.row2 ?_ ?_); exact fun _ => rfl))
theorem fk_sX8_part_6_l15   : ∀ (n : Nat) (a0 : Int32) (g : sg_F) (M : sg_L), sgK fw_sX8_part_6 g (sX8_part_6_l15 n a0 g M) := by
  intro n
  induction n with
  | zero => intro a0 g M; exact sgK.rf
  | succ n ih =>
    intro a0 g M
    exact fk_sX8_part_6_h15 (sX8_part_6_l15 n) a0 g M ih
set_option maxRecDepth 100000 in
theorem fk_sX8_part_6 (f : sg_F) (L : sg_L)  : sgK fw_sX8_part_6 f (sX8_part_6 f L) := by
  unfold sX8_part_6; (repeat first | rw [spl_d] | rw [spl2_d] | rw [spl3_d])
  (repeat' split) <;> (repeat first | with_reducible exact sgK.rf | ((with_reducible refine sgK.tr2 ?_ (fk_sX8_part_6_l15 _ _ _ _) ?_); decide) | ((with_reducible refine sgK.tr2 ?_ (fk_sX8_weigh _ _) ?_); decide) | ((with_reducible refine sgK.put2 ?_ ?_); rfl) | ((with_reducible refine sgK.row2 ?_ ?_); exact fun _ => rfl))
abbrev fw_sX8_part_5 : List (Nat × Nat × Option Nat) := [(17, 17, some 11), (17, 17, some 12), (23, 23, none), (24, 24, none)]
set_option maxRecDepth 100000 in
theorem fk_sX8_part_5_h15 (rec_15 : Int32 → sg_F → sg_L → sg_F) (y2_15 : Int32) (fp_15 : sg_F) (L : sg_L) (hrec_15 : ∀ (a0 : Int32) (g : sg_F) (M : sg_L), sgK fw_sX8_part_5 g (rec_15 a0 g M)) : sgK fw_sX8_part_5 fp_15 (sX8_part_5_h15 rec_15 y2_15 fp_15 L) := by
  unfold sX8_part_5_h15; (repeat first | rw [spl_d] | rw [spl2_d] | rw [spl3_d])
  (repeat' split) <;> (repeat first | with_reducible exact sgK.rf | ((with_reducible refine sgK.tr2 ?_ (hrec_15 _ _ _) ?_); exact fun _ h => h) | ((with_reducible refine sgK.tr2 ?_ (fk_sX8_part_6 _ _) ?_); decide) | ((with_reducible refine sgK.put2 ?_ ?_); rfl) | ((with_reducible refine sgK.row2 ?_ ?_); exact fun _ => rfl))
theorem fk_sX8_part_5_l15   : ∀ (n : Nat) (a0 : Int32) (g : sg_F) (M : sg_L), sgK fw_sX8_part_5 g (sX8_part_5_l15 n a0 g M) := by
  intro n
  induction n with
  | zero => intro a0 g M; exact sgK.rf
  | succ n ih =>
    intro a0 g M
    exact fk_sX8_part_5_h15 (sX8_part_5_l15 n) a0 g M ih
set_option maxRecDepth 100000 in
theorem fk_sX8_part_5 (f : sg_F) (L : sg_L)  : sgK fw_sX8_part_5 f (sX8_part_5 f L) := by
  unfold sX8_part_5; (repeat first | rw [spl_d] | rw [spl2_d] | rw [spl3_d])
  (repeat' split) <;> (repeat first | with_reducible exact sgK.rf | ((with_reducible refine sgK.tr2 ?_ (fk_sX8_part_5_l15 _ _ _ _) ?_); decide) | ((with_reducible refine sgK.tr2 ?_ (fk_sX8_weigh _ _) ?_); decide) | ((with_reducible refine sgK.put2 ?_ ?_); rfl) | ((with_reducible refine sgK.row2 ?_ ?_); exact fun _ => rfl))
abbrev fw_sX8_part_4 : List (Nat × Nat × Option Nat) := [(17, 17, some 11), (17, 17, some 12), (23, 23, none), (24, 24, none)]
set_option maxRecDepth 100000 in
theorem fk_sX8_part_4_h15 (rec_15 : Int32 → sg_F → sg_L → sg_F) (y2_15 : Int32) (fp_15 : sg_F) (L : sg_L) (hrec_15 : ∀ (a0 : Int32) (g : sg_F) (M : sg_L), sgK fw_sX8_part_4 g (rec_15 a0 g M)) : sgK fw_sX8_part_4 fp_15 (sX8_part_4_h15 rec_15 y2_15 fp_15 L) := by
  unfold sX8_part_4_h15; (repeat first | rw [spl_d] | rw [spl2_d] | rw [spl3_d])
  (repeat' split) <;> (repeat first | with_reducible exact sgK.rf | ((with_reducible refine sgK.tr2 ?_ (hrec_15 _ _ _) ?_); exact fun _ h => h) | ((with_reducible refine sgK.tr2 ?_ (fk_sX8_part_5 _ _) ?_); decide) | ((with_reducible refine sgK.put2 ?_ ?_); rfl) | ((with_reducible refine sgK.row2 ?_ ?_); exact fun _ => rfl))
theorem fk_sX8_part_4_l15   : ∀ (n : Nat) (a0 : Int32) (g : sg_F) (M : sg_L), sgK fw_sX8_part_4 g (sX8_part_4_l15 n a0 g M) := by
  intro n
  induction n with
  | zero => intro a0 g M; exact sgK.rf
  | succ n ih =>
    intro a0 g M
    exact fk_sX8_part_4_h15 (sX8_part_4_l15 n) a0 g M ih
set_option maxRecDepth 100000 in
theorem fk_sX8_part_4 (f : sg_F) (L : sg_L)  : sgK fw_sX8_part_4 f (sX8_part_4 f L) := by
  unfold sX8_part_4; (repeat first | rw [spl_d] | rw [spl2_d] | rw [spl3_d])
  (repeat' split) <;> (repeat first | with_reducible exact sgK.rf | ((with_reducible refine sgK.tr2 ?_ (fk_sX8_part_4_l15 _ _ _ _) ?_); decide) | ((with_reducible refine sgK.tr2 ?_ (fk_sX8_weigh _ _) ?_); decide) | ((with_reducible refine sgK.put2 ?_ ?_); rfl) | ((with_reducible refine sgK.row2 ?_ ?_); exact fun _ => rfl))
abbrev fw_sX8_part_3 : List (Nat × Nat × Option Nat) := [(17, 17, some 11), (17, 17, some 12), (23, 23, none), (24, 24, none)]
set_option maxRecDepth 100000 in
theorem fk_sX8_part_3_h15 (rec_15 : Int32 → sg_F → sg_L → sg_F) (y2_15 : Int32) (fp_15 : sg_F) (L : sg_L) (hrec_15 : ∀ (a0 : Int32) (g : sg_F) (M : sg_L), sgK fw_sX8_part_3 g (rec_15 a0 g M)) : sgK fw_sX8_part_3 fp_15 (sX8_part_3_h15 rec_15 y2_15 fp_15 L) := by
  unfold sX8_part_3_h15; (repeat first | rw [spl_d] | rw [spl2_d] | rw [spl3_d])
  (repeat' split) <;> (repeat first | with_reducible exact sgK.rf | ((with_reducible refine sgK.tr2 ?_ (hrec_15 _ _ _) ?_); exact fun _ h => h) | ((with_reducible refine sgK.tr2 ?_ (fk_sX8_part_4 _ _) ?_); decide) | ((with_reducible refine sgK.put2 ?_ ?_); rfl) | ((with_reducible refine sgK.row2 ?_ ?_); exact fun _ => rfl))
theorem fk_sX8_part_3_l15   : ∀ (n : Nat) (a0 : Int32) (g : sg_F) (M : sg_L), sgK fw_sX8_part_3 g (sX8_part_3_l15 n a0 g M) := by
  intro n
  induction n with
  | zero => intro a0 g M; exact sgK.rf
  | succ n ih =>
    intro a0 g M
    exact fk_sX8_part_3_h15 (sX8_part_3_l15 n) a0 g M ih
set_option maxRecDepth 100000 in
theorem fk_sX8_part_3 (f : sg_F) (L : sg_L)  : sgK fw_sX8_part_3 f (sX8_part_3 f L) := by
  unfold sX8_part_3; (repeat first | rw [spl_d] | rw [spl2_d] | rw [spl3_d])
  (repeat' split) <;> (repeat first | with_reducible exact sgK.rf | ((with_reducible refine sgK.tr2 ?_ (fk_sX8_part_3_l15 _ _ _ _) ?_); decide) | ((with_reducible refine sgK.tr2 ?_ (fk_sX8_weigh _ _) ?_); decide) | ((with_reducible refine sgK.put2 ?_ ?_); rfl) | ((with_reducible refine sgK.row2 ?_ ?_); exact fun _ => rfl))
abbrev fw_sX8_part_2 : List (Nat × Nat × Option Nat) := [(17, 17, some 11), (17, 17, some 12), (23, 23, none), (24, 24, none)]
set_option maxRecDepth 100000 in
theorem fk_sX8_part_2_h15 (rec_15 : Int32 → sg_F → sg_L → sg_F) (y2_15 : Int32) (fp_15 : sg_F) (L : sg_L) (hrec_15 : ∀ (a0 : Int32) (g : sg_F) (M : sg_L), sgK fw_sX8_part_2 g (rec_15 a0 g M)) : sgK fw_sX8_part_2 fp_15 (sX8_part_2_h15 rec_15 y2_15 fp_15 L) := by
  unfold sX8_part_2_h15; (repeat first | rw [spl_d] | rw [spl2_d] | rw [spl3_d])
  (repeat' split) <;> (repeat first | with_reducible exact sgK.rf | ((with_reducible refine sgK.tr2 ?_ (hrec_15 _ _ _) ?_); exact fun _ h => h) | ((with_reducible refine sgK.tr2 ?_ (fk_sX8_part_3 _ _) ?_); decide) | ((with_reducible refine sgK.put2 ?_ ?_); rfl) | ((with_reducible refine sgK.row2 ?_ ?_); exact fun _ => rfl))
theorem fk_sX8_part_2_l15   : ∀ (n : Nat) (a0 : Int32) (g : sg_F) (M : sg_L), sgK fw_sX8_part_2 g (sX8_part_2_l15 n a0 g M) := by
  intro n
  induction n with
  | zero => intro a0 g M; exact sgK.rf
  | succ n ih =>
    intro a0 g M
    exact fk_sX8_part_2_h15 (sX8_part_2_l15 n) a0 g M ih
set_option maxRecDepth 100000 in
theorem fk_sX8_part_2 (f : sg_F) (L : sg_L)  : sgK fw_sX8_part_2 f (sX8_part_2 f L) := by
  unfold sX8_part_2; (repeat first | rw [spl_d] | rw [spl2_d] | rw [spl3_d])
  (repeat' split) <;> (repeat first | with_reducible exact sgK.rf | ((with_reducible refine sgK.tr2 ?_ (fk_sX8_part_2_l15 _ _ _ _) ?_); decide) | ((with_reducible refine sgK.tr2 ?_ (fk_sX8_weigh _ _) ?_); decide) | ((with_reducible refine sgK.put2 ?_ ?_); rfl) | ((with_reducible refine sgK.row2 ?_ ?_); exact fun _ => rfl))
abbrev fw_sX8_part_1 : List (Nat × Nat × Option Nat) := [(17, 17, some 11), (17, 17, some 12), (23, 23, none), (24, 24, none)]
set_option maxRecDepth 100000 in
theorem fk_sX8_part_1_h15 (rec_15 : Int32 → sg_F → sg_L → sg_F) (y2_15 : Int32) (fp_15 : sg_F) (L : sg_L) (hrec_15 : ∀ (a0 : Int32) (g : sg_F) (M : sg_L), sgK fw_sX8_part_1 g (rec_15 a0 g M)) : sgK fw_sX8_part_1 fp_15 (sX8_part_1_h15 rec_15 y2_15 fp_15 L) := by
  unfold sX8_part_1_h15; (repeat first | rw [spl_d] | rw [spl2_d] | rw [spl3_d])
  (repeat' split) <;> (repeat first | with_reducible exact sgK.rf | ((with_reducible refine sgK.tr2 ?_ (hrec_15 _ _ _) ?_); exact fun _ h => h) | ((with_reducible refine sgK.tr2 ?_ (fk_sX8_part_2 _ _) ?_); decide) | ((with_reducible refine sgK.put2 ?_ ?_); rfl) | ((with_reducible refine sgK.row2 ?_ ?_); exact fun _ => rfl))
theorem fk_sX8_part_1_l15   : ∀ (n : Nat) (a0 : Int32) (g : sg_F) (M : sg_L), sgK fw_sX8_part_1 g (sX8_part_1_l15 n a0 g M) := by
  intro n
  induction n with
  | zero => intro a0 g M; exact sgK.rf
  | succ n ih =>
    intro a0 g M
    exact fk_sX8_part_1_h15 (sX8_part_1_l15 n) a0 g M ih
set_option maxRecDepth 100000 in
theorem fk_sX8_part_1 (f : sg_F) (L : sg_L)  : sgK fw_sX8_part_1 f (sX8_part_1 f L) := by
  unfold sX8_part_1; (repeat first | rw [spl_d] | rw [spl2_d] | rw [spl3_d])
  (repeat' split) <;> (repeat first | with_reducible exact sgK.rf | ((with_reducible refine sgK.tr2 ?_ (fk_sX8_part_1_l15 _ _ _ _) ?_); decide) | ((with_reducible refine sgK.tr2 ?_ (fk_sX8_weigh _ _) ?_); decide) | ((with_reducible refine sgK.put2 ?_ ?_); rfl) | ((with_reducible refine sgK.row2 ?_ ?_); exact fun _ => rfl))
abbrev fw_sX8_part_0 : List (Nat × Nat × Option Nat) := [(17, 17, some 11), (17, 17, some 12), (23, 23, none), (24, 24, none)]
set_option maxRecDepth 100000 in
theorem fk_sX8_part_0_h15 (rec_15 : Int32 → sg_F → sg_L → sg_F) (y2_15 : Int32) (fp_15 : sg_F) (L : sg_L) (hrec_15 : ∀ (a0 : Int32) (g : sg_F) (M : sg_L), sgK fw_sX8_part_0 g (rec_15 a0 g M)) : sgK fw_sX8_part_0 fp_15 (sX8_part_0_h15 rec_15 y2_15 fp_15 L) := by
  unfold sX8_part_0_h15; (repeat first | rw [spl_d] | rw [spl2_d] | rw [spl3_d])
  (repeat' split) <;> (repeat first | with_reducible exact sgK.rf | ((with_reducible refine sgK.tr2 ?_ (hrec_15 _ _ _) ?_); exact fun _ h => h) | ((with_reducible refine sgK.tr2 ?_ (fk_sX8_part_1 _ _) ?_); decide) | ((with_reducible refine sgK.put2 ?_ ?_); rfl) | ((with_reducible refine sgK.row2 ?_ ?_); exact fun _ => rfl))
theorem fk_sX8_part_0_l15   : ∀ (n : Nat) (a0 : Int32) (g : sg_F) (M : sg_L), sgK fw_sX8_part_0 g (sX8_part_0_l15 n a0 g M) := by
  intro n
  induction n with
  | zero => intro a0 g M; exact sgK.rf
  | succ n ih =>
    intro a0 g M
    exact fk_sX8_part_0_h15 (sX8_part_0_l15 n) a0 g M ih
set_option maxRecDepth 100000 in
theorem fk_sX8_part_0 (f : sg_F) (L : sg_L)  : sgK fw_sX8_part_0 f (sX8_part_0 f L) := by
  unfold sX8_part_0; (repeat first | rw [spl_d] | rw [spl2_d] | rw [spl3_d])
  (repeat' split) <;> (repeat first | with_reducible exact sgK.rf | ((with_reducible refine sgK.tr2 ?_ (fk_sX8_part_0_l15 _ _ _ _) ?_); decide) | ((with_reducible refine sgK.tr2 ?_ (fk_sX8_weigh _ _) ?_); decide) | ((with_reducible refine sgK.put2 ?_ ?_); rfl) | ((with_reducible refine sgK.row2 ?_ ?_); exact fun _ => rfl))

