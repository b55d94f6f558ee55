/-! the methods as functions. Laid by a program (wip/tool) -/
set_option maxRecDepth 100000 in
noncomputable def sX11_isSetting (x0 : Int32) (f : sg_F) (L : sg_L) : Int32 :=
  if x0.toInt < 0 then (
    ((0 : Int32))) else (
    if 60 < x0.toInt then (
      ((0 : Int32))) else (
      ((1 : Int32))))
set_option maxRecDepth 100000 in
noncomputable def sX11_fits (x0 : Int32) (x1 : Int32) (f : sg_F) (L : sg_L) : Int32 :=
  if x0.toInt < 0 then (
    ((0 : Int32))) else (
    if x0.toInt < 11 then (
      spl (α := Int32) (zLEAST (Int32.toNatClampNeg x0)) fun (v_5 : Int32) =>
      if x1.toInt < v_5.toInt then (
        ((0 : Int32))) else (
        spl (α := Int32) (zMOST (Int32.toNatClampNeg x0)) fun (v_9 : Int32) =>
        if v_9.toInt < x1.toInt then (
          ((0 : Int32))) else (
          ((1 : Int32))))) else (
      ((0 : Int32))))
set_option maxRecDepth 100000 in
noncomputable def sX0_forget_h14 (x0 : Int32) (rec_14 : Int32 → Int32 → sg_F → sg_L → sg_F) (y2_14 : Int32) (y3_14 : Int32) (fp_14 : sg_F) (L : sg_L) : sg_F :=
  if y3_14.toInt < y2_14.toInt then (
    spl (α := sg_F) (sg_up fp_14 9 (sgu (fp_14 9) (Int32.toNatClampNeg y3_14) (-1))) fun (f_3 : sg_F) =>
    spl (α := Int32) (y3_14 + 1) fun (v_4 : Int32) =>
    rec_14 y2_14 v_4 f_3 L) else (
    (fp_14))
set_option maxRecDepth 100000 in
noncomputable def sX0_forget_l14 (x0 : Int32) (n : Nat) : Int32 → Int32 → sg_F → sg_L → sg_F :=
  Nat.rec (motive := fun _ => Int32 → Int32 → sg_F → sg_L → sg_F) (fun _ _ f L => (f)) (fun _ r => sX0_forget_h14 x0 r) n
set_option maxRecDepth 100000 in
noncomputable def sX0_forget (x0 : Int32) (f : sg_F) (L : sg_L) : sg_F :=
  spl (α := Int32) (x0 + 1) fun (v_6 : Int32) =>
  spl (α := Int32) (v_6 * 183) fun (v_8 : Int32) =>
  spl (α := Int32) (x0 * 183) fun (v_10 : Int32) =>
  sX0_forget_l14 x0 1465 v_8 v_10 f L
set_option maxRecDepth 100000 in
noncomputable def sX0_comes (x0 : Int32) (x1 : Int32) (x2 : Int32) (x3 : Int32) (f : sg_F) (L : sg_L) : Int32 × sg_F :=
  spl (α := Int32) (f 1 3) fun (v_1 : Int32) =>
  if v_1.toInt < 8 then (
    spl (α := Int32) (v_1 * 8) fun (v_5 : Int32) =>
    spl (α := sg_F) (sg_up f 2 (sgu (f 2) (Int32.toNatClampNeg v_5) x0)) fun (f_7 : sg_F) =>
    spl (α := Int32) (v_5 + 1) fun (v_8 : Int32) =>
    spl (α := sg_F) (sg_up f_7 2 (sgu (f_7 2) (Int32.toNatClampNeg v_8) x1)) fun (f_10 : sg_F) =>
    spl (α := Int32) (v_5 + 2) fun (v_11 : Int32) =>
    spl (α := sg_F) (sg_up f_10 2 (sgu (f_10 2) (Int32.toNatClampNeg v_11) x2)) fun (f_13 : sg_F) =>
    spl (α := Int32) (v_5 + 3) fun (v_14 : Int32) =>
    spl (α := sg_F) (sg_up f_13 2 (sgu (f_13 2) (Int32.toNatClampNeg v_14) 1)) fun (f_16 : sg_F) =>
    spl (α := Int32) (v_5 + 4) fun (v_17 : Int32) =>
    spl (α := sg_F) (sg_up f_16 2 (sgu (f_16 2) (Int32.toNatClampNeg v_17) 1)) fun (f_19 : sg_F) =>
    spl (α := Int32) (v_5 + 5) fun (v_20 : Int32) =>
    spl (α := sg_F) (sg_up f_19 2 (sgu (f_19 2) (Int32.toNatClampNeg v_20) x3)) fun (f_22 : sg_F) =>
    spl (sX0_forget v_1 f_22 L) fun (f_23 : sg_F) =>
    spl (α := Int32) (v_1 + 1) fun (v_27 : Int32) =>
    spl (α := sg_F) (sg_up f_23 1 (sgu (f_23 1) 3 v_27)) fun (f_29 : sg_F) =>
    spl (α := Int32) (v_27 - 1) fun (v_30 : Int32) =>
    ((v_30 : Int32), f_29)) else (
    (((-3) : Int32), f))
set_option maxRecDepth 100000 in
noncomputable def sX11_sitter (x0 : Int32) (x1 : Int32) (f : sg_F) (L : sg_L) : Int32 × sg_F :=
  spl (sX11_isSetting x0 f L) fun (r_4 : Int32) =>
  if r_4 = 1 then (
    spl (sX11_fits 5 x1 f L) fun (r_10 : Int32) =>
    if r_10 = 1 then (
      spl2 (sX0_comes x0 x0 x0 x1 f L) fun (r_17 : Int32) (f_14 : sg_F) =>
      ((r_17 : Int32), f_14)) else (
      (((-1) : Int32), f))) else (
    (((-1) : Int32), f))
set_option maxRecDepth 100000 in
noncomputable def sX11_isShelf (x0 : Int32) (f : sg_F) (L : sg_L) : Int32 :=
  if x0.toInt < 0 then (
    ((0 : Int32))) else (
    if x0.toInt < 6 then (
      ((1 : Int32))) else (
      ((0 : Int32))))
set_option maxRecDepth 100000 in
noncomputable def sX7_hasPlaces (x0 : Int32) (x1 : Int32) (t : Nat) (f : sg_F) (L : sg_L) : Int32 :=
  spl (α := Int32) (f (40 + 2 * t) 2) fun (v_1 : Int32) =>
  if x0.toInt < 0 then (
    ((0 : Int32))) else (
    if x1.toInt < 0 then (
      ((0 : Int32))) else (
      if v_1.toInt < x0.toInt then (
        ((0 : Int32))) else (
        spl (α := Int32) (v_1 - x0) fun (v_10 : Int32) =>
        if v_10.toInt < x1.toInt then (
          ((0 : Int32))) else (
          ((1 : Int32))))))
set_option maxRecDepth 100000 in
noncomputable def sX11_comesFrom (t : Nat) (x1 : Int32) (f : sg_F) (L : sg_L) : Int32 × sg_F :=
  spl (α := Int32) (x1 + 3) fun (v_1 : Int32) =>
  spl (α := Int64) (L (41 + 2 * t) (Int32.toNatClampNeg v_1)) fun (w_3 : Int64) =>
  spl (α := Int32) (Int64.toInt32 w_3) fun (v_4 : Int32) =>
  spl (α := Int64) (L (41 + 2 * t) (Int32.toNatClampNeg x1)) fun (w_5 : Int64) =>
  spl (α := Int32) (Int64.toInt32 w_5) fun (v_6 : Int32) =>
  spl (sX11_isSetting v_6 f L) fun (r_10 : Int32) =>
  if r_10 = 1 then (
    spl (α := Int32) (x1 + 1) fun (v_13 : Int32) =>
    spl (α := Int64) (L (41 + 2 * t) (Int32.toNatClampNeg v_13)) fun (w_15 : Int64) =>
    spl (α := Int32) (Int64.toInt32 w_15) fun (v_16 : Int32) =>
    spl (sX11_isSetting v_16 f L) fun (r_20 : Int32) =>
    if r_20 = 1 then (
      spl (α := Int32) (x1 + 2) fun (v_23 : Int32) =>
      spl (α := Int64) (L (41 + 2 * t) (Int32.toNatClampNeg v_23)) fun (w_25 : Int64) =>
      spl (α := Int32) (Int64.toInt32 w_25) fun (v_26 : Int32) =>
      spl (sX11_isSetting v_26 f L) fun (r_30 : Int32) =>
      if r_30 = 1 then (
        spl (sX11_fits 5 v_4 f L) fun (r_36 : Int32) =>
        if r_36 = 1 then (
          spl2 (sX0_comes v_6 v_16 v_26 v_4 f L) fun (r_43 : Int32) (f_40 : sg_F) =>
          if r_43.toInt < 0 then (
            ((0 : Int32), f_40)) else (
            ((1 : Int32), f_40))) else (
          ((0 : Int32), f))) else (
        ((0 : Int32), f))) else (
      ((0 : Int32), f))) else (
    ((0 : Int32), f))
set_option maxRecDepth 100000 in
noncomputable def sX11_fromRow_h6 (t : Nat) (x1 : Int32) (x2 : Int32) (rec_6 : Int32 → Int32 → sg_F → sg_L → Int32 × sg_F) (y4_6 : Int32) (y5_6 : Int32) (fp_6 : sg_F) (L : sg_L) : Int32 × sg_F :=
  if y4_6.toInt < x2.toInt then (
    spl (α := Int32) (fp_6 (40 + 2 * t) 2) fun (v_3 : Int32) =>
    spl (sX7_hasPlaces y5_6 4 t fp_6 L) fun (r_9 : Int32) =>
    if r_9 = 1 then (
      spl2 (sX11_comesFrom t y5_6 fp_6 L) fun (r_16 : Int32) (f_13 : sg_F) =>
      if r_16.toInt = 0 then (
        ((y4_6 : Int32), f_13)) else (
        spl (α := Int32) (y4_6 + 1) fun (v_20 : Int32) =>
        spl (α := Int32) (y5_6 + 4) fun (v_22 : Int32) =>
        rec_6 v_20 v_22 f_13 L)) else (
      ((y4_6 : Int32), fp_6))) else (
    ((y4_6 : Int32), fp_6))
set_option maxRecDepth 100000 in
noncomputable def sX11_fromRow_l6 (t : Nat) (x1 : Int32) (x2 : Int32) (n : Nat) : Int32 → Int32 → sg_F → sg_L → Int32 × sg_F :=
  Nat.rec (motive := fun _ => Int32 → Int32 → sg_F → sg_L → Int32 × sg_F) (fun _ _ f L => ((0 : Int32), f)) (fun _ r => sX11_fromRow_h6 t x1 x2 r) n
set_option maxRecDepth 100000 in
noncomputable def sX11_fromRow (t : Nat) (x1 : Int32) (x2 : Int32) (f : sg_F) (L : sg_L) : Int32 × sg_F :=
  sX11_fromRow_l6 t x1 x2 9 0 x1 f L
set_option maxRecDepth 100000 in
noncomputable def sX11_sitters (x0 : Int32) (x1 : Int32) (x2 : Int32) (f : sg_F) (L : sg_L) : Int32 × sg_F :=
  spl (sX11_isShelf x0 f L) fun (r_4 : Int32) =>
  if r_4 = 1 then (
    if x2.toInt < 1 then (
      (((-1) : Int32), f)) else (
      if 8 < x2.toInt then (
        (((-1) : Int32), f)) else (
        spl (α := Nat) (x0.toNatClampNeg) fun (t_11 : Nat) =>
        spl (α := Int32) (f (40 + 2 * t_11) 1) fun (v_12 : Int32) =>
        if v_12.toInt = (-1) then (
          ((0 : Int32), f)) else (
          if v_12.toInt = 0 then (
            spl2 (sX11_fromRow t_11 x1 x2 f L) fun (r_21 : Int32) (f_18 : sg_F) =>
            ((r_21 : Int32), f_18)) else (
            (((-12) : Int32), f)))))) else (
    (((-1) : Int32), f))
set_option maxRecDepth 100000 in
noncomputable def sX0_placeOf (x0 : Int32) (x1 : Int32) (f : sg_F) (L : sg_L) : Int32 :=
  if x0.toInt < 0 then (
    (((-1) : Int32))) else (
    if x1.toInt < 0 then (
      (((-1) : Int32))) else (
      if 10 < x1.toInt then (
        (((-1) : Int32))) else (
        if x1.toInt < 8 then (
          spl (α := Int32) (f 1 3) fun (v_21 : Int32) =>
          if x0.toInt < v_21.toInt then (
            spl (α := Int32) (x0 * 8) fun (v_25 : Int32) =>
            spl (α := Int32) (v_25 + x1) fun (v_27 : Int32) =>
            ((v_27 : Int32))) else (
            (((-1) : Int32)))) else (
          if x1.toInt = 10 then (
            if x0.toInt = 0 then (
              ((70 : Int32))) else (
              (((-1) : Int32)))) else (
            if x0.toInt < 3 then (
              if x1.toInt = 9 then (
                spl (α := Int32) (67 + x0) fun (v_17 : Int32) =>
                ((v_17 : Int32))) else (
                spl (α := Int32) (64 + x0) fun (v_15 : Int32) =>
                ((v_15 : Int32)))) else (
              (((-1) : Int32))))))))
set_option maxRecDepth 100000 in
noncomputable def sX1_dropOldest (f : sg_F) (L : sg_L) : sg_F :=
  spl (α := Int32) (f 32 3) fun (v_1 : Int32) =>
  spl (α := sg_F) (sg_up f 33 (va_cpy (f 33) (f 33) (Int32.toNatClampNeg 1) (Int32.toNatClampNeg 0) (Int32.toNatClampNeg 39))) fun (f_4 : sg_F) =>
  spl (α := sg_F) (sg_up f_4 34 (va_cpy (f_4 34) (f_4 34) (Int32.toNatClampNeg 1) (Int32.toNatClampNeg 0) (Int32.toNatClampNeg 39))) fun (f_5 : sg_F) =>
  spl (α := sg_F) (sg_up f_5 35 (va_cpy (f_5 35) (f_5 35) (Int32.toNatClampNeg 1) (Int32.toNatClampNeg 0) (Int32.toNatClampNeg 39))) fun (f_6 : sg_F) =>
  spl (α := Int32) (v_1 - 1) fun (v_7 : Int32) =>
  spl (α := sg_F) (sg_up f_6 32 (sgu (f_6 32) 3 v_7)) fun (f_9 : sg_F) =>
  (f_9)
set_option maxRecDepth 100000 in
noncomputable def sX1_comes_b13 (x0 : Int32) (x1 : Int32) (x2 : Int32) (fp_13 : sg_F) (L : sg_L) : sg_F :=
  spl (α := Int32) (fp_13 32 3) fun (v_1 : Int32) =>
  spl (α := sg_F) (sg_up fp_13 33 (sgu (fp_13 33) (Int32.toNatClampNeg v_1) x0)) fun (f_4 : sg_F) =>
  spl (α := sg_F) (sg_up f_4 34 (sgu (f_4 34) (Int32.toNatClampNeg v_1) x1)) fun (f_5 : sg_F) =>
  spl (α := sg_F) (sg_up f_5 35 (sgu (f_5 35) (Int32.toNatClampNeg v_1) x2)) fun (f_6 : sg_F) =>
  spl (α := Int32) (v_1 + 1) fun (v_7 : Int32) =>
  spl (α := sg_F) (sg_up f_6 32 (sgu (f_6 32) 3 v_7)) fun (f_9 : sg_F) =>
  spl (α := sg_F) (sg_up f_9 32 (sgu (f_9 32) 4 v_7)) fun (f_10 : sg_F) =>
  (f_10)
set_option maxRecDepth 100000 in
noncomputable def sX1_comes (x0 : Int32) (x1 : Int32) (x2 : Int32) (f : sg_F) (L : sg_L) : sg_F :=
  spl (α := Int32) (f 32 3) fun (v_11 : Int32) =>
  if v_11.toInt = 40 then (
    spl (sX1_dropOldest f L) fun (f_17 : sg_F) =>
    spl (α := Int32) (f_17 32 3) fun (v_22 : Int32) =>
    sX1_comes_b13 x0 x1 x2 f_17 L) else (
    sX1_comes_b13 x0 x1 x2 f L)
set_option maxRecDepth 100000 in
noncomputable def sX0_becomes (x0 : Int32) (x1 : Int32) (f : sg_F) (L : sg_L) : sg_F :=
  spl (α := sg_F) (sg_up f 2 (sgu (f 2) (Int32.toNatClampNeg x0) x1)) fun (f_5 : sg_F) =>
  if x0.toInt < 64 then (
    spl (α := Int32) (x0 / 8) fun (v_8 : Int32) =>
    spl (sX0_forget v_8 f_5 L) fun (f_10 : sg_F) =>
    (f_10)) else (
    (f_5))
set_option maxRecDepth 100000 in
noncomputable def sX11_mend (x0 : Int32) (x1 : Int32) (x2 : Int32) (f : sg_F) (L : sg_L) : Int32 × sg_F :=
  spl (sX0_placeOf x0 x1 f L) fun (r_4 : Int32) =>
  if r_4.toInt < 0 then (
    (((-1) : Int32), f)) else (
    spl (sX11_fits x1 x2 f L) fun (r_12 : Int32) =>
    if r_12 = 1 then (
      spl (α := Int32) (f 2 (Int32.toNatClampNeg r_4)) fun (v_15 : Int32) =>
      if v_15.toInt = x2.toInt then (
        ((v_15 : Int32), f)) else (
        spl (sX1_comes r_4 v_15 x2 f L) fun (f_20 : sg_F) =>
        spl (sX0_becomes r_4 x2 f_20 L) fun (f_24 : sg_F) =>
        ((v_15 : Int32), f_24))) else (
      (((-1) : Int32), f)))
set_option maxRecDepth 100000 in
noncomputable def sX11_isPart (x0 : Int32) (f : sg_F) (L : sg_L) : Int32 :=
  if x0.toInt < 0 then (
    ((0 : Int32))) else (
    if x0.toInt < 3 then (
      ((1 : Int32))) else (
      ((0 : Int32))))
set_option maxRecDepth 100000 in
noncomputable def sX11_of (x0 : Int32) (x1 : Int32) (f : sg_F) (L : sg_L) : Int32 :=
  if x1.toInt = 11 then (
    spl (sX11_isPart x0 f L) fun (r_17 : Int32) =>
    if r_17 = 1 then (
      spl (α := Int32) (f 3 (Int32.toNatClampNeg x0)) fun (v_20 : Int32) =>
      ((v_20 : Int32))) else (
      (((-1) : Int32)))) else (
    spl (sX0_placeOf x0 x1 f L) fun (r_6 : Int32) =>
    if r_6.toInt < 0 then (
      (((-1) : Int32))) else (
      spl (α := Int32) (f 2 (Int32.toNatClampNeg r_6)) fun (v_11 : Int32) =>
      ((v_11 : Int32))))
set_option maxRecDepth 100000 in
noncomputable def sX5_takes (x0 : Int32) (f : sg_F) (L : sg_L) : Int32 × sg_F :=
  spl (α := Int32) (f 4 1) fun (v_1 : Int32) =>
  if v_1.toInt < 120 then (
    spl (α := sg_F) (sg_up f 5 (sgu (f 5) (Int32.toNatClampNeg v_1) x0)) fun (f_5 : sg_F) =>
    spl (α := Int32) (v_1 + 1) fun (v_6 : Int32) =>
    spl (α := sg_F) (sg_up f_5 4 (sgu (f_5 4) 1 v_6)) fun (f_8 : sg_F) =>
    ((v_6 : Int32), f_8)) else (
    (((-3) : Int32), f))
set_option maxRecDepth 100000 in
noncomputable def sX11_feed (x0 : Int32) (f : sg_F) (L : sg_L) : Int32 × sg_F :=
  if x0.toInt < 0 then (
    (((-1) : Int32), f)) else (
    if 255 < x0.toInt then (
      (((-1) : Int32), f)) else (
      spl2 (sX5_takes x0 f L) fun (r_8 : Int32) (f_5 : sg_F) =>
      ((r_8 : Int32), f_5)))
set_option maxRecDepth 100000 in
noncomputable def sX5_next (f : sg_F) (L : sg_L) : Int32 :=
  spl (α := Int32) (f 4 6) fun (v_1 : Int32) =>
  spl (α := Int32) (f 4 1) fun (v_3 : Int32) =>
  spl (α := Int32) (f 4 7) fun (v_7 : Int32) =>
  if v_7.toInt < 0 then (
    if v_1.toInt < v_3.toInt then (
      spl (α := Int32) (f 5 (Int32.toNatClampNeg v_1)) fun (v_13 : Int32) =>
      ((v_13 : Int32))) else (
      (((-1) : Int32)))) else (
    (((-1) : Int32)))
set_option maxRecDepth 100000 in
noncomputable def sX5_isDigit (x0 : Int32) (f : sg_F) (L : sg_L) : Int32 :=
  if x0.toInt < 48 then (
    ((0 : Int32))) else (
    if 57 < x0.toInt then (
      ((0 : Int32))) else (
      ((1 : Int32))))
set_option maxRecDepth 100000 in
noncomputable def sX5_write (x0 : Int32) (f : sg_F) (L : sg_L) : sg_F :=
  spl (α := Int32) (f 4 8) fun (v_1 : Int32) =>
  if v_1.toInt < 121 then (
    spl (α := sg_F) (sg_up f 6 (sgu (f 6) (Int32.toNatClampNeg v_1) x0)) fun (f_5 : sg_F) =>
    spl (α := Int32) (v_1 + 1) fun (v_6 : Int32) =>
    spl (α := sg_F) (sg_up f_5 4 (sgu (f_5 4) 8 v_6)) fun (f_8 : sg_F) =>
    (f_8)) else (
    (f))
set_option maxRecDepth 100000 in
noncomputable def sX5_number_b48 (y1_48 : Int32) (fp_48 : sg_F) (L : sg_L) : sg_F :=
  spl (α := Int32) (1000 + y1_48) fun (v_1 : Int32) =>
  spl (sX5_write v_1 fp_48 L) fun (f_2 : sg_F) =>
  (f_2)
set_option maxRecDepth 100000 in
noncomputable def sX5_number_h4 (rec_4 : Int32 → Int32 → sg_F → sg_L → sg_F) (y1_4 : Int32) (y2_4 : Int32) (fp_4 : sg_F) (L : sg_L) : sg_F :=
  if y2_4.toInt < 4 then (
    spl (α := Int32) (fp_4 4 6) fun (v_8 : Int32) =>
    spl (α := Int32) (fp_4 4 1) fun (v_11 : Int32) =>
    spl (sX5_next fp_4 L) fun (r_17 : Int32) =>
    spl (sX5_isDigit r_17 fp_4 L) fun (r_23 : Int32) =>
    if r_23 = 1 then (
      spl (α := Int32) (y1_4 * 10) fun (v_26 : Int32) =>
      spl (α := Int32) (v_26 + r_17) fun (v_35 : Int32) =>
      spl (α := Int32) (v_35 - 48) fun (v_36 : Int32) =>
      spl (α := Int32) (v_8 + 1) fun (v_37 : Int32) =>
      spl (α := sg_F) (sg_up fp_4 4 (sgu (fp_4 4) 6 v_37)) fun (f_39 : sg_F) =>
      spl (α := Int32) (y2_4 + 1) fun (v_40 : Int32) =>
      rec_4 v_36 v_40 f_39 L) else (
      sX5_number_b48 y1_4 fp_4 L)) else (
    sX5_number_b48 y1_4 fp_4 L)
set_option maxRecDepth 100000 in
noncomputable def sX5_number_l4 (n : Nat) : Int32 → Int32 → sg_F → sg_L → sg_F :=
  Nat.rec (motive := fun _ => Int32 → Int32 → sg_F → sg_L → sg_F) (fun _ _ f L => (f)) (fun _ r => sX5_number_h4 r) n
set_option maxRecDepth 100000 in
noncomputable def sX5_number (f : sg_F) (L : sg_L) : sg_F :=
  sX5_number_l4 5 0 0 f L
set_option maxRecDepth 100000 in
noncomputable def sX5_isName (x0 : Int32) (f : sg_F) (L : sg_L) : Int32 :=
  if x0.toInt = 100 then (
    ((1 : Int32))) else (
    if x0.toInt = 117 then (
      ((1 : Int32))) else (
      if x0.toInt = 115 then (
        ((1 : Int32))) else (
        if x0.toInt = 119 then (
          ((1 : Int32))) else (
          if x0.toInt = 104 then (
            ((1 : Int32))) else (
            if x0.toInt = 107 then (
              ((1 : Int32))) else (
              ((0 : Int32))))))))
set_option maxRecDepth 100000 in
noncomputable def sX5_fail (f : sg_F) (L : sg_L) : sg_F :=
  spl (α := Int32) (f 4 7) fun (v_1 : Int32) =>
  if v_1.toInt < 0 then (
    spl (α := Int32) (f 4 6) fun (v_5 : Int32) =>
    spl (α := sg_F) (sg_up f 4 (sgu (f 4) 7 v_5)) fun (f_7 : sg_F) =>
    (f_7)) else (
    (f))
set_option maxRecDepth 100000 in
noncomputable def sX5_operand_6 (f : sg_F) (L : sg_L) : sg_F :=
  spl (α := Int32) (f 4 6) fun (v_1 : Int32) =>
  spl (α := Int32) (f 4 1) fun (v_4 : Int32) =>
  spl (sX5_next f L) fun (r_10 : Int32) =>
  spl (sX5_isDigit r_10 f L) fun (r_16 : Int32) =>
  if r_16 = 1 then (
    spl (sX5_number f L) fun (f_19 : sg_F) =>
    (f_19)) else (
    spl (sX5_isName r_10 f L) fun (r_26 : Int32) =>
    if r_26 = 1 then (
      spl (α := Int32) (v_1 + 1) fun (v_29 : Int32) =>
      spl (α := sg_F) (sg_up f 4 (sgu (f 4) 6 v_29)) fun (f_31 : sg_F) =>
      spl (sX5_write r_10 f_31 L) fun (f_32 : sg_F) =>
      (f_32)) else (
      if r_10.toInt = 40 then (
        spl (sX5_fail f L) fun (f_38 : sg_F) =>
        (f_38)) else (
        if r_10.toInt = 33 then (
          spl (sX5_fail f L) fun (f_44 : sg_F) =>
          (f_44)) else (
          if r_10.toInt = 45 then (
            spl (sX5_fail f L) fun (f_54 : sg_F) =>
            (f_54)) else (
            spl (sX5_fail f L) fun (f_50 : sg_F) =>
            (f_50))))))
set_option maxRecDepth 100000 in
noncomputable def sX5_product_6_h12 (rec_12 : Int32 → Int32 → sg_F → sg_L → sg_F) (y2_12 : Int32) (y3_12 : Int32) (fp_12 : sg_F) (L : sg_L) : sg_F :=
  spl (α := Int32) (fp_12 4 6) fun (v_7 : Int32) =>
  spl (α := Int32) (fp_12 4 1) fun (v_10 : Int32) =>
  if y3_12.toInt < 120 then (
    if y2_12.toInt = 42 then (
      spl (α := Int32) (v_7 + 1) fun (v_17 : Int32) =>
      spl (α := sg_F) (sg_up fp_12 4 (sgu (fp_12 4) 6 v_17)) fun (f_19 : sg_F) =>
      spl (sX5_operand_6 f_19 L) fun (f_20 : sg_F) =>
      spl (sX5_write y2_12 f_20 L) fun (f_24 : sg_F) =>
      spl (α := Int32) (f_24 4 6) fun (v_28 : Int32) =>
      spl (sX5_next f_24 L) fun (r_35 : Int32) =>
      spl (α := Int32) (y3_12 + 1) fun (v_38 : Int32) =>
      rec_12 r_35 v_38 f_24 L) else (
      if y2_12.toInt = 47 then (
        spl (α := Int32) (v_7 + 1) fun (v_42 : Int32) =>
        spl (α := sg_F) (sg_up fp_12 4 (sgu (fp_12 4) 6 v_42)) fun (f_44 : sg_F) =>
        spl (sX5_operand_6 f_44 L) fun (f_45 : sg_F) =>
        spl (sX5_write y2_12 f_45 L) fun (f_49 : sg_F) =>
        spl (α := Int32) (f_49 4 6) fun (v_53 : Int32) =>
        spl (sX5_next f_49 L) fun (r_60 : Int32) =>
        spl (α := Int32) (y3_12 + 1) fun (v_63 : Int32) =>
        rec_12 r_60 v_63 f_49 L) else (
        if y2_12.toInt = 37 then (
          spl (α := Int32) (v_7 + 1) fun (v_67 : Int32) =>
          spl (α := sg_F) (sg_up fp_12 4 (sgu (fp_12 4) 6 v_67)) fun (f_69 : sg_F) =>
          spl (sX5_operand_6 f_69 L) fun (f_70 : sg_F) =>
          spl (sX5_write y2_12 f_70 L) fun (f_74 : sg_F) =>
          spl (α := Int32) (f_74 4 6) fun (v_78 : Int32) =>
          spl (sX5_next f_74 L) fun (r_85 : Int32) =>
          spl (α := Int32) (y3_12 + 1) fun (v_88 : Int32) =>
          rec_12 r_85 v_88 f_74 L) else (
          (fp_12))))) else (
    (fp_12))
set_option maxRecDepth 100000 in
noncomputable def sX5_product_6_l12 (n : Nat) : Int32 → Int32 → sg_F → sg_L → sg_F :=
  Nat.rec (motive := fun _ => Int32 → Int32 → sg_F → sg_L → sg_F) (fun _ _ f L => (f)) (fun _ r => sX5_product_6_h12 r) n
set_option maxRecDepth 100000 in
noncomputable def sX5_product_6 (f : sg_F) (L : sg_L) : sg_F :=
  spl (α := Int32) (f 4 6) fun (v_1 : Int32) =>
  spl (α := Int32) (f 4 1) fun (v_3 : Int32) =>
  spl (sX5_operand_6 f L) fun (f_90 : sg_F) =>
  spl (α := Int32) (f_90 4 6) fun (v_94 : Int32) =>
  spl (sX5_next f_90 L) fun (r_101 : Int32) =>
  sX5_product_6_l12 121 r_101 0 f_90 L
set_option maxRecDepth 100000 in
noncomputable def sX5_sum_6_h12 (rec_12 : Int32 → Int32 → sg_F → sg_L → sg_F) (y2_12 : Int32) (y3_12 : Int32) (fp_12 : sg_F) (L : sg_L) : sg_F :=
  spl (α := Int32) (fp_12 4 6) fun (v_7 : Int32) =>
  spl (α := Int32) (fp_12 4 1) fun (v_10 : Int32) =>
  if y3_12.toInt < 120 then (
    if y2_12.toInt = 43 then (
      spl (α := Int32) (v_7 + 1) fun (v_17 : Int32) =>
      spl (α := sg_F) (sg_up fp_12 4 (sgu (fp_12 4) 6 v_17)) fun (f_19 : sg_F) =>
      spl (sX5_product_6 f_19 L) fun (f_20 : sg_F) =>
      spl (sX5_write y2_12 f_20 L) fun (f_24 : sg_F) =>
      spl (α := Int32) (f_24 4 6) fun (v_28 : Int32) =>
      spl (sX5_next f_24 L) fun (r_35 : Int32) =>
      spl (α := Int32) (y3_12 + 1) fun (v_38 : Int32) =>
      rec_12 r_35 v_38 f_24 L) else (
      if y2_12.toInt = 45 then (
        spl (α := Int32) (v_7 + 1) fun (v_42 : Int32) =>
        spl (α := sg_F) (sg_up fp_12 4 (sgu (fp_12 4) 6 v_42)) fun (f_44 : sg_F) =>
        spl (sX5_product_6 f_44 L) fun (f_45 : sg_F) =>
        spl (sX5_write y2_12 f_45 L) fun (f_49 : sg_F) =>
        spl (α := Int32) (f_49 4 6) fun (v_53 : Int32) =>
        spl (sX5_next f_49 L) fun (r_60 : Int32) =>
        spl (α := Int32) (y3_12 + 1) fun (v_63 : Int32) =>
        rec_12 r_60 v_63 f_49 L) else (
        (fp_12)))) else (
    (fp_12))
set_option maxRecDepth 100000 in
noncomputable def sX5_sum_6_l12 (n : Nat) : Int32 → Int32 → sg_F → sg_L → sg_F :=
  Nat.rec (motive := fun _ => Int32 → Int32 → sg_F → sg_L → sg_F) (fun _ _ f L => (f)) (fun _ r => sX5_sum_6_h12 r) n
set_option maxRecDepth 100000 in
noncomputable def sX5_sum_6 (f : sg_F) (L : sg_L) : sg_F :=
  spl (α := Int32) (f 4 6) fun (v_1 : Int32) =>
  spl (α := Int32) (f 4 1) fun (v_3 : Int32) =>
  spl (sX5_product_6 f L) fun (f_65 : sg_F) =>
  spl (α := Int32) (f_65 4 6) fun (v_69 : Int32) =>
  spl (sX5_next f_65 L) fun (r_76 : Int32) =>
  sX5_sum_6_l12 121 r_76 0 f_65 L
set_option maxRecDepth 100000 in
noncomputable def sX5_compared_6 (f : sg_F) (L : sg_L) : sg_F :=
  spl (sX5_sum_6 f L) fun (f_1 : sg_F) =>
  spl (α := Int32) (f_1 4 6) fun (v_5 : Int32) =>
  spl (α := Int32) (f_1 4 1) fun (v_8 : Int32) =>
  spl (sX5_next f_1 L) fun (r_14 : Int32) =>
  if r_14.toInt = 60 then (
    spl (α := Int32) (v_5 + 1) fun (v_19 : Int32) =>
    spl (α := sg_F) (sg_up f_1 4 (sgu (f_1 4) 6 v_19)) fun (f_21 : sg_F) =>
    spl (sX5_sum_6 f_21 L) fun (f_22 : sg_F) =>
    spl (sX5_write r_14 f_22 L) fun (f_26 : sg_F) =>
    (f_26)) else (
    if r_14.toInt = 61 then (
      spl (α := Int32) (v_5 + 1) fun (v_32 : Int32) =>
      spl (α := sg_F) (sg_up f_1 4 (sgu (f_1 4) 6 v_32)) fun (f_34 : sg_F) =>
      spl (sX5_sum_6 f_34 L) fun (f_35 : sg_F) =>
      spl (sX5_write r_14 f_35 L) fun (f_39 : sg_F) =>
      (f_39)) else (
      if r_14.toInt = 62 then (
        spl (α := Int32) (v_5 + 1) fun (v_45 : Int32) =>
        spl (α := sg_F) (sg_up f_1 4 (sgu (f_1 4) 6 v_45)) fun (f_47 : sg_F) =>
        spl (sX5_sum_6 f_47 L) fun (f_48 : sg_F) =>
        spl (sX5_write r_14 f_48 L) fun (f_52 : sg_F) =>
        (f_52)) else (
        (f_1))))
set_option maxRecDepth 100000 in
noncomputable def sX5_both_6_h7 (rec_7 : Int32 → sg_F → sg_L → sg_F) (y2_7 : Int32) (fp_7 : sg_F) (L : sg_L) : sg_F :=
  if y2_7.toInt < 120 then (
    spl (α := Int32) (fp_7 4 6) fun (v_3 : Int32) =>
    spl (α := Int32) (fp_7 4 1) fun (v_6 : Int32) =>
    spl (sX5_next fp_7 L) fun (r_12 : Int32) =>
    if r_12.toInt = 38 then (
      spl (α := Int32) (v_3 + 1) fun (v_17 : Int32) =>
      spl (α := sg_F) (sg_up fp_7 4 (sgu (fp_7 4) 6 v_17)) fun (f_19 : sg_F) =>
      spl (sX5_compared_6 f_19 L) fun (f_20 : sg_F) =>
      spl (sX5_write 38 f_20 L) fun (f_24 : sg_F) =>
      spl (α := Int32) (y2_7 + 1) fun (v_28 : Int32) =>
      rec_7 v_28 f_24 L) else (
      (fp_7))) else (
    (fp_7))
set_option maxRecDepth 100000 in
noncomputable def sX5_both_6_l7 (n : Nat) : Int32 → sg_F → sg_L → sg_F :=
  Nat.rec (motive := fun _ => Int32 → sg_F → sg_L → sg_F) (fun _ f L => (f)) (fun _ r => sX5_both_6_h7 r) n
set_option maxRecDepth 100000 in
noncomputable def sX5_both_6 (f : sg_F) (L : sg_L) : sg_F :=
  spl (sX5_compared_6 f L) fun (f_30 : sg_F) =>
  sX5_both_6_l7 121 0 f_30 L
set_option maxRecDepth 100000 in
noncomputable def sX5_either_6_h7 (rec_7 : Int32 → sg_F → sg_L → sg_F) (y2_7 : Int32) (fp_7 : sg_F) (L : sg_L) : sg_F :=
  if y2_7.toInt < 120 then (
    spl (α := Int32) (fp_7 4 6) fun (v_3 : Int32) =>
    spl (α := Int32) (fp_7 4 1) fun (v_6 : Int32) =>
    spl (sX5_next fp_7 L) fun (r_12 : Int32) =>
    if r_12.toInt = 124 then (
      spl (α := Int32) (v_3 + 1) fun (v_17 : Int32) =>
      spl (α := sg_F) (sg_up fp_7 4 (sgu (fp_7 4) 6 v_17)) fun (f_19 : sg_F) =>
      spl (sX5_both_6 f_19 L) fun (f_20 : sg_F) =>
      spl (sX5_write 124 f_20 L) fun (f_24 : sg_F) =>
      spl (α := Int32) (y2_7 + 1) fun (v_28 : Int32) =>
      rec_7 v_28 f_24 L) else (
      (fp_7))) else (
    (fp_7))
set_option maxRecDepth 100000 in
noncomputable def sX5_either_6_l7 (n : Nat) : Int32 → sg_F → sg_L → sg_F :=
  Nat.rec (motive := fun _ => Int32 → sg_F → sg_L → sg_F) (fun _ f L => (f)) (fun _ r => sX5_either_6_h7 r) n
set_option maxRecDepth 100000 in
noncomputable def sX5_either_6 (f : sg_F) (L : sg_L) : sg_F :=
  spl (sX5_both_6 f L) fun (f_30 : sg_F) =>
  sX5_either_6_l7 121 0 f_30 L
set_option maxRecDepth 100000 in
noncomputable def sX5_opened_6 (x0 : Int32) (f : sg_F) (L : sg_L) : sg_F :=
  if x0.toInt = 40 then (
    spl (sX5_either_6 f L) fun (f_3 : sg_F) =>
    spl (α := Int32) (f_3 4 6) fun (v_7 : Int32) =>
    spl (α := Int32) (f_3 4 1) fun (v_10 : Int32) =>
    spl (sX5_next f_3 L) fun (r_16 : Int32) =>
    if r_16.toInt = 41 then (
      spl (α := Int32) (v_7 + 1) fun (v_25 : Int32) =>
      spl (α := sg_F) (sg_up f_3 4 (sgu (f_3 4) 6 v_25)) fun (f_27 : sg_F) =>
      (f_27)) else (
      spl (sX5_fail f_3 L) fun (f_21 : sg_F) =>
      (f_21))) else (
    spl (sX5_operand_6 f L) fun (f_28 : sg_F) =>
    if x0.toInt = 33 then (
      spl (sX5_write 33 f_28 L) fun (f_38 : sg_F) =>
      (f_38)) else (
      spl (sX5_write 126 f_28 L) fun (f_34 : sg_F) =>
      (f_34)))
set_option maxRecDepth 100000 in
noncomputable def sX5_operand_5 (f : sg_F) (L : sg_L) : sg_F :=
  spl (α := Int32) (f 4 6) fun (v_1 : Int32) =>
  spl (α := Int32) (f 4 1) fun (v_4 : Int32) =>
  spl (sX5_next f L) fun (r_10 : Int32) =>
  spl (sX5_isDigit r_10 f L) fun (r_16 : Int32) =>
  if r_16 = 1 then (
    spl (sX5_number f L) fun (f_19 : sg_F) =>
    (f_19)) else (
    spl (sX5_isName r_10 f L) fun (r_26 : Int32) =>
    if r_26 = 1 then (
      spl (α := Int32) (v_1 + 1) fun (v_29 : Int32) =>
      spl (α := sg_F) (sg_up f 4 (sgu (f 4) 6 v_29)) fun (f_31 : sg_F) =>
      spl (sX5_write r_10 f_31 L) fun (f_32 : sg_F) =>
      (f_32)) else (
      if r_10.toInt = 40 then (
        spl (α := Int32) (v_1 + 1) fun (v_38 : Int32) =>
        spl (α := sg_F) (sg_up f 4 (sgu (f 4) 6 v_38)) fun (f_40 : sg_F) =>
        spl (sX5_opened_6 r_10 f_40 L) fun (f_41 : sg_F) =>
        (f_41)) else (
        if r_10.toInt = 33 then (
          spl (α := Int32) (v_1 + 1) fun (v_47 : Int32) =>
          spl (α := sg_F) (sg_up f 4 (sgu (f 4) 6 v_47)) fun (f_49 : sg_F) =>
          spl (sX5_opened_6 r_10 f_49 L) fun (f_50 : sg_F) =>
          (f_50)) else (
          if r_10.toInt = 45 then (
            spl (α := Int32) (v_1 + 1) fun (v_60 : Int32) =>
            spl (α := sg_F) (sg_up f 4 (sgu (f 4) 6 v_60)) fun (f_62 : sg_F) =>
            spl (sX5_opened_6 r_10 f_62 L) fun (f_63 : sg_F) =>
            (f_63)) else (
            spl (sX5_fail f L) fun (f_56 : sg_F) =>
            (f_56))))))
set_option maxRecDepth 100000 in
noncomputable def sX5_product_5_h12 (rec_12 : Int32 → Int32 → sg_F → sg_L → sg_F) (y2_12 : Int32) (y3_12 : Int32) (fp_12 : sg_F) (L : sg_L) : sg_F :=
  spl (α := Int32) (fp_12 4 6) fun (v_7 : Int32) =>
  spl (α := Int32) (fp_12 4 1) fun (v_10 : Int32) =>
  if y3_12.toInt < 120 then (
    if y2_12.toInt = 42 then (
      spl (α := Int32) (v_7 + 1) fun (v_17 : Int32) =>
      spl (α := sg_F) (sg_up fp_12 4 (sgu (fp_12 4) 6 v_17)) fun (f_19 : sg_F) =>
      spl (sX5_operand_5 f_19 L) fun (f_20 : sg_F) =>
      spl (sX5_write y2_12 f_20 L) fun (f_24 : sg_F) =>
      spl (α := Int32) (f_24 4 6) fun (v_28 : Int32) =>
      spl (sX5_next f_24 L) fun (r_35 : Int32) =>
      spl (α := Int32) (y3_12 + 1) fun (v_38 : Int32) =>
      rec_12 r_35 v_38 f_24 L) else (
      if y2_12.toInt = 47 then (
        spl (α := Int32) (v_7 + 1) fun (v_42 : Int32) =>
        spl (α := sg_F) (sg_up fp_12 4 (sgu (fp_12 4) 6 v_42)) fun (f_44 : sg_F) =>
        spl (sX5_operand_5 f_44 L) fun (f_45 : sg_F) =>
        spl (sX5_write y2_12 f_45 L) fun (f_49 : sg_F) =>
        spl (α := Int32) (f_49 4 6) fun (v_53 : Int32) =>
        spl (sX5_next f_49 L) fun (r_60 : Int32) =>
        spl (α := Int32) (y3_12 + 1) fun (v_63 : Int32) =>
        rec_12 r_60 v_63 f_49 L) else (
        if y2_12.toInt = 37 then (
          spl (α := Int32) (v_7 + 1) fun (v_67 : Int32) =>
          spl (α := sg_F) (sg_up fp_12 4 (sgu (fp_12 4) 6 v_67)) fun (f_69 : sg_F) =>
          spl (sX5_operand_5 f_69 L) fun (f_70 : sg_F) =>
          spl (sX5_write y2_12 f_70 L) fun (f_74 : sg_F) =>
          spl (α := Int32) (f_74 4 6) fun (v_78 : Int32) =>
          spl (sX5_next f_74 L) fun (r_85 : Int32) =>
          spl (α := Int32) (y3_12 + 1) fun (v_88 : Int32) =>
          rec_12 r_85 v_88 f_74 L) else (
          (fp_12))))) else (
    (fp_12))
set_option maxRecDepth 100000 in
noncomputable def sX5_product_5_l12 (n : Nat) : Int32 → Int32 → sg_F → sg_L → sg_F :=
  Nat.rec (motive := fun _ => Int32 → Int32 → sg_F → sg_L → sg_F) (fun _ _ f L => (f)) (fun _ r => sX5_product_5_h12 r) n
set_option maxRecDepth 100000 in
noncomputable def sX5_product_5 (f : sg_F) (L : sg_L) : sg_F :=
  spl (α := Int32) (f 4 6) fun (v_1 : Int32) =>
  spl (α := Int32) (f 4 1) fun (v_3 : Int32) =>
  spl (sX5_operand_5 f L) fun (f_90 : sg_F) =>
  spl (α := Int32) (f_90 4 6) fun (v_94 : Int32) =>
  spl (sX5_next f_90 L) fun (r_101 : Int32) =>
  sX5_product_5_l12 121 r_101 0 f_90 L
set_option maxRecDepth 100000 in
noncomputable def sX5_sum_5_h12 (rec_12 : Int32 → Int32 → sg_F → sg_L → sg_F) (y2_12 : Int32) (y3_12 : Int32) (fp_12 : sg_F) (L : sg_L) : sg_F :=
  spl (α := Int32) (fp_12 4 6) fun (v_7 : Int32) =>
  spl (α := Int32) (fp_12 4 1) fun (v_10 : Int32) =>
  if y3_12.toInt < 120 then (
    if y2_12.toInt = 43 then (
      spl (α := Int32) (v_7 + 1) fun (v_17 : Int32) =>
      spl (α := sg_F) (sg_up fp_12 4 (sgu (fp_12 4) 6 v_17)) fun (f_19 : sg_F) =>
      spl (sX5_product_5 f_19 L) fun (f_20 : sg_F) =>
      spl (sX5_write y2_12 f_20 L) fun (f_24 : sg_F) =>
      spl (α := Int32) (f_24 4 6) fun (v_28 : Int32) =>
      spl (sX5_next f_24 L) fun (r_35 : Int32) =>
      spl (α := Int32) (y3_12 + 1) fun (v_38 : Int32) =>
      rec_12 r_35 v_38 f_24 L) else (
      if y2_12.toInt = 45 then (
        spl (α := Int32) (v_7 + 1) fun (v_42 : Int32) =>
        spl (α := sg_F) (sg_up fp_12 4 (sgu (fp_12 4) 6 v_42)) fun (f_44 : sg_F) =>
        spl (sX5_product_5 f_44 L) fun (f_45 : sg_F) =>
        spl (sX5_write y2_12 f_45 L) fun (f_49 : sg_F) =>
        spl (α := Int32) (f_49 4 6) fun (v_53 : Int32) =>
        spl (sX5_next f_49 L) fun (r_60 : Int32) =>
        spl (α := Int32) (y3_12 + 1) fun (v_63 : Int32) =>
        rec_12 r_60 v_63 f_49 L) else (
        (fp_12)))) else (
    (fp_12))
set_option maxRecDepth 100000 in
noncomputable def sX5_sum_5_l12 (n : Nat) : Int32 → Int32 → sg_F → sg_L → sg_F :=
  Nat.rec (motive := fun _ => Int32 → Int32 → sg_F → sg_L → sg_F) (fun _ _ f L => (f)) (fun _ r => sX5_sum_5_h12 r) n
set_option maxRecDepth 100000 in
noncomputable def sX5_sum_5 (f : sg_F) (L : sg_L) : sg_F :=
  spl (α := Int32) (f 4 6) fun (v_1 : Int32) =>
  spl (α := Int32) (f 4 1) fun (v_3 : Int32) =>
  spl (sX5_product_5 f L) fun (f_65 : sg_F) =>
  spl (α := Int32) (f_65 4 6) fun (v_69 : Int32) =>
  spl (sX5_next f_65 L) fun (r_76 : Int32) =>
  sX5_sum_5_l12 121 r_76 0 f_65 L
set_option maxRecDepth 100000 in
noncomputable def sX5_compared_5 (f : sg_F) (L : sg_L) : sg_F :=
  spl (sX5_sum_5 f L) fun (f_1 : sg_F) =>
  spl (α := Int32) (f_1 4 6) fun (v_5 : Int32) =>
  spl (α := Int32) (f_1 4 1) fun (v_8 : Int32) =>
  spl (sX5_next f_1 L) fun (r_14 : Int32) =>
  if r_14.toInt = 60 then (
    spl (α := Int32) (v_5 + 1) fun (v_19 : Int32) =>
    spl (α := sg_F) (sg_up f_1 4 (sgu (f_1 4) 6 v_19)) fun (f_21 : sg_F) =>
    spl (sX5_sum_5 f_21 L) fun (f_22 : sg_F) =>
    spl (sX5_write r_14 f_22 L) fun (f_26 : sg_F) =>
    (f_26)) else (
    if r_14.toInt = 61 then (
      spl (α := Int32) (v_5 + 1) fun (v_32 : Int32) =>
      spl (α := sg_F) (sg_up f_1 4 (sgu (f_1 4) 6 v_32)) fun (f_34 : sg_F) =>
      spl (sX5_sum_5 f_34 L) fun (f_35 : sg_F) =>
      spl (sX5_write r_14 f_35 L) fun (f_39 : sg_F) =>
      (f_39)) else (
      if r_14.toInt = 62 then (
        spl (α := Int32) (v_5 + 1) fun (v_45 : Int32) =>
        spl (α := sg_F) (sg_up f_1 4 (sgu (f_1 4) 6 v_45)) fun (f_47 : sg_F) =>
        spl (sX5_sum_5 f_47 L) fun (f_48 : sg_F) =>
        spl (sX5_write r_14 f_48 L) fun (f_52 : sg_F) =>
        (f_52)) else (
        (f_1))))
set_option maxRecDepth 100000 in
noncomputable def sX5_both_5_h7 (rec_7 : Int32 → sg_F → sg_L → sg_F) (y2_7 : Int32) (fp_7 : sg_F) (L : sg_L) : sg_F :=
  if y2_7.toInt < 120 then (
    spl (α := Int32) (fp_7 4 6) fun (v_3 : Int32) =>
    spl (α := Int32) (fp_7 4 1) fun (v_6 : Int32) =>
    spl (sX5_next fp_7 L) fun (r_12 : Int32) =>
    if r_12.toInt = 38 then (
      spl (α := Int32) (v_3 + 1) fun (v_17 : Int32) =>
      spl (α := sg_F) (sg_up fp_7 4 (sgu (fp_7 4) 6 v_17)) fun (f_19 : sg_F) =>
      spl (sX5_compared_5 f_19 L) fun (f_20 : sg_F) =>
      spl (sX5_write 38 f_20 L) fun (f_24 : sg_F) =>
      spl (α := Int32) (y2_7 + 1) fun (v_28 : Int32) =>
      rec_7 v_28 f_24 L) else (
      (fp_7))) else (
    (fp_7))
set_option maxRecDepth 100000 in
noncomputable def sX5_both_5_l7 (n : Nat) : Int32 → sg_F → sg_L → sg_F :=
  Nat.rec (motive := fun _ => Int32 → sg_F → sg_L → sg_F) (fun _ f L => (f)) (fun _ r => sX5_both_5_h7 r) n
set_option maxRecDepth 100000 in
noncomputable def sX5_both_5 (f : sg_F) (L : sg_L) : sg_F :=
  spl (sX5_compared_5 f L) fun (f_30 : sg_F) =>
  sX5_both_5_l7 121 0 f_30 L
set_option maxRecDepth 100000 in
noncomputable def sX5_either_5_h7 (rec_7 : Int32 → sg_F → sg_L → sg_F) (y2_7 : Int32) (fp_7 : sg_F) (L : sg_L) : sg_F :=
  if y2_7.toInt < 120 then (
    spl (α := Int32) (fp_7 4 6) fun (v_3 : Int32) =>
    spl (α := Int32) (fp_7 4 1) fun (v_6 : Int32) =>
    spl (sX5_next fp_7 L) fun (r_12 : Int32) =>
    if r_12.toInt = 124 then (
      spl (α := Int32) (v_3 + 1) fun (v_17 : Int32) =>
      spl (α := sg_F) (sg_up fp_7 4 (sgu (fp_7 4) 6 v_17)) fun (f_19 : sg_F) =>
      spl (sX5_both_5 f_19 L) fun (f_20 : sg_F) =>
      spl (sX5_write 124 f_20 L) fun (f_24 : sg_F) =>
      spl (α := Int32) (y2_7 + 1) fun (v_28 : Int32) =>
      rec_7 v_28 f_24 L) else (
      (fp_7))) else (
    (fp_7))
set_option maxRecDepth 100000 in
noncomputable def sX5_either_5_l7 (n : Nat) : Int32 → sg_F → sg_L → sg_F :=
  Nat.rec (motive := fun _ => Int32 → sg_F → sg_L → sg_F) (fun _ f L => (f)) (fun _ r => sX5_either_5_h7 r) n
set_option maxRecDepth 100000 in
noncomputable def sX5_either_5 (f : sg_F) (L : sg_L) : sg_F :=
  spl (sX5_both_5 f L) fun (f_30 : sg_F) =>
  sX5_either_5_l7 121 0 f_30 L
set_option maxRecDepth 100000 in
noncomputable def sX5_opened_5 (x0 : Int32) (f : sg_F) (L : sg_L) : sg_F :=
  if x0.toInt = 40 then (
    spl (sX5_either_5 f L) fun (f_3 : sg_F) =>
    spl (α := Int32) (f_3 4 6) fun (v_7 : Int32) =>
    spl (α := Int32) (f_3 4 1) fun (v_10 : Int32) =>
    spl (sX5_next f_3 L) fun (r_16 : Int32) =>
    if r_16.toInt = 41 then (
      spl (α := Int32) (v_7 + 1) fun (v_25 : Int32) =>
      spl (α := sg_F) (sg_up f_3 4 (sgu (f_3 4) 6 v_25)) fun (f_27 : sg_F) =>
      (f_27)) else (
      spl (sX5_fail f_3 L) fun (f_21 : sg_F) =>
      (f_21))) else (
    spl (sX5_operand_5 f L) fun (f_28 : sg_F) =>
    if x0.toInt = 33 then (
      spl (sX5_write 33 f_28 L) fun (f_38 : sg_F) =>
      (f_38)) else (
      spl (sX5_write 126 f_28 L) fun (f_34 : sg_F) =>
      (f_34)))
set_option maxRecDepth 100000 in
noncomputable def sX5_operand_4 (f : sg_F) (L : sg_L) : sg_F :=
  spl (α := Int32) (f 4 6) fun (v_1 : Int32) =>
  spl (α := Int32) (f 4 1) fun (v_4 : Int32) =>
  spl (sX5_next f L) fun (r_10 : Int32) =>
  spl (sX5_isDigit r_10 f L) fun (r_16 : Int32) =>
  if r_16 = 1 then (
    spl (sX5_number f L) fun (f_19 : sg_F) =>
    (f_19)) else (
    spl (sX5_isName r_10 f L) fun (r_26 : Int32) =>
    if r_26 = 1 then (
      spl (α := Int32) (v_1 + 1) fun (v_29 : Int32) =>
      spl (α := sg_F) (sg_up f 4 (sgu (f 4) 6 v_29)) fun (f_31 : sg_F) =>
      spl (sX5_write r_10 f_31 L) fun (f_32 : sg_F) =>
      (f_32)) else (
      if r_10.toInt = 40 then (
        spl (α := Int32) (v_1 + 1) fun (v_38 : Int32) =>
        spl (α := sg_F) (sg_up f 4 (sgu (f 4) 6 v_38)) fun (f_40 : sg_F) =>
        spl (sX5_opened_5 r_10 f_40 L) fun (f_41 : sg_F) =>
        (f_41)) else (
        if r_10.toInt = 33 then (
          spl (α := Int32) (v_1 + 1) fun (v_47 : Int32) =>
          spl (α := sg_F) (sg_up f 4 (sgu (f 4) 6 v_47)) fun (f_49 : sg_F) =>
          spl (sX5_opened_5 r_10 f_49 L) fun (f_50 : sg_F) =>
          (f_50)) else (
          if r_10.toInt = 45 then (
            spl (α := Int32) (v_1 + 1) fun (v_60 : Int32) =>
            spl (α := sg_F) (sg_up f 4 (sgu (f 4) 6 v_60)) fun (f_62 : sg_F) =>
            spl (sX5_opened_5 r_10 f_62 L) fun (f_63 : sg_F) =>
            (f_63)) else (
            spl (sX5_fail f L) fun (f_56 : sg_F) =>
            (f_56))))))
set_option maxRecDepth 100000 in
noncomputable def sX5_product_4_h12 (rec_12 : Int32 → Int32 → sg_F → sg_L → sg_F) (y2_12 : Int32) (y3_12 : Int32) (fp_12 : sg_F) (L : sg_L) : sg_F :=
  spl (α := Int32) (fp_12 4 6) fun (v_7 : Int32) =>
  spl (α := Int32) (fp_12 4 1) fun (v_10 : Int32) =>
  if y3_12.toInt < 120 then (
    if y2_12.toInt = 42 then (
      spl (α := Int32) (v_7 + 1) fun (v_17 : Int32) =>
      spl (α := sg_F) (sg_up fp_12 4 (sgu (fp_12 4) 6 v_17)) fun (f_19 : sg_F) =>
      spl (sX5_operand_4 f_19 L) fun (f_20 : sg_F) =>
      spl (sX5_write y2_12 f_20 L) fun (f_24 : sg_F) =>
      spl (α := Int32) (f_24 4 6) fun (v_28 : Int32) =>
      spl (sX5_next f_24 L) fun (r_35 : Int32) =>
      spl (α := Int32) (y3_12 + 1) fun (v_38 : Int32) =>
      rec_12 r_35 v_38 f_24 L) else (
      if y2_12.toInt = 47 then (
        spl (α := Int32) (v_7 + 1) fun (v_42 : Int32) =>
        spl (α := sg_F) (sg_up fp_12 4 (sgu (fp_12 4) 6 v_42)) fun (f_44 : sg_F) =>
        spl (sX5_operand_4 f_44 L) fun (f_45 : sg_F) =>
        spl (sX5_write y2_12 f_45 L) fun (f_49 : sg_F) =>
        spl (α := Int32) (f_49 4 6) fun (v_53 : Int32) =>
        spl (sX5_next f_49 L) fun (r_60 : Int32) =>
        spl (α := Int32) (y3_12 + 1) fun (v_63 : Int32) =>
        rec_12 r_60 v_63 f_49 L) else (
        if y2_12.toInt = 37 then (
          spl (α := Int32) (v_7 + 1) fun (v_67 : Int32) =>
          spl (α := sg_F) (sg_up fp_12 4 (sgu (fp_12 4) 6 v_67)) fun (f_69 : sg_F) =>
          spl (sX5_operand_4 f_69 L) fun (f_70 : sg_F) =>
          spl (sX5_write y2_12 f_70 L) fun (f_74 : sg_F) =>
          spl (α := Int32) (f_74 4 6) fun (v_78 : Int32) =>
          spl (sX5_next f_74 L) fun (r_85 : Int32) =>
          spl (α := Int32) (y3_12 + 1) fun (v_88 : Int32) =>
          rec_12 r_85 v_88 f_74 L) else (
          (fp_12))))) else (
    (fp_12))
set_option maxRecDepth 100000 in
noncomputable def sX5_product_4_l12 (n : Nat) : Int32 → Int32 → sg_F → sg_L → sg_F :=
  Nat.rec (motive := fun _ => Int32 → Int32 → sg_F → sg_L → sg_F) (fun _ _ f L => (f)) (fun _ r => sX5_product_4_h12 r) n
set_option maxRecDepth 100000 in
noncomputable def sX5_product_4 (f : sg_F) (L : sg_L) : sg_F :=
  spl (α := Int32) (f 4 6) fun (v_1 : Int32) =>
  spl (α := Int32) (f 4 1) fun (v_3 : Int32) =>
  spl (sX5_operand_4 f L) fun (f_90 : sg_F) =>
  spl (α := Int32) (f_90 4 6) fun (v_94 : Int32) =>
  spl (sX5_next f_90 L) fun (r_101 : Int32) =>
  sX5_product_4_l12 121 r_101 0 f_90 L
set_option maxRecDepth 100000 in
noncomputable def sX5_sum_4_h12 (rec_12 : Int32 → Int32 → sg_F → sg_L → sg_F) (y2_12 : Int32) (y3_12 : Int32) (fp_12 : sg_F) (L : sg_L) : sg_F :=
  spl (α := Int32) (fp_12 4 6) fun (v_7 : Int32) =>
  spl (α := Int32) (fp_12 4 1) fun (v_10 : Int32) =>
  if y3_12.toInt < 120 then (
    if y2_12.toInt = 43 then (
      spl (α := Int32) (v_7 + 1) fun (v_17 : Int32) =>
      spl (α := sg_F) (sg_up fp_12 4 (sgu (fp_12 4) 6 v_17)) fun (f_19 : sg_F) =>
      spl (sX5_product_4 f_19 L) fun (f_20 : sg_F) =>
      spl (sX5_write y2_12 f_20 L) fun (f_24 : sg_F) =>
      spl (α := Int32) (f_24 4 6) fun (v_28 : Int32) =>
      spl (sX5_next f_24 L) fun (r_35 : Int32) =>
      spl (α := Int32) (y3_12 + 1) fun (v_38 : Int32) =>
      rec_12 r_35 v_38 f_24 L) else (
      if y2_12.toInt = 45 then (
        spl (α := Int32) (v_7 + 1) fun (v_42 : Int32) =>
        spl (α := sg_F) (sg_up fp_12 4 (sgu (fp_12 4) 6 v_42)) fun (f_44 : sg_F) =>
        spl (sX5_product_4 f_44 L) fun (f_45 : sg_F) =>
        spl (sX5_write y2_12 f_45 L) fun (f_49 : sg_F) =>
        spl (α := Int32) (f_49 4 6) fun (v_53 : Int32) =>
        spl (sX5_next f_49 L) fun (r_60 : Int32) =>
        spl (α := Int32) (y3_12 + 1) fun (v_63 : Int32) =>
        rec_12 r_60 v_63 f_49 L) else (
        (fp_12)))) else (
    (fp_12))
set_option maxRecDepth 100000 in
noncomputable def sX5_sum_4_l12 (n : Nat) : Int32 → Int32 → sg_F → sg_L → sg_F :=
  Nat.rec (motive := fun _ => Int32 → Int32 → sg_F → sg_L → sg_F) (fun _ _ f L => (f)) (fun _ r => sX5_sum_4_h12 r) n
set_option maxRecDepth 100000 in
noncomputable def sX5_sum_4 (f : sg_F) (L : sg_L) : sg_F :=
  spl (α := Int32) (f 4 6) fun (v_1 : Int32) =>
  spl (α := Int32) (f 4 1) fun (v_3 : Int32) =>
  spl (sX5_product_4 f L) fun (f_65 : sg_F) =>
  spl (α := Int32) (f_65 4 6) fun (v_69 : Int32) =>
  spl (sX5_next f_65 L) fun (r_76 : Int32) =>
  sX5_sum_4_l12 121 r_76 0 f_65 L
set_option maxRecDepth 100000 in
noncomputable def sX5_compared_4 (f : sg_F) (L : sg_L) : sg_F :=
  spl (sX5_sum_4 f L) fun (f_1 : sg_F) =>
  spl (α := Int32) (f_1 4 6) fun (v_5 : Int32) =>
  spl (α := Int32) (f_1 4 1) fun (v_8 : Int32) =>
  spl (sX5_next f_1 L) fun (r_14 : Int32) =>
  if r_14.toInt = 60 then (
    spl (α := Int32) (v_5 + 1) fun (v_19 : Int32) =>
    spl (α := sg_F) (sg_up f_1 4 (sgu (f_1 4) 6 v_19)) fun (f_21 : sg_F) =>
    spl (sX5_sum_4 f_21 L) fun (f_22 : sg_F) =>
    spl (sX5_write r_14 f_22 L) fun (f_26 : sg_F) =>
    (f_26)) else (
    if r_14.toInt = 61 then (
      spl (α := Int32) (v_5 + 1) fun (v_32 : Int32) =>
      spl (α := sg_F) (sg_up f_1 4 (sgu (f_1 4) 6 v_32)) fun (f_34 : sg_F) =>
      spl (sX5_sum_4 f_34 L) fun (f_35 : sg_F) =>
      spl (sX5_write r_14 f_35 L) fun (f_39 : sg_F) =>
      (f_39)) else (
      if r_14.toInt = 62 then (
        spl (α := Int32) (v_5 + 1) fun (v_45 : Int32) =>
        spl (α := sg_F) (sg_up f_1 4 (sgu (f_1 4) 6 v_45)) fun (f_47 : sg_F) =>
        spl (sX5_sum_4 f_47 L) fun (f_48 : sg_F) =>
        spl (sX5_write r_14 f_48 L) fun (f_52 : sg_F) =>
        (f_52)) else (
        (f_1))))
set_option maxRecDepth 100000 in
noncomputable def sX5_both_4_h7 (rec_7 : Int32 → sg_F → sg_L → sg_F) (y2_7 : Int32) (fp_7 : sg_F) (L : sg_L) : sg_F :=
  if y2_7.toInt < 120 then (
    spl (α := Int32) (fp_7 4 6) fun (v_3 : Int32) =>
    spl (α := Int32) (fp_7 4 1) fun (v_6 : Int32) =>
    spl (sX5_next fp_7 L) fun (r_12 : Int32) =>
    if r_12.toInt = 38 then (
      spl (α := Int32) (v_3 + 1) fun (v_17 : Int32) =>
      spl (α := sg_F) (sg_up fp_7 4 (sgu (fp_7 4) 6 v_17)) fun (f_19 : sg_F) =>
      spl (sX5_compared_4 f_19 L) fun (f_20 : sg_F) =>
      spl (sX5_write 38 f_20 L) fun (f_24 : sg_F) =>
      spl (α := Int32) (y2_7 + 1) fun (v_28 : Int32) =>
      rec_7 v_28 f_24 L) else (
      (fp_7))) else (
    (fp_7))
set_option maxRecDepth 100000 in
noncomputable def sX5_both_4_l7 (n : Nat) : Int32 → sg_F → sg_L → sg_F :=
  Nat.rec (motive := fun _ => Int32 → sg_F → sg_L → sg_F) (fun _ f L => (f)) (fun _ r => sX5_both_4_h7 r) n
set_option maxRecDepth 100000 in
noncomputable def sX5_both_4 (f : sg_F) (L : sg_L) : sg_F :=
  spl (sX5_compared_4 f L) fun (f_30 : sg_F) =>
  sX5_both_4_l7 121 0 f_30 L
set_option maxRecDepth 100000 in
noncomputable def sX5_either_4_h7 (rec_7 : Int32 → sg_F → sg_L → sg_F) (y2_7 : Int32) (fp_7 : sg_F) (L : sg_L) : sg_F :=
  if y2_7.toInt < 120 then (
    spl (α := Int32) (fp_7 4 6) fun (v_3 : Int32) =>
    spl (α := Int32) (fp_7 4 1) fun (v_6 : Int32) =>
    spl (sX5_next fp_7 L) fun (r_12 : Int32) =>
    if r_12.toInt = 124 then (
      spl (α := Int32) (v_3 + 1) fun (v_17 : Int32) =>
      spl (α := sg_F) (sg_up fp_7 4 (sgu (fp_7 4) 6 v_17)) fun (f_19 : sg_F) =>
      spl (sX5_both_4 f_19 L) fun (f_20 : sg_F) =>
      spl (sX5_write 124 f_20 L) fun (f_24 : sg_F) =>
      spl (α := Int32) (y2_7 + 1) fun (v_28 : Int32) =>
      rec_7 v_28 f_24 L) else (
      (fp_7))) else (
    (fp_7))
set_option maxRecDepth 100000 in
noncomputable def sX5_either_4_l7 (n : Nat) : Int32 → sg_F → sg_L → sg_F :=
  Nat.rec (motive := fun _ => Int32 → sg_F → sg_L → sg_F) (fun _ f L => (f)) (fun _ r => sX5_either_4_h7 r) n
set_option maxRecDepth 100000 in
noncomputable def sX5_either_4 (f : sg_F) (L : sg_L) : sg_F :=
  spl (sX5_both_4 f L) fun (f_30 : sg_F) =>
  sX5_either_4_l7 121 0 f_30 L
set_option maxRecDepth 100000 in
noncomputable def sX5_opened_4 (x0 : Int32) (f : sg_F) (L : sg_L) : sg_F :=
  if x0.toInt = 40 then (
    spl (sX5_either_4 f L) fun (f_3 : sg_F) =>
    spl (α := Int32) (f_3 4 6) fun (v_7 : Int32) =>
    spl (α := Int32) (f_3 4 1) fun (v_10 : Int32) =>
    spl (sX5_next f_3 L) fun (r_16 : Int32) =>
    if r_16.toInt = 41 then (
      spl (α := Int32) (v_7 + 1) fun (v_25 : Int32) =>
      spl (α := sg_F) (sg_up f_3 4 (sgu (f_3 4) 6 v_25)) fun (f_27 : sg_F) =>
      (f_27)) else (
      spl (sX5_fail f_3 L) fun (f_21 : sg_F) =>
      (f_21))) else (
    spl (sX5_operand_4 f L) fun (f_28 : sg_F) =>
    if x0.toInt = 33 then (
      spl (sX5_write 33 f_28 L) fun (f_38 : sg_F) =>
      (f_38)) else (
      spl (sX5_write 126 f_28 L) fun (f_34 : sg_F) =>
      (f_34)))
set_option maxRecDepth 100000 in
noncomputable def sX5_operand_3 (f : sg_F) (L : sg_L) : sg_F :=
  spl (α := Int32) (f 4 6) fun (v_1 : Int32) =>
  spl (α := Int32) (f 4 1) fun (v_4 : Int32) =>
  spl (sX5_next f L) fun (r_10 : Int32) =>
  spl (sX5_isDigit r_10 f L) fun (r_16 : Int32) =>
  if r_16 = 1 then (
    spl (sX5_number f L) fun (f_19 : sg_F) =>
    (f_19)) else (
    spl (sX5_isName r_10 f L) fun (r_26 : Int32) =>
    if r_26 = 1 then (
      spl (α := Int32) (v_1 + 1) fun (v_29 : Int32) =>
      spl (α := sg_F) (sg_up f 4 (sgu (f 4) 6 v_29)) fun (f_31 : sg_F) =>
      spl (sX5_write r_10 f_31 L) fun (f_32 : sg_F) =>
      (f_32)) else (
      if r_10.toInt = 40 then (
        spl (α := Int32) (v_1 + 1) fun (v_38 : Int32) =>
        spl (α := sg_F) (sg_up f 4 (sgu (f 4) 6 v_38)) fun (f_40 : sg_F) =>
        spl (sX5_opened_4 r_10 f_40 L) fun (f_41 : sg_F) =>
        (f_41)) else (
        if r_10.toInt = 33 then (
          spl (α := Int32) (v_1 + 1) fun (v_47 : Int32) =>
          spl (α := sg_F) (sg_up f 4 (sgu (f 4) 6 v_47)) fun (f_49 : sg_F) =>
          spl (sX5_opened_4 r_10 f_49 L) fun (f_50 : sg_F) =>
          (f_50)) else (
          if r_10.toInt = 45 then (
            spl (α := Int32) (v_1 + 1) fun (v_60 : Int32) =>
            spl (α := sg_F) (sg_up f 4 (sgu (f 4) 6 v_60)) fun (f_62 : sg_F) =>
            spl (sX5_opened_4 r_10 f_62 L) fun (f_63 : sg_F) =>
            (f_63)) else (
            spl (sX5_fail f L) fun (f_56 : sg_F) =>
            (f_56))))))
set_option maxRecDepth 100000 in
noncomputable def sX5_product_3_h12 (rec_12 : Int32 → Int32 → sg_F → sg_L → sg_F) (y2_12 : Int32) (y3_12 : Int32) (fp_12 : sg_F) (L : sg_L) : sg_F :=
  spl (α := Int32) (fp_12 4 6) fun (v_7 : Int32) =>
  spl (α := Int32) (fp_12 4 1) fun (v_10 : Int32) =>
  if y3_12.toInt < 120 then (
    if y2_12.toInt = 42 then (
      spl (α := Int32) (v_7 + 1) fun (v_17 : Int32) =>
      spl (α := sg_F) (sg_up fp_12 4 (sgu (fp_12 4) 6 v_17)) fun (f_19 : sg_F) =>
      spl (sX5_operand_3 f_19 L) fun (f_20 : sg_F) =>
      spl (sX5_write y2_12 f_20 L) fun (f_24 : sg_F) =>
      spl (α := Int32) (f_24 4 6) fun (v_28 : Int32) =>
      spl (sX5_next f_24 L) fun (r_35 : Int32) =>
      spl (α := Int32) (y3_12 + 1) fun (v_38 : Int32) =>
      rec_12 r_35 v_38 f_24 L) else (
      if y2_12.toInt = 47 then (
        spl (α := Int32) (v_7 + 1) fun (v_42 : Int32) =>
        spl (α := sg_F) (sg_up fp_12 4 (sgu (fp_12 4) 6 v_42)) fun (f_44 : sg_F) =>
        spl (sX5_operand_3 f_44 L) fun (f_45 : sg_F) =>
        spl (sX5_write y2_12 f_45 L) fun (f_49 : sg_F) =>
        spl (α := Int32) (f_49 4 6) fun (v_53 : Int32) =>
        spl (sX5_next f_49 L) fun (r_60 : Int32) =>
        spl (α := Int32) (y3_12 + 1) fun (v_63 : Int32) =>
        rec_12 r_60 v_63 f_49 L) else (
        if y2_12.toInt = 37 then (
          spl (α := Int32) (v_7 + 1) fun (v_67 : Int32) =>
          spl (α := sg_F) (sg_up fp_12 4 (sgu (fp_12 4) 6 v_67)) fun (f_69 : sg_F) =>
          spl (sX5_operand_3 f_69 L) fun (f_70 : sg_F) =>
          spl (sX5_write y2_12 f_70 L) fun (f_74 : sg_F) =>
          spl (α := Int32) (f_74 4 6) fun (v_78 : Int32) =>
          spl (sX5_next f_74 L) fun (r_85 : Int32) =>
          spl (α := Int32) (y3_12 + 1) fun (v_88 : Int32) =>
          rec_12 r_85 v_88 f_74 L) else (
          (fp_12))))) else (
    (fp_12))
set_option maxRecDepth 100000 in
noncomputable def sX5_product_3_l12 (n : Nat) : Int32 → Int32 → sg_F → sg_L → sg_F :=
  Nat.rec (motive := fun _ => Int32 → Int32 → sg_F → sg_L → sg_F) (fun _ _ f L => (f)) (fun _ r => sX5_product_3_h12 r) n
set_option maxRecDepth 100000 in
noncomputable def sX5_product_3 (f : sg_F) (L : sg_L) : sg_F :=
  spl (α := Int32) (f 4 6) fun (v_1 : Int32) =>
  spl (α := Int32) (f 4 1) fun (v_3 : Int32) =>
  spl (sX5_operand_3 f L) fun (f_90 : sg_F) =>
  spl (α := Int32) (f_90 4 6) fun (v_94 : Int32) =>
  spl (sX5_next f_90 L) fun (r_101 : Int32) =>
  sX5_product_3_l12 121 r_101 0 f_90 L
set_option maxRecDepth 100000 in
noncomputable def sX5_sum_3_h12 (rec_12 : Int32 → Int32 → sg_F → sg_L → sg_F) (y2_12 : Int32) (y3_12 : Int32) (fp_12 : sg_F) (L : sg_L) : sg_F :=
  spl (α := Int32) (fp_12 4 6) fun (v_7 : Int32) =>
  spl (α := Int32) (fp_12 4 1) fun (v_10 : Int32) =>
  if y3_12.toInt < 120 then (
    if y2_12.toInt = 43 then (
      spl (α := Int32) (v_7 + 1) fun (v_17 : Int32) =>
      spl (α := sg_F) (sg_up fp_12 4 (sgu (fp_12 4) 6 v_17)) fun (f_19 : sg_F) =>
      spl (sX5_product_3 f_19 L) fun (f_20 : sg_F) =>
      spl (sX5_write y2_12 f_20 L) fun (f_24 : sg_F) =>
      spl (α := Int32) (f_24 4 6) fun (v_28 : Int32) =>
      spl (sX5_next f_24 L) fun (r_35 : Int32) =>
      spl (α := Int32) (y3_12 + 1) fun (v_38 : Int32) =>
      rec_12 r_35 v_38 f_24 L) else (
      if y2_12.toInt = 45 then (
        spl (α := Int32) (v_7 + 1) fun (v_42 : Int32) =>
        spl (α := sg_F) (sg_up fp_12 4 (sgu (fp_12 4) 6 v_42)) fun (f_44 : sg_F) =>
        spl (sX5_product_3 f_44 L) fun (f_45 : sg_F) =>
        spl (sX5_write y2_12 f_45 L) fun (f_49 : sg_F) =>
        spl (α := Int32) (f_49 4 6) fun (v_53 : Int32) =>
        spl (sX5_next f_49 L) fun (r_60 : Int32) =>
        spl (α := Int32) (y3_12 + 1) fun (v_63 : Int32) =>
        rec_12 r_60 v_63 f_49 L) else (
        (fp_12)))) else (
    (fp_12))
set_option maxRecDepth 100000 in
noncomputable def sX5_sum_3_l12 (n : Nat) : Int32 → Int32 → sg_F → sg_L → sg_F :=
  Nat.rec (motive := fun _ => Int32 → Int32 → sg_F → sg_L → sg_F) (fun _ _ f L => (f)) (fun _ r => sX5_sum_3_h12 r) n
set_option maxRecDepth 100000 in
noncomputable def sX5_sum_3 (f : sg_F) (L : sg_L) : sg_F :=
  spl (α := Int32) (f 4 6) fun (v_1 : Int32) =>
  spl (α := Int32) (f 4 1) fun (v_3 : Int32) =>
  spl (sX5_product_3 f L) fun (f_65 : sg_F) =>
  spl (α := Int32) (f_65 4 6) fun (v_69 : Int32) =>
  spl (sX5_next f_65 L) fun (r_76 : Int32) =>
  sX5_sum_3_l12 121 r_76 0 f_65 L
set_option maxRecDepth 100000 in
noncomputable def sX5_compared_3 (f : sg_F) (L : sg_L) : sg_F :=
  spl (sX5_sum_3 f L) fun (f_1 : sg_F) =>
  spl (α := Int32) (f_1 4 6) fun (v_5 : Int32) =>
  spl (α := Int32) (f_1 4 1) fun (v_8 : Int32) =>
  spl (sX5_next f_1 L) fun (r_14 : Int32) =>
  if r_14.toInt = 60 then (
    spl (α := Int32) (v_5 + 1) fun (v_19 : Int32) =>
    spl (α := sg_F) (sg_up f_1 4 (sgu (f_1 4) 6 v_19)) fun (f_21 : sg_F) =>
    spl (sX5_sum_3 f_21 L) fun (f_22 : sg_F) =>
    spl (sX5_write r_14 f_22 L) fun (f_26 : sg_F) =>
    (f_26)) else (
    if r_14.toInt = 61 then (
      spl (α := Int32) (v_5 + 1) fun (v_32 : Int32) =>
      spl (α := sg_F) (sg_up f_1 4 (sgu (f_1 4) 6 v_32)) fun (f_34 : sg_F) =>
      spl (sX5_sum_3 f_34 L) fun (f_35 : sg_F) =>
      spl (sX5_write r_14 f_35 L) fun (f_39 : sg_F) =>
      (f_39)) else (
      if r_14.toInt = 62 then (
        spl (α := Int32) (v_5 + 1) fun (v_45 : Int32) =>
        spl (α := sg_F) (sg_up f_1 4 (sgu (f_1 4) 6 v_45)) fun (f_47 : sg_F) =>
        spl (sX5_sum_3 f_47 L) fun (f_48 : sg_F) =>
        spl (sX5_write r_14 f_48 L) fun (f_52 : sg_F) =>
        (f_52)) else (
        (f_1))))
set_option maxRecDepth 100000 in
noncomputable def sX5_both_3_h7 (rec_7 : Int32 → sg_F → sg_L → sg_F) (y2_7 : Int32) (fp_7 : sg_F) (L : sg_L) : sg_F :=
  if y2_7.toInt < 120 then (
    spl (α := Int32) (fp_7 4 6) fun (v_3 : Int32) =>
    spl (α := Int32) (fp_7 4 1) fun (v_6 : Int32) =>
    spl (sX5_next fp_7 L) fun (r_12 : Int32) =>
    if r_12.toInt = 38 then (
      spl (α := Int32) (v_3 + 1) fun (v_17 : Int32) =>
      spl (α := sg_F) (sg_up fp_7 4 (sgu (fp_7 4) 6 v_17)) fun (f_19 : sg_F) =>
      spl (sX5_compared_3 f_19 L) fun (f_20 : sg_F) =>
      spl (sX5_write 38 f_20 L) fun (f_24 : sg_F) =>
      spl (α := Int32) (y2_7 + 1) fun (v_28 : Int32) =>
      rec_7 v_28 f_24 L) else (
      (fp_7))) else (
    (fp_7))
set_option maxRecDepth 100000 in
noncomputable def sX5_both_3_l7 (n : Nat) : Int32 → sg_F → sg_L → sg_F :=
  Nat.rec (motive := fun _ => Int32 → sg_F → sg_L → sg_F) (fun _ f L => (f)) (fun _ r => sX5_both_3_h7 r) n
set_option maxRecDepth 100000 in
noncomputable def sX5_both_3 (f : sg_F) (L : sg_L) : sg_F :=
  spl (sX5_compared_3 f L) fun (f_30 : sg_F) =>
  sX5_both_3_l7 121 0 f_30 L
set_option maxRecDepth 100000 in
noncomputable def sX5_either_3_h7 (rec_7 : Int32 → sg_F → sg_L → sg_F) (y2_7 : Int32) (fp_7 : sg_F) (L : sg_L) : sg_F :=
  if y2_7.toInt < 120 then (
    spl (α := Int32) (fp_7 4 6) fun (v_3 : Int32) =>
    spl (α := Int32) (fp_7 4 1) fun (v_6 : Int32) =>
    spl (sX5_next fp_7 L) fun (r_12 : Int32) =>
    if r_12.toInt = 124 then (
      spl (α := Int32) (v_3 + 1) fun (v_17 : Int32) =>
      spl (α := sg_F) (sg_up fp_7 4 (sgu (fp_7 4) 6 v_17)) fun (f_19 : sg_F) =>
      spl (sX5_both_3 f_19 L) fun (f_20 : sg_F) =>
      spl (sX5_write 124 f_20 L) fun (f_24 : sg_F) =>
      spl (α := Int32) (y2_7 + 1) fun (v_28 : Int32) =>
      rec_7 v_28 f_24 L) else (
      (fp_7))) else (
    (fp_7))
set_option maxRecDepth 100000 in
noncomputable def sX5_either_3_l7 (n : Nat) : Int32 → sg_F → sg_L → sg_F :=
  Nat.rec (motive := fun _ => Int32 → sg_F → sg_L → sg_F) (fun _ f L => (f)) (fun _ r => sX5_either_3_h7 r) n
set_option maxRecDepth 100000 in
noncomputable def sX5_either_3 (f : sg_F) (L : sg_L) : sg_F :=
  spl (sX5_both_3 f L) fun (f_30 : sg_F) =>
  sX5_either_3_l7 121 0 f_30 L
set_option maxRecDepth 100000 in
noncomputable def sX5_opened_3 (x0 : Int32) (f : sg_F) (L : sg_L) : sg_F :=
  if x0.toInt = 40 then (
    spl (sX5_either_3 f L) fun (f_3 : sg_F) =>
    spl (α := Int32) (f_3 4 6) fun (v_7 : Int32) =>
    spl (α := Int32) (f_3 4 1) fun (v_10 : Int32) =>
    spl (sX5_next f_3 L) fun (r_16 : Int32) =>
    if r_16.toInt = 41 then (
      spl (α := Int32) (v_7 + 1) fun (v_25 : Int32) =>
      spl (α := sg_F) (sg_up f_3 4 (sgu (f_3 4) 6 v_25)) fun (f_27 : sg_F) =>
      (f_27)) else (
      spl (sX5_fail f_3 L) fun (f_21 : sg_F) =>
      (f_21))) else (
    spl (sX5_operand_3 f L) fun (f_28 : sg_F) =>
    if x0.toInt = 33 then (
      spl (sX5_write 33 f_28 L) fun (f_38 : sg_F) =>
      (f_38)) else (
      spl (sX5_write 126 f_28 L) fun (f_34 : sg_F) =>
      (f_34)))
set_option maxRecDepth 100000 in
noncomputable def sX5_operand_2 (f : sg_F) (L : sg_L) : sg_F :=
  spl (α := Int32) (f 4 6) fun (v_1 : Int32) =>
  spl (α := Int32) (f 4 1) fun (v_4 : Int32) =>
  spl (sX5_next f L) fun (r_10 : Int32) =>
  spl (sX5_isDigit r_10 f L) fun (r_16 : Int32) =>
  if r_16 = 1 then (
    spl (sX5_number f L) fun (f_19 : sg_F) =>
    (f_19)) else (
    spl (sX5_isName r_10 f L) fun (r_26 : Int32) =>
    if r_26 = 1 then (
      spl (α := Int32) (v_1 + 1) fun (v_29 : Int32) =>
      spl (α := sg_F) (sg_up f 4 (sgu (f 4) 6 v_29)) fun (f_31 : sg_F) =>
      spl (sX5_write r_10 f_31 L) fun (f_32 : sg_F) =>
      (f_32)) else (
      if r_10.toInt = 40 then (
        spl (α := Int32) (v_1 + 1) fun (v_38 : Int32) =>
        spl (α := sg_F) (sg_up f 4 (sgu (f 4) 6 v_38)) fun (f_40 : sg_F) =>
        spl (sX5_opened_3 r_10 f_40 L) fun (f_41 : sg_F) =>
        (f_41)) else (
        if r_10.toInt = 33 then (
          spl (α := Int32) (v_1 + 1) fun (v_47 : Int32) =>
          spl (α := sg_F) (sg_up f 4 (sgu (f 4) 6 v_47)) fun (f_49 : sg_F) =>
          spl (sX5_opened_3 r_10 f_49 L) fun (f_50 : sg_F) =>
          (f_50)) else (
          if r_10.toInt = 45 then (
            spl (α := Int32) (v_1 + 1) fun (v_60 : Int32) =>
            spl (α := sg_F) (sg_up f 4 (sgu (f 4) 6 v_60)) fun (f_62 : sg_F) =>
            spl (sX5_opened_3 r_10 f_62 L) fun (f_63 : sg_F) =>
            (f_63)) else (
            spl (sX5_fail f L) fun (f_56 : sg_F) =>
            (f_56))))))
set_option maxRecDepth 100000 in
noncomputable def sX5_product_2_h12 (rec_12 : Int32 → Int32 → sg_F → sg_L → sg_F) (y2_12 : Int32) (y3_12 : Int32) (fp_12 : sg_F) (L : sg_L) : sg_F :=
  spl (α := Int32) (fp_12 4 6) fun (v_7 : Int32) =>
  spl (α := Int32) (fp_12 4 1) fun (v_10 : Int32) =>
  if y3_12.toInt < 120 then (
    if y2_12.toInt = 42 then (
      spl (α := Int32) (v_7 + 1) fun (v_17 : Int32) =>
      spl (α := sg_F) (sg_up fp_12 4 (sgu (fp_12 4) 6 v_17)) fun (f_19 : sg_F) =>
      spl (sX5_operand_2 f_19 L) fun (f_20 : sg_F) =>
      spl (sX5_write y2_12 f_20 L) fun (f_24 : sg_F) =>
      spl (α := Int32) (f_24 4 6) fun (v_28 : Int32) =>
      spl (sX5_next f_24 L) fun (r_35 : Int32) =>
      spl (α := Int32) (y3_12 + 1) fun (v_38 : Int32) =>
      rec_12 r_35 v_38 f_24 L) else (
      if y2_12.toInt = 47 then (
        spl (α := Int32) (v_7 + 1) fun (v_42 : Int32) =>
        spl (α := sg_F) (sg_up fp_12 4 (sgu (fp_12 4) 6 v_42)) fun (f_44 : sg_F) =>
        spl (sX5_operand_2 f_44 L) fun (f_45 : sg_F) =>
        spl (sX5_write y2_12 f_45 L) fun (f_49 : sg_F) =>
        spl (α := Int32) (f_49 4 6) fun (v_53 : Int32) =>
        spl (sX5_next f_49 L) fun (r_60 : Int32) =>
        spl (α := Int32) (y3_12 + 1) fun (v_63 : Int32) =>
        rec_12 r_60 v_63 f_49 L) else (
        if y2_12.toInt = 37 then (
          spl (α := Int32) (v_7 + 1) fun (v_67 : Int32) =>
          spl (α := sg_F) (sg_up fp_12 4 (sgu (fp_12 4) 6 v_67)) fun (f_69 : sg_F) =>
          spl (sX5_operand_2 f_69 L) fun (f_70 : sg_F) =>
          spl (sX5_write y2_12 f_70 L) fun (f_74 : sg_F) =>
          spl (α := Int32) (f_74 4 6) fun (v_78 : Int32) =>
          spl (sX5_next f_74 L) fun (r_85 : Int32) =>
          spl (α := Int32) (y3_12 + 1) fun (v_88 : Int32) =>
          rec_12 r_85 v_88 f_74 L) else (
          (fp_12))))) else (
    (fp_12))
set_option maxRecDepth 100000 in
noncomputable def sX5_product_2_l12 (n : Nat) : Int32 → Int32 → sg_F → sg_L → sg_F :=
  Nat.rec (motive := fun _ => Int32 → Int32 → sg_F → sg_L → sg_F) (fun _ _ f L => (f)) (fun _ r => sX5_product_2_h12 r) n
set_option maxRecDepth 100000 in
noncomputable def sX5_product_2 (f : sg_F) (L : sg_L) : sg_F :=
  spl (α := Int32) (f 4 6) fun (v_1 : Int32) =>
  spl (α := Int32) (f 4 1) fun (v_3 : Int32) =>
  spl (sX5_operand_2 f L) fun (f_90 : sg_F) =>
  spl (α := Int32) (f_90 4 6) fun (v_94 : Int32) =>
  spl (sX5_next f_90 L) fun (r_101 : Int32) =>
  sX5_product_2_l12 121 r_101 0 f_90 L
set_option maxRecDepth 100000 in
noncomputable def sX5_sum_2_h12 (rec_12 : Int32 → Int32 → sg_F → sg_L → sg_F) (y2_12 : Int32) (y3_12 : Int32) (fp_12 : sg_F) (L : sg_L) : sg_F :=
  spl (α := Int32) (fp_12 4 6) fun (v_7 : Int32) =>
  spl (α := Int32) (fp_12 4 1) fun (v_10 : Int32) =>
  if y3_12.toInt < 120 then (
    if y2_12.toInt = 43 then (
      spl (α := Int32) (v_7 + 1) fun (v_17 : Int32) =>
      spl (α := sg_F) (sg_up fp_12 4 (sgu (fp_12 4) 6 v_17)) fun (f_19 : sg_F) =>
      spl (sX5_product_2 f_19 L) fun (f_20 : sg_F) =>
      spl (sX5_write y2_12 f_20 L) fun (f_24 : sg_F) =>
      spl (α := Int32) (f_24 4 6) fun (v_28 : Int32) =>
      spl (sX5_next f_24 L) fun (r_35 : Int32) =>
      spl (α := Int32) (y3_12 + 1) fun (v_38 : Int32) =>
      rec_12 r_35 v_38 f_24 L) else (
      if y2_12.toInt = 45 then (
        spl (α := Int32) (v_7 + 1) fun (v_42 : Int32) =>
        spl (α := sg_F) (sg_up fp_12 4 (sgu (fp_12 4) 6 v_42)) fun (f_44 : sg_F) =>
        spl (sX5_product_2 f_44 L) fun (f_45 : sg_F) =>
        spl (sX5_write y2_12 f_45 L) fun (f_49 : sg_F) =>
        spl (α := Int32) (f_49 4 6) fun (v_53 : Int32) =>
        spl (sX5_next f_49 L) fun (r_60 : Int32) =>
        spl (α := Int32) (y3_12 + 1) fun (v_63 : Int32) =>
        rec_12 r_60 v_63 f_49 L) else (
        (fp_12)))) else (
    (fp_12))
set_option maxRecDepth 100000 in
noncomputable def sX5_sum_2_l12 (n : Nat) : Int32 → Int32 → sg_F → sg_L → sg_F :=
  Nat.rec (motive := fun _ => Int32 → Int32 → sg_F → sg_L → sg_F) (fun _ _ f L => (f)) (fun _ r => sX5_sum_2_h12 r) n
set_option maxRecDepth 100000 in
noncomputable def sX5_sum_2 (f : sg_F) (L : sg_L) : sg_F :=
  spl (α := Int32) (f 4 6) fun (v_1 : Int32) =>
  spl (α := Int32) (f 4 1) fun (v_3 : Int32) =>
  spl (sX5_product_2 f L) fun (f_65 : sg_F) =>
  spl (α := Int32) (f_65 4 6) fun (v_69 : Int32) =>
  spl (sX5_next f_65 L) fun (r_76 : Int32) =>
  sX5_sum_2_l12 121 r_76 0 f_65 L
set_option maxRecDepth 100000 in
noncomputable def sX5_compared_2 (f : sg_F) (L : sg_L) : sg_F :=
  spl (sX5_sum_2 f L) fun (f_1 : sg_F) =>
  spl (α := Int32) (f_1 4 6) fun (v_5 : Int32) =>
  spl (α := Int32) (f_1 4 1) fun (v_8 : Int32) =>
  spl (sX5_next f_1 L) fun (r_14 : Int32) =>
  if r_14.toInt = 60 then (
    spl (α := Int32) (v_5 + 1) fun (v_19 : Int32) =>
    spl (α := sg_F) (sg_up f_1 4 (sgu (f_1 4) 6 v_19)) fun (f_21 : sg_F) =>
    spl (sX5_sum_2 f_21 L) fun (f_22 : sg_F) =>
    spl (sX5_write r_14 f_22 L) fun (f_26 : sg_F) =>
    (f_26)) else (
    if r_14.toInt = 61 then (
      spl (α := Int32) (v_5 + 1) fun (v_32 : Int32) =>
      spl (α := sg_F) (sg_up f_1 4 (sgu (f_1 4) 6 v_32)) fun (f_34 : sg_F) =>
      spl (sX5_sum_2 f_34 L) fun (f_35 : sg_F) =>
      spl (sX5_write r_14 f_35 L) fun (f_39 : sg_F) =>
      (f_39)) else (
      if r_14.toInt = 62 then (
        spl (α := Int32) (v_5 + 1) fun (v_45 : Int32) =>
        spl (α := sg_F) (sg_up f_1 4 (sgu (f_1 4) 6 v_45)) fun (f_47 : sg_F) =>
        spl (sX5_sum_2 f_47 L) fun (f_48 : sg_F) =>
        spl (sX5_write r_14 f_48 L) fun (f_52 : sg_F) =>
        (f_52)) else (
        (f_1))))
set_option maxRecDepth 100000 in
noncomputable def sX5_both_2_h7 (rec_7 : Int32 → sg_F → sg_L → sg_F) (y2_7 : Int32) (fp_7 : sg_F) (L : sg_L) : sg_F :=
  if y2_7.toInt < 120 then (
    spl (α := Int32) (fp_7 4 6) fun (v_3 : Int32) =>
    spl (α := Int32) (fp_7 4 1) fun (v_6 : Int32) =>
    spl (sX5_next fp_7 L) fun (r_12 : Int32) =>
    if r_12.toInt = 38 then (
      spl (α := Int32) (v_3 + 1) fun (v_17 : Int32) =>
      spl (α := sg_F) (sg_up fp_7 4 (sgu (fp_7 4) 6 v_17)) fun (f_19 : sg_F) =>
      spl (sX5_compared_2 f_19 L) fun (f_20 : sg_F) =>
      spl (sX5_write 38 f_20 L) fun (f_24 : sg_F) =>
      spl (α := Int32) (y2_7 + 1) fun (v_28 : Int32) =>
      rec_7 v_28 f_24 L) else (
      (fp_7))) else (
    (fp_7))
set_option maxRecDepth 100000 in
noncomputable def sX5_both_2_l7 (n : Nat) : Int32 → sg_F → sg_L → sg_F :=
  Nat.rec (motive := fun _ => Int32 → sg_F → sg_L → sg_F) (fun _ f L => (f)) (fun _ r => sX5_both_2_h7 r) n
set_option maxRecDepth 100000 in
noncomputable def sX5_both_2 (f : sg_F) (L : sg_L) : sg_F :=
  spl (sX5_compared_2 f L) fun (f_30 : sg_F) =>
  sX5_both_2_l7 121 0 f_30 L
set_option maxRecDepth 100000 in
noncomputable def sX5_either_2_h7 (rec_7 : Int32 → sg_F → sg_L → sg_F) (y2_7 : Int32) (fp_7 : sg_F) (L : sg_L) : sg_F :=
  if y2_7.toInt < 120 then (
    spl (α := Int32) (fp_7 4 6) fun (v_3 : Int32) =>
    spl (α := Int32) (fp_7 4 1) fun (v_6 : Int32) =>
    spl (sX5_next fp_7 L) fun (r_12 : Int32) =>
    if r_12.toInt = 124 then (
      spl (α := Int32) (v_3 + 1) fun (v_17 : Int32) =>
      spl (α := sg_F) (sg_up fp_7 4 (sgu (fp_7 4) 6 v_17)) fun (f_19 : sg_F) =>
      spl (sX5_both_2 f_19 L) fun (f_20 : sg_F) =>
      spl (sX5_write 124 f_20 L) fun (f_24 : sg_F) =>
      spl (α := Int32) (y2_7 + 1) fun (v_28 : Int32) =>
      rec_7 v_28 f_24 L) else (
      (fp_7))) else (
    (fp_7))
set_option maxRecDepth 100000 in
noncomputable def sX5_either_2_l7 (n : Nat) : Int32 → sg_F → sg_L → sg_F :=
  Nat.rec (motive := fun _ => Int32 → sg_F → sg_L → sg_F) (fun _ f L => (f)) (fun _ r => sX5_either_2_h7 r) n
set_option maxRecDepth 100000 in
noncomputable def sX5_either_2 (f : sg_F) (L : sg_L) : sg_F :=
  spl (sX5_both_2 f L) fun (f_30 : sg_F) =>
  sX5_either_2_l7 121 0 f_30 L
set_option maxRecDepth 100000 in
noncomputable def sX5_opened_2 (x0 : Int32) (f : sg_F) (L : sg_L) : sg_F :=
  if x0.toInt = 40 then (
    spl (sX5_either_2 f L) fun (f_3 : sg_F) =>
    spl (α := Int32) (f_3 4 6) fun (v_7 : Int32) =>
    spl (α := Int32) (f_3 4 1) fun (v_10 : Int32) =>
    spl (sX5_next f_3 L) fun (r_16 : Int32) =>
    if r_16.toInt = 41 then (
      spl (α := Int32) (v_7 + 1) fun (v_25 : Int32) =>
      spl (α := sg_F) (sg_up f_3 4 (sgu (f_3 4) 6 v_25)) fun (f_27 : sg_F) =>
      (f_27)) else (
      spl (sX5_fail f_3 L) fun (f_21 : sg_F) =>
      (f_21))) else (
    spl (sX5_operand_2 f L) fun (f_28 : sg_F) =>
    if x0.toInt = 33 then (
      spl (sX5_write 33 f_28 L) fun (f_38 : sg_F) =>
      (f_38)) else (
      spl (sX5_write 126 f_28 L) fun (f_34 : sg_F) =>
      (f_34)))
set_option maxRecDepth 100000 in
noncomputable def sX5_operand_1 (f : sg_F) (L : sg_L) : sg_F :=
  spl (α := Int32) (f 4 6) fun (v_1 : Int32) =>
  spl (α := Int32) (f 4 1) fun (v_4 : Int32) =>
  spl (sX5_next f L) fun (r_10 : Int32) =>
  spl (sX5_isDigit r_10 f L) fun (r_16 : Int32) =>
  if r_16 = 1 then (
    spl (sX5_number f L) fun (f_19 : sg_F) =>
    (f_19)) else (
    spl (sX5_isName r_10 f L) fun (r_26 : Int32) =>
    if r_26 = 1 then (
      spl (α := Int32) (v_1 + 1) fun (v_29 : Int32) =>
      spl (α := sg_F) (sg_up f 4 (sgu (f 4) 6 v_29)) fun (f_31 : sg_F) =>
      spl (sX5_write r_10 f_31 L) fun (f_32 : sg_F) =>
      (f_32)) else (
      if r_10.toInt = 40 then (
        spl (α := Int32) (v_1 + 1) fun (v_38 : Int32) =>
        spl (α := sg_F) (sg_up f 4 (sgu (f 4) 6 v_38)) fun (f_40 : sg_F) =>
        spl (sX5_opened_2 r_10 f_40 L) fun (f_41 : sg_F) =>
        (f_41)) else (
        if r_10.toInt = 33 then (
          spl (α := Int32) (v_1 + 1) fun (v_47 : Int32) =>
          spl (α := sg_F) (sg_up f 4 (sgu (f 4) 6 v_47)) fun (f_49 : sg_F) =>
          spl (sX5_opened_2 r_10 f_49 L) fun (f_50 : sg_F) =>
          (f_50)) else (
          if r_10.toInt = 45 then (
            spl (α := Int32) (v_1 + 1) fun (v_60 : Int32) =>
            spl (α := sg_F) (sg_up f 4 (sgu (f 4) 6 v_60)) fun (f_62 : sg_F) =>
            spl (sX5_opened_2 r_10 f_62 L) fun (f_63 : sg_F) =>
            (f_63)) else (
            spl (sX5_fail f L) fun (f_56 : sg_F) =>
            (f_56))))))
set_option maxRecDepth 100000 in
noncomputable def sX5_product_1_h12 (rec_12 : Int32 → Int32 → sg_F → sg_L → sg_F) (y2_12 : Int32) (y3_12 : Int32) (fp_12 : sg_F) (L : sg_L) : sg_F :=
  spl (α := Int32) (fp_12 4 6) fun (v_7 : Int32) =>
  spl (α := Int32) (fp_12 4 1) fun (v_10 : Int32) =>
  if y3_12.toInt < 120 then (
    if y2_12.toInt = 42 then (
      spl (α := Int32) (v_7 + 1) fun (v_17 : Int32) =>
      spl (α := sg_F) (sg_up fp_12 4 (sgu (fp_12 4) 6 v_17)) fun (f_19 : sg_F) =>
      spl (sX5_operand_1 f_19 L) fun (f_20 : sg_F) =>
      spl (sX5_write y2_12 f_20 L) fun (f_24 : sg_F) =>
      spl (α := Int32) (f_24 4 6) fun (v_28 : Int32) =>
      spl (sX5_next f_24 L) fun (r_35 : Int32) =>
      spl (α := Int32) (y3_12 + 1) fun (v_38 : Int32) =>
      rec_12 r_35 v_38 f_24 L) else (
      if y2_12.toInt = 47 then (
        spl (α := Int32) (v_7 + 1) fun (v_42 : Int32) =>
        spl (α := sg_F) (sg_up fp_12 4 (sgu (fp_12 4) 6 v_42)) fun (f_44 : sg_F) =>
        spl (sX5_operand_1 f_44 L) fun (f_45 : sg_F) =>
        spl (sX5_write y2_12 f_45 L) fun (f_49 : sg_F) =>
        spl (α := Int32) (f_49 4 6) fun (v_53 : Int32) =>
        spl (sX5_next f_49 L) fun (r_60 : Int32) =>
        spl (α := Int32) (y3_12 + 1) fun (v_63 : Int32) =>
        rec_12 r_60 v_63 f_49 L) else (
        if y2_12.toInt = 37 then (
          spl (α := Int32) (v_7 + 1) fun (v_67 : Int32) =>
          spl (α := sg_F) (sg_up fp_12 4 (sgu (fp_12 4) 6 v_67)) fun (f_69 : sg_F) =>
          spl (sX5_operand_1 f_69 L) fun (f_70 : sg_F) =>
          spl (sX5_write y2_12 f_70 L) fun (f_74 : sg_F) =>
          spl (α := Int32) (f_74 4 6) fun (v_78 : Int32) =>
          spl (sX5_next f_74 L) fun (r_85 : Int32) =>
          spl (α := Int32) (y3_12 + 1) fun (v_88 : Int32) =>
          rec_12 r_85 v_88 f_74 L) else (
          (fp_12))))) else (
    (fp_12))
set_option maxRecDepth 100000 in
noncomputable def sX5_product_1_l12 (n : Nat) : Int32 → Int32 → sg_F → sg_L → sg_F :=
  Nat.rec (motive := fun _ => Int32 → Int32 → sg_F → sg_L → sg_F) (fun _ _ f L => (f)) (fun _ r => sX5_product_1_h12 r) n
set_option maxRecDepth 100000 in
noncomputable def sX5_product_1 (f : sg_F) (L : sg_L) : sg_F :=
  spl (α := Int32) (f 4 6) fun (v_1 : Int32) =>
  spl (α := Int32) (f 4 1) fun (v_3 : Int32) =>
  spl (sX5_operand_1 f L) fun (f_90 : sg_F) =>
  spl (α := Int32) (f_90 4 6) fun (v_94 : Int32) =>
  spl (sX5_next f_90 L) fun (r_101 : Int32) =>
  sX5_product_1_l12 121 r_101 0 f_90 L
set_option maxRecDepth 100000 in
noncomputable def sX5_sum_1_h12 (rec_12 : Int32 → Int32 → sg_F → sg_L → sg_F) (y2_12 : Int32) (y3_12 : Int32) (fp_12 : sg_F) (L : sg_L) : sg_F :=
  spl (α := Int32) (fp_12 4 6) fun (v_7 : Int32) =>
  spl (α := Int32) (fp_12 4 1) fun (v_10 : Int32) =>
  if y3_12.toInt < 120 then (
    if y2_12.toInt = 43 then (
      spl (α := Int32) (v_7 + 1) fun (v_17 : Int32) =>
      spl (α := sg_F) (sg_up fp_12 4 (sgu (fp_12 4) 6 v_17)) fun (f_19 : sg_F) =>
      spl (sX5_product_1 f_19 L) fun (f_20 : sg_F) =>
      spl (sX5_write y2_12 f_20 L) fun (f_24 : sg_F) =>
      spl (α := Int32) (f_24 4 6) fun (v_28 : Int32) =>
      spl (sX5_next f_24 L) fun (r_35 : Int32) =>
      spl (α := Int32) (y3_12 + 1) fun (v_38 : Int32) =>
      rec_12 r_35 v_38 f_24 L) else (
      if y2_12.toInt = 45 then (
        spl (α := Int32) (v_7 + 1) fun (v_42 : Int32) =>
        spl (α := sg_F) (sg_up fp_12 4 (sgu (fp_12 4) 6 v_42)) fun (f_44 : sg_F) =>
        spl (sX5_product_1 f_44 L) fun (f_45 : sg_F) =>
        spl (sX5_write y2_12 f_45 L) fun (f_49 : sg_F) =>
        spl (α := Int32) (f_49 4 6) fun (v_53 : Int32) =>
        spl (sX5_next f_49 L) fun (r_60 : Int32) =>
        spl (α := Int32) (y3_12 + 1) fun (v_63 : Int32) =>
        rec_12 r_60 v_63 f_49 L) else (
        (fp_12)))) else (
    (fp_12))
set_option maxRecDepth 100000 in
noncomputable def sX5_sum_1_l12 (n : Nat) : Int32 → Int32 → sg_F → sg_L → sg_F :=
  Nat.rec (motive := fun _ => Int32 → Int32 → sg_F → sg_L → sg_F) (fun _ _ f L => (f)) (fun _ r => sX5_sum_1_h12 r) n
set_option maxRecDepth 100000 in
noncomputable def sX5_sum_1 (f : sg_F) (L : sg_L) : sg_F :=
  spl (α := Int32) (f 4 6) fun (v_1 : Int32) =>
  spl (α := Int32) (f 4 1) fun (v_3 : Int32) =>
  spl (sX5_product_1 f L) fun (f_65 : sg_F) =>
  spl (α := Int32) (f_65 4 6) fun (v_69 : Int32) =>
  spl (sX5_next f_65 L) fun (r_76 : Int32) =>
  sX5_sum_1_l12 121 r_76 0 f_65 L
set_option maxRecDepth 100000 in
noncomputable def sX5_compared_1 (f : sg_F) (L : sg_L) : sg_F :=
  spl (sX5_sum_1 f L) fun (f_1 : sg_F) =>
  spl (α := Int32) (f_1 4 6) fun (v_5 : Int32) =>
  spl (α := Int32) (f_1 4 1) fun (v_8 : Int32) =>
  spl (sX5_next f_1 L) fun (r_14 : Int32) =>
  if r_14.toInt = 60 then (
    spl (α := Int32) (v_5 + 1) fun (v_19 : Int32) =>
    spl (α := sg_F) (sg_up f_1 4 (sgu (f_1 4) 6 v_19)) fun (f_21 : sg_F) =>
    spl (sX5_sum_1 f_21 L) fun (f_22 : sg_F) =>
    spl (sX5_write r_14 f_22 L) fun (f_26 : sg_F) =>
    (f_26)) else (
    if r_14.toInt = 61 then (
      spl (α := Int32) (v_5 + 1) fun (v_32 : Int32) =>
      spl (α := sg_F) (sg_up f_1 4 (sgu (f_1 4) 6 v_32)) fun (f_34 : sg_F) =>
      spl (sX5_sum_1 f_34 L) fun (f_35 : sg_F) =>
      spl (sX5_write r_14 f_35 L) fun (f_39 : sg_F) =>
      (f_39)) else (
      if r_14.toInt = 62 then (
        spl (α := Int32) (v_5 + 1) fun (v_45 : Int32) =>
        spl (α := sg_F) (sg_up f_1 4 (sgu (f_1 4) 6 v_45)) fun (f_47 : sg_F) =>
        spl (sX5_sum_1 f_47 L) fun (f_48 : sg_F) =>
        spl (sX5_write r_14 f_48 L) fun (f_52 : sg_F) =>
        (f_52)) else (
        (f_1))))
set_option maxRecDepth 100000 in
noncomputable def sX5_both_1_h7 (rec_7 : Int32 → sg_F → sg_L → sg_F) (y2_7 : Int32) (fp_7 : sg_F) (L : sg_L) : sg_F :=
  if y2_7.toInt < 120 then (
    spl (α := Int32) (fp_7 4 6) fun (v_3 : Int32) =>
    spl (α := Int32) (fp_7 4 1) fun (v_6 : Int32) =>
    spl (sX5_next fp_7 L) fun (r_12 : Int32) =>
    if r_12.toInt = 38 then (
      spl (α := Int32) (v_3 + 1) fun (v_17 : Int32) =>
      spl (α := sg_F) (sg_up fp_7 4 (sgu (fp_7 4) 6 v_17)) fun (f_19 : sg_F) =>
      spl (sX5_compared_1 f_19 L) fun (f_20 : sg_F) =>
      spl (sX5_write 38 f_20 L) fun (f_24 : sg_F) =>
      spl (α := Int32) (y2_7 + 1) fun (v_28 : Int32) =>
      rec_7 v_28 f_24 L) else (
      (fp_7))) else (
    (fp_7))
set_option maxRecDepth 100000 in
noncomputable def sX5_both_1_l7 (n : Nat) : Int32 → sg_F → sg_L → sg_F :=
  Nat.rec (motive := fun _ => Int32 → sg_F → sg_L → sg_F) (fun _ f L => (f)) (fun _ r => sX5_both_1_h7 r) n
set_option maxRecDepth 100000 in
noncomputable def sX5_both_1 (f : sg_F) (L : sg_L) : sg_F :=
  spl (sX5_compared_1 f L) fun (f_30 : sg_F) =>
  sX5_both_1_l7 121 0 f_30 L
set_option maxRecDepth 100000 in
noncomputable def sX5_either_1_h7 (rec_7 : Int32 → sg_F → sg_L → sg_F) (y2_7 : Int32) (fp_7 : sg_F) (L : sg_L) : sg_F :=
  if y2_7.toInt < 120 then (
    spl (α := Int32) (fp_7 4 6) fun (v_3 : Int32) =>
    spl (α := Int32) (fp_7 4 1) fun (v_6 : Int32) =>
    spl (sX5_next fp_7 L) fun (r_12 : Int32) =>
    if r_12.toInt = 124 then (
      spl (α := Int32) (v_3 + 1) fun (v_17 : Int32) =>
      spl (α := sg_F) (sg_up fp_7 4 (sgu (fp_7 4) 6 v_17)) fun (f_19 : sg_F) =>
      spl (sX5_both_1 f_19 L) fun (f_20 : sg_F) =>
      spl (sX5_write 124 f_20 L) fun (f_24 : sg_F) =>
      spl (α := Int32) (y2_7 + 1) fun (v_28 : Int32) =>
      rec_7 v_28 f_24 L) else (
      (fp_7))) else (
    (fp_7))
set_option maxRecDepth 100000 in
noncomputable def sX5_either_1_l7 (n : Nat) : Int32 → sg_F → sg_L → sg_F :=
  Nat.rec (motive := fun _ => Int32 → sg_F → sg_L → sg_F) (fun _ f L => (f)) (fun _ r => sX5_either_1_h7 r) n
set_option maxRecDepth 100000 in
noncomputable def sX5_either_1 (f : sg_F) (L : sg_L) : sg_F :=
  spl (sX5_both_1 f L) fun (f_30 : sg_F) =>
  sX5_either_1_l7 121 0 f_30 L
set_option maxRecDepth 100000 in
noncomputable def sX5_opened_1 (x0 : Int32) (f : sg_F) (L : sg_L) : sg_F :=
  if x0.toInt = 40 then (
    spl (sX5_either_1 f L) fun (f_3 : sg_F) =>
    spl (α := Int32) (f_3 4 6) fun (v_7 : Int32) =>
    spl (α := Int32) (f_3 4 1) fun (v_10 : Int32) =>
    spl (sX5_next f_3 L) fun (r_16 : Int32) =>
    if r_16.toInt = 41 then (
      spl (α := Int32) (v_7 + 1) fun (v_25 : Int32) =>
      spl (α := sg_F) (sg_up f_3 4 (sgu (f_3 4) 6 v_25)) fun (f_27 : sg_F) =>
      (f_27)) else (
      spl (sX5_fail f_3 L) fun (f_21 : sg_F) =>
      (f_21))) else (
    spl (sX5_operand_1 f L) fun (f_28 : sg_F) =>
    if x0.toInt = 33 then (
      spl (sX5_write 33 f_28 L) fun (f_38 : sg_F) =>
      (f_38)) else (
      spl (sX5_write 126 f_28 L) fun (f_34 : sg_F) =>
      (f_34)))
set_option maxRecDepth 100000 in
noncomputable def sX5_operand_0 (f : sg_F) (L : sg_L) : sg_F :=
  spl (α := Int32) (f 4 6) fun (v_1 : Int32) =>
  spl (α := Int32) (f 4 1) fun (v_4 : Int32) =>
  spl (sX5_next f L) fun (r_10 : Int32) =>
  spl (sX5_isDigit r_10 f L) fun (r_16 : Int32) =>
  if r_16 = 1 then (
    spl (sX5_number f L) fun (f_19 : sg_F) =>
    (f_19)) else (
    spl (sX5_isName r_10 f L) fun (r_26 : Int32) =>
    if r_26 = 1 then (
      spl (α := Int32) (v_1 + 1) fun (v_29 : Int32) =>
      spl (α := sg_F) (sg_up f 4 (sgu (f 4) 6 v_29)) fun (f_31 : sg_F) =>
      spl (sX5_write r_10 f_31 L) fun (f_32 : sg_F) =>
      (f_32)) else (
      if r_10.toInt = 40 then (
        spl (α := Int32) (v_1 + 1) fun (v_38 : Int32) =>
        spl (α := sg_F) (sg_up f 4 (sgu (f 4) 6 v_38)) fun (f_40 : sg_F) =>
        spl (sX5_opened_1 r_10 f_40 L) fun (f_41 : sg_F) =>
        (f_41)) else (
        if r_10.toInt = 33 then (
          spl (α := Int32) (v_1 + 1) fun (v_47 : Int32) =>
          spl (α := sg_F) (sg_up f 4 (sgu (f 4) 6 v_47)) fun (f_49 : sg_F) =>
          spl (sX5_opened_1 r_10 f_49 L) fun (f_50 : sg_F) =>
          (f_50)) else (
          if r_10.toInt = 45 then (
            spl (α := Int32) (v_1 + 1) fun (v_60 : Int32) =>
            spl (α := sg_F) (sg_up f 4 (sgu (f 4) 6 v_60)) fun (f_62 : sg_F) =>
            spl (sX5_opened_1 r_10 f_62 L) fun (f_63 : sg_F) =>
            (f_63)) else (
            spl (sX5_fail f L) fun (f_56 : sg_F) =>
            (f_56))))))
set_option maxRecDepth 100000 in
noncomputable def sX5_product_0_h12 (rec_12 : Int32 → Int32 → sg_F → sg_L → sg_F) (y2_12 : Int32) (y3_12 : Int32) (fp_12 : sg_F) (L : sg_L) : sg_F :=
  spl (α := Int32) (fp_12 4 6) fun (v_7 : Int32) =>
  spl (α := Int32) (fp_12 4 1) fun (v_10 : Int32) =>
  if y3_12.toInt < 120 then (
    if y2_12.toInt = 42 then (
      spl (α := Int32) (v_7 + 1) fun (v_17 : Int32) =>
      spl (α := sg_F) (sg_up fp_12 4 (sgu (fp_12 4) 6 v_17)) fun (f_19 : sg_F) =>
      spl (sX5_operand_0 f_19 L) fun (f_20 : sg_F) =>
      spl (sX5_write y2_12 f_20 L) fun (f_24 : sg_F) =>
      spl (α := Int32) (f_24 4 6) fun (v_28 : Int32) =>
      spl (sX5_next f_24 L) fun (r_35 : Int32) =>
      spl (α := Int32) (y3_12 + 1) fun (v_38 : Int32) =>
      rec_12 r_35 v_38 f_24 L) else (
      if y2_12.toInt = 47 then (
        spl (α := Int32) (v_7 + 1) fun (v_42 : Int32) =>
        spl (α := sg_F) (sg_up fp_12 4 (sgu (fp_12 4) 6 v_42)) fun (f_44 : sg_F) =>
        spl (sX5_operand_0 f_44 L) fun (f_45 : sg_F) =>
        spl (sX5_write y2_12 f_45 L) fun (f_49 : sg_F) =>
        spl (α := Int32) (f_49 4 6) fun (v_53 : Int32) =>
        spl (sX5_next f_49 L) fun (r_60 : Int32) =>
        spl (α := Int32) (y3_12 + 1) fun (v_63 : Int32) =>
        rec_12 r_60 v_63 f_49 L) else (
        if y2_12.toInt = 37 then (
          spl (α := Int32) (v_7 + 1) fun (v_67 : Int32) =>
          spl (α := sg_F) (sg_up fp_12 4 (sgu (fp_12 4) 6 v_67)) fun (f_69 : sg_F) =>
          spl (sX5_operand_0 f_69 L) fun (f_70 : sg_F) =>
          spl (sX5_write y2_12 f_70 L) fun (f_74 : sg_F) =>
          spl (α := Int32) (f_74 4 6) fun (v_78 : Int32) =>
          spl (sX5_next f_74 L) fun (r_85 : Int32) =>
          spl (α := Int32) (y3_12 + 1) fun (v_88 : Int32) =>
          rec_12 r_85 v_88 f_74 L) else (
          (fp_12))))) else (
    (fp_12))
set_option maxRecDepth 100000 in
noncomputable def sX5_product_0_l12 (n : Nat) : Int32 → Int32 → sg_F → sg_L → sg_F :=
  Nat.rec (motive := fun _ => Int32 → Int32 → sg_F → sg_L → sg_F) (fun _ _ f L => (f)) (fun _ r => sX5_product_0_h12 r) n
set_option maxRecDepth 100000 in
noncomputable def sX5_product_0 (f : sg_F) (L : sg_L) : sg_F :=
  spl (α := Int32) (f 4 6) fun (v_1 : Int32) =>
  spl (α := Int32) (f 4 1) fun (v_3 : Int32) =>
  spl (sX5_operand_0 f L) fun (f_90 : sg_F) =>
  spl (α := Int32) (f_90 4 6) fun (v_94 : Int32) =>
  spl (sX5_next f_90 L) fun (r_101 : Int32) =>
  sX5_product_0_l12 121 r_101 0 f_90 L
set_option maxRecDepth 100000 in
noncomputable def sX5_sum_0_h12 (rec_12 : Int32 → Int32 → sg_F → sg_L → sg_F) (y2_12 : Int32) (y3_12 : Int32) (fp_12 : sg_F) (L : sg_L) : sg_F :=
  spl (α := Int32) (fp_12 4 6) fun (v_7 : Int32) =>
  spl (α := Int32) (fp_12 4 1) fun (v_10 : Int32) =>
  if y3_12.toInt < 120 then (
    if y2_12.toInt = 43 then (
      spl (α := Int32) (v_7 + 1) fun (v_17 : Int32) =>
      spl (α := sg_F) (sg_up fp_12 4 (sgu (fp_12 4) 6 v_17)) fun (f_19 : sg_F) =>
      spl (sX5_product_0 f_19 L) fun (f_20 : sg_F) =>
      spl (sX5_write y2_12 f_20 L) fun (f_24 : sg_F) =>
      spl (α := Int32) (f_24 4 6) fun (v_28 : Int32) =>
      spl (sX5_next f_24 L) fun (r_35 : Int32) =>
      spl (α := Int32) (y3_12 + 1) fun (v_38 : Int32) =>
      rec_12 r_35 v_38 f_24 L) else (
      if y2_12.toInt = 45 then (
        spl (α := Int32) (v_7 + 1) fun (v_42 : Int32) =>
        spl (α := sg_F) (sg_up fp_12 4 (sgu (fp_12 4) 6 v_42)) fun (f_44 : sg_F) =>
        spl (sX5_product_0 f_44 L) fun (f_45 : sg_F) =>
        spl (sX5_write y2_12 f_45 L) fun (f_49 : sg_F) =>
        spl (α := Int32) (f_49 4 6) fun (v_53 : Int32) =>
        spl (sX5_next f_49 L) fun (r_60 : Int32) =>
        spl (α := Int32) (y3_12 + 1) fun (v_63 : Int32) =>
        rec_12 r_60 v_63 f_49 L) else (
        (fp_12)))) else (
    (fp_12))
set_option maxRecDepth 100000 in
noncomputable def sX5_sum_0_l12 (n : Nat) : Int32 → Int32 → sg_F → sg_L → sg_F :=
  Nat.rec (motive := fun _ => Int32 → Int32 → sg_F → sg_L → sg_F) (fun _ _ f L => (f)) (fun _ r => sX5_sum_0_h12 r) n
set_option maxRecDepth 100000 in
noncomputable def sX5_sum_0 (f : sg_F) (L : sg_L) : sg_F :=
  spl (α := Int32) (f 4 6) fun (v_1 : Int32) =>
  spl (α := Int32) (f 4 1) fun (v_3 : Int32) =>
  spl (sX5_product_0 f L) fun (f_65 : sg_F) =>
  spl (α := Int32) (f_65 4 6) fun (v_69 : Int32) =>
  spl (sX5_next f_65 L) fun (r_76 : Int32) =>
  sX5_sum_0_l12 121 r_76 0 f_65 L
set_option maxRecDepth 100000 in
noncomputable def sX5_compared_0 (f : sg_F) (L : sg_L) : sg_F :=
  spl (sX5_sum_0 f L) fun (f_1 : sg_F) =>
  spl (α := Int32) (f_1 4 6) fun (v_5 : Int32) =>
  spl (α := Int32) (f_1 4 1) fun (v_8 : Int32) =>
  spl (sX5_next f_1 L) fun (r_14 : Int32) =>
  if r_14.toInt = 60 then (
    spl (α := Int32) (v_5 + 1) fun (v_19 : Int32) =>
    spl (α := sg_F) (sg_up f_1 4 (sgu (f_1 4) 6 v_19)) fun (f_21 : sg_F) =>
    spl (sX5_sum_0 f_21 L) fun (f_22 : sg_F) =>
    spl (sX5_write r_14 f_22 L) fun (f_26 : sg_F) =>
    (f_26)) else (
    if r_14.toInt = 61 then (
      spl (α := Int32) (v_5 + 1) fun (v_32 : Int32) =>
      spl (α := sg_F) (sg_up f_1 4 (sgu (f_1 4) 6 v_32)) fun (f_34 : sg_F) =>
      spl (sX5_sum_0 f_34 L) fun (f_35 : sg_F) =>
      spl (sX5_write r_14 f_35 L) fun (f_39 : sg_F) =>
      (f_39)) else (
      if r_14.toInt = 62 then (
        spl (α := Int32) (v_5 + 1) fun (v_45 : Int32) =>
        spl (α := sg_F) (sg_up f_1 4 (sgu (f_1 4) 6 v_45)) fun (f_47 : sg_F) =>
        spl (sX5_sum_0 f_47 L) fun (f_48 : sg_F) =>
        spl (sX5_write r_14 f_48 L) fun (f_52 : sg_F) =>
        (f_52)) else (
        (f_1))))
set_option maxRecDepth 100000 in
noncomputable def sX5_both_0_h7 (rec_7 : Int32 → sg_F → sg_L → sg_F) (y2_7 : Int32) (fp_7 : sg_F) (L : sg_L) : sg_F :=
  if y2_7.toInt < 120 then (
    spl (α := Int32) (fp_7 4 6) fun (v_3 : Int32) =>
    spl (α := Int32) (fp_7 4 1) fun (v_6 : Int32) =>
    spl (sX5_next fp_7 L) fun (r_12 : Int32) =>
    if r_12.toInt = 38 then (
      spl (α := Int32) (v_3 + 1) fun (v_17 : Int32) =>
      spl (α := sg_F) (sg_up fp_7 4 (sgu (fp_7 4) 6 v_17)) fun (f_19 : sg_F) =>
      spl (sX5_compared_0 f_19 L) fun (f_20 : sg_F) =>
      spl (sX5_write 38 f_20 L) fun (f_24 : sg_F) =>
      spl (α := Int32) (y2_7 + 1) fun (v_28 : Int32) =>
      rec_7 v_28 f_24 L) else (
      (fp_7))) else (
    (fp_7))
set_option maxRecDepth 100000 in
noncomputable def sX5_both_0_l7 (n : Nat) : Int32 → sg_F → sg_L → sg_F :=
  Nat.rec (motive := fun _ => Int32 → sg_F → sg_L → sg_F) (fun _ f L => (f)) (fun _ r => sX5_both_0_h7 r) n
set_option maxRecDepth 100000 in
noncomputable def sX5_both_0 (f : sg_F) (L : sg_L) : sg_F :=
  spl (sX5_compared_0 f L) fun (f_30 : sg_F) =>
  sX5_both_0_l7 121 0 f_30 L
set_option maxRecDepth 100000 in
noncomputable def sX5_either_0_h7 (rec_7 : Int32 → sg_F → sg_L → sg_F) (y2_7 : Int32) (fp_7 : sg_F) (L : sg_L) : sg_F :=
  if y2_7.toInt < 120 then (
    spl (α := Int32) (fp_7 4 6) fun (v_3 : Int32) =>
    spl (α := Int32) (fp_7 4 1) fun (v_6 : Int32) =>
    spl (sX5_next fp_7 L) fun (r_12 : Int32) =>
    if r_12.toInt = 124 then (
      spl (α := Int32) (v_3 + 1) fun (v_17 : Int32) =>
      spl (α := sg_F) (sg_up fp_7 4 (sgu (fp_7 4) 6 v_17)) fun (f_19 : sg_F) =>
      spl (sX5_both_0 f_19 L) fun (f_20 : sg_F) =>
      spl (sX5_write 124 f_20 L) fun (f_24 : sg_F) =>
      spl (α := Int32) (y2_7 + 1) fun (v_28 : Int32) =>
      rec_7 v_28 f_24 L) else (
      (fp_7))) else (
    (fp_7))
set_option maxRecDepth 100000 in
noncomputable def sX5_either_0_l7 (n : Nat) : Int32 → sg_F → sg_L → sg_F :=
  Nat.rec (motive := fun _ => Int32 → sg_F → sg_L → sg_F) (fun _ f L => (f)) (fun _ r => sX5_either_0_h7 r) n
set_option maxRecDepth 100000 in
noncomputable def sX5_either_0 (f : sg_F) (L : sg_L) : sg_F :=
  spl (sX5_both_0 f L) fun (f_30 : sg_F) =>
  sX5_either_0_l7 121 0 f_30 L
set_option maxRecDepth 100000 in
noncomputable def sX5_line_b35 (fp_35 : sg_F) (L : sg_L) : sg_F :=
  spl (sX5_write 59 fp_35 L) fun (f_1 : sg_F) =>
  (f_1)
set_option maxRecDepth 100000 in
noncomputable def sX5_line (f : sg_F) (L : sg_L) : sg_F :=
  spl (sX5_either_0 f L) fun (f_5 : sg_F) =>
  spl (α := Int32) (f_5 4 6) fun (v_9 : Int32) =>
  spl (α := Int32) (f_5 4 1) fun (v_12 : Int32) =>
  spl (sX5_next f_5 L) fun (r_18 : Int32) =>
  if r_18.toInt = 63 then (
    spl (α := Int32) (v_9 + 1) fun (v_23 : Int32) =>
    spl (α := sg_F) (sg_up f_5 4 (sgu (f_5 4) 6 v_23)) fun (f_25 : sg_F) =>
    spl (sX5_write 63 f_25 L) fun (f_26 : sg_F) =>
    spl (sX5_either_0 f_26 L) fun (f_30 : sg_F) =>
    sX5_line_b35 f_30 L) else (
    sX5_line_b35 f_5 L)
set_option maxRecDepth 100000 in
noncomputable def sX5_lines_b41 (fp_41 : sg_F) (L : sg_L) : sg_F :=
  spl (α := Int32) (fp_41 4 6) fun (v_1 : Int32) =>
  spl (α := Int32) (fp_41 4 1) fun (v_3 : Int32) =>
  if v_1.toInt < v_3.toInt then (
    spl (sX5_fail fp_41 L) fun (f_7 : sg_F) =>
    (f_7)) else (
    (fp_41))
set_option maxRecDepth 100000 in
noncomputable def sX5_lines_h6 (rec_6 : Int32 → sg_F → sg_L → sg_F) (y1_6 : Int32) (fp_6 : sg_F) (L : sg_L) : sg_F :=
  if y1_6.toInt < 120 then (
    spl (α := Int32) (fp_6 4 6) fun (v_13 : Int32) =>
    spl (α := Int32) (fp_6 4 1) fun (v_16 : Int32) =>
    spl (sX5_next fp_6 L) fun (r_22 : Int32) =>
    if r_22.toInt = 59 then (
      spl (α := Int32) (v_13 + 1) fun (v_27 : Int32) =>
      spl (α := sg_F) (sg_up fp_6 4 (sgu (fp_6 4) 6 v_27)) fun (f_29 : sg_F) =>
      spl (sX5_line f_29 L) fun (f_30 : sg_F) =>
      spl (α := Int32) (y1_6 + 1) fun (v_34 : Int32) =>
      rec_6 v_34 f_30 L) else (
      sX5_lines_b41 fp_6 L)) else (
    sX5_lines_b41 fp_6 L)
set_option maxRecDepth 100000 in
noncomputable def sX5_lines_l6 (n : Nat) : Int32 → sg_F → sg_L → sg_F :=
  Nat.rec (motive := fun _ => Int32 → sg_F → sg_L → sg_F) (fun _ f L => (f)) (fun _ r => sX5_lines_h6 r) n
set_option maxRecDepth 100000 in
noncomputable def sX5_lines (f : sg_F) (L : sg_L) : sg_F :=
  spl (sX5_line f L) fun (f_36 : sg_F) =>
  sX5_lines_l6 121 0 f_36 L
set_option maxRecDepth 100000 in
noncomputable def sX5_isRead (f : sg_F) (L : sg_L) : Int32 × sg_F :=
  spl (α := sg_F) (sg_up f 4 (sgu (f 4) 6 0)) fun (f_1 : sg_F) =>
  spl (α := sg_F) (sg_up f_1 4 (sgu (f_1 4) 7 (-1))) fun (f_2 : sg_F) =>
  spl (α := sg_F) (sg_up f_2 4 (sgu (f_2 4) 8 0)) fun (f_3 : sg_F) =>
  spl (sX5_lines f_3 L) fun (f_4 : sg_F) =>
  spl (α := sg_F) (sg_up f_4 4 (sgu (f_4 4) 1 0)) fun (f_8 : sg_F) =>
  spl (α := Int32) (f_8 4 7) fun (v_9 : Int32) =>
  if v_9.toInt < 0 then (
    spl (α := Int32) (f_8 4 8) fun (v_13 : Int32) =>
    spl (α := sg_F) (sg_up f_8 7 (va_cpy (f_8 6) (f_8 7) (Int32.toNatClampNeg 0) (Int32.toNatClampNeg 0) (Int32.toNatClampNeg v_13))) fun (f_15 : sg_F) =>
    spl (α := sg_F) (sg_up f_15 4 (sgu (f_15 4) 9 v_13)) fun (f_16 : sg_F) =>
    spl (α := sg_F) (sg_up f_16 4 (sgu (f_16 4) 2 1)) fun (f_17 : sg_F) =>
    ((1 : Int32), f_17)) else (
    spl (α := Int32) ((-100) - v_9) fun (v_18 : Int32) =>
    ((v_18 : Int32), f_8))
set_option maxRecDepth 100000 in
noncomputable def sX0_forgetAll_h2 (rec_2 : Int32 → sg_F → sg_L → sg_F) (y1_2 : Int32) (fp_2 : sg_F) (L : sg_L) : sg_F :=
  if y1_2.toInt < 8 then (
    spl (sX0_forget y1_2 fp_2 L) fun (f_3 : sg_F) =>
    spl (α := Int32) (y1_2 + 1) fun (v_7 : Int32) =>
    rec_2 v_7 f_3 L) else (
    (fp_2))
set_option maxRecDepth 100000 in
noncomputable def sX0_forgetAll_l2 (n : Nat) : Int32 → sg_F → sg_L → sg_F :=
  Nat.rec (motive := fun _ => Int32 → sg_F → sg_L → sg_F) (fun _ f L => (f)) (fun _ r => sX0_forgetAll_h2 r) n
set_option maxRecDepth 100000 in
noncomputable def sX0_forgetAll (f : sg_F) (L : sg_L) : sg_F :=
  sX0_forgetAll_l2 9 0 f L
set_option maxRecDepth 100000 in
noncomputable def sX11_law (f : sg_F) (L : sg_L) : Int32 × sg_F :=
  spl2 (sX5_isRead f L) fun (r_4 : Int32) (f_1 : sg_F) =>
  if r_4.toInt = 1 then (
    spl (sX0_forgetAll f_1 L) fun (f_8 : sg_F) =>
    ((r_4 : Int32), f_8)) else (
    ((r_4 : Int32), f_1))
set_option maxRecDepth 100000 in
noncomputable def sX0_has (x0 : Int32) (f : sg_F) (L : sg_L) : Int32 :=
  spl (α := Int32) (f 1 3) fun (v_1 : Int32) =>
  if x0.toInt < 0 then (
    ((0 : Int32))) else (
    if x0.toInt < v_1.toInt then (
      ((1 : Int32))) else (
      ((0 : Int32))))
set_option maxRecDepth 100000 in
noncomputable def sX0_numberOf (x0 : Int32) (x1 : Int32) (f : sg_F) (L : sg_L) : Int32 :=
  spl (α := Int32) (x0 * 8) fun (v_1 : Int32) =>
  spl (α := Int32) (v_1 + x1) fun (v_3 : Int32) =>
  spl (α := Int32) (f 2 (Int32.toNatClampNeg v_3)) fun (v_5 : Int32) =>
  ((v_5 : Int32))
set_option maxRecDepth 100000 in
noncomputable def sX5_operands (x0 : Int32) (f : sg_F) (L : sg_L) : Int32 :=
  if x0.toInt = 33 then (
    ((1 : Int32))) else (
    if x0.toInt = 37 then (
      ((2 : Int32))) else (
      if x0.toInt = 38 then (
        ((2 : Int32))) else (
        if x0.toInt = 42 then (
          ((2 : Int32))) else (
          if x0.toInt = 43 then (
            ((2 : Int32))) else (
            if x0.toInt = 45 then (
              ((2 : Int32))) else (
              if x0.toInt = 47 then (
                ((2 : Int32))) else (
                if x0.toInt = 60 then (
                  ((2 : Int32))) else (
                  if x0.toInt = 61 then (
                    ((2 : Int32))) else (
                    if x0.toInt = 62 then (
                      ((2 : Int32))) else (
                      if x0.toInt = 124 then (
                        ((2 : Int32))) else (
                        if x0.toInt = 126 then (
                          ((1 : Int32))) else (
                          ((0 : Int32))))))))))))))
set_option maxRecDepth 100000 in
noncomputable def sX5_worked (x0 : Int32) (x1 : Int32) (x2 : Int32) (f : sg_F) (L : sg_L) : Int32 :=
  if x0.toInt = 33 then (
    if x1.toInt = 0 then (
      ((1 : Int32))) else (
      ((0 : Int32)))) else (
    if x0.toInt = 37 then (
      if x2.toInt = 0 then (
        ((0 : Int32))) else (
        spl (α := Int32) (x1 - x1 / x2 * x2) fun (v_9 : Int32) =>
        ((v_9 : Int32)))) else (
      if x0.toInt = 38 then (
        if x1.toInt = 0 then (
          ((0 : Int32))) else (
          if x2.toInt = 0 then (
            ((0 : Int32))) else (
            ((1 : Int32))))) else (
        if x0.toInt = 42 then (
          spl (α := Int32) (x1 * x2) fun (v_16 : Int32) =>
          ((v_16 : Int32))) else (
          if x0.toInt = 43 then (
            spl (α := Int32) (x1 + x2) fun (v_18 : Int32) =>
            ((v_18 : Int32))) else (
            if x0.toInt = 45 then (
              spl (α := Int32) (x1 - x2) fun (v_20 : Int32) =>
              ((v_20 : Int32))) else (
              if x0.toInt = 47 then (
                if x2.toInt = 0 then (
                  ((0 : Int32))) else (
                  spl (α := Int32) (x1 / x2) fun (v_24 : Int32) =>
                  ((v_24 : Int32)))) else (
                if x0.toInt = 60 then (
                  if x1.toInt < x2.toInt then (
                    ((1 : Int32))) else (
                    ((0 : Int32)))) else (
                  if x0.toInt = 61 then (
                    if x1.toInt = x2.toInt then (
                      ((1 : Int32))) else (
                      ((0 : Int32)))) else (
                    if x0.toInt = 62 then (
                      if x2.toInt < x1.toInt then (
                        ((1 : Int32))) else (
                        ((0 : Int32)))) else (
                      if x0.toInt = 124 then (
                        if x1.toInt = 0 then (
                          if x2.toInt = 0 then (
                            ((0 : Int32))) else (
                            ((1 : Int32)))) else (
                          ((1 : Int32)))) else (
                        spl (α := Int32) ((-x1)) fun (v_2 : Int32) =>
                        ((v_2 : Int32)))))))))))))
set_option maxRecDepth 100000 in
noncomputable def sX5_named (x0 : Int32) (x1 : Int32) (x2 : Int32) (x3 : Int32) (x4 : Int32) (f : sg_F) (L : sg_L) : Int32 :=
  if x0.toInt = 100 then (
    spl (α := Int32) (x1 - x2) fun (v_18 : Int32) =>
    spl (α := Int32) (if (0 : Int32) ≤ v_18 then v_18 else 0 - v_18) fun (v_20 : Int32) =>
    ((v_20 : Int32))) else (
    if x0.toInt = 104 then (
      ((x3 : Int32))) else (
      if x0.toInt = 107 then (
        ((x4 : Int32))) else (
        if x0.toInt = 115 then (
          ((x1 : Int32))) else (
          if x0.toInt = 117 then (
            if x2.toInt < x1.toInt then (
              ((1 : Int32))) else (
              ((0 : Int32)))) else (
            if x0.toInt = 119 then (
              ((x2 : Int32))) else (
              if x0.toInt = 101 then (
                spl (α := Int32) (x0 - 1000) fun (v_3 : Int32) =>
                ((v_3 : Int32))) else (
                if x0.toInt = 102 then (
                  spl (α := Int32) (x0 - 1000) fun (v_4 : Int32) =>
                  ((v_4 : Int32))) else (
                  if x0.toInt = 103 then (
                    spl (α := Int32) (x0 - 1000) fun (v_5 : Int32) =>
                    ((v_5 : Int32))) else (
                    if x0.toInt = 105 then (
                      spl (α := Int32) (x0 - 1000) fun (v_6 : Int32) =>
                      ((v_6 : Int32))) else (
                      if x0.toInt = 106 then (
                        spl (α := Int32) (x0 - 1000) fun (v_7 : Int32) =>
                        ((v_7 : Int32))) else (
                        if x0.toInt = 108 then (
                          spl (α := Int32) (x0 - 1000) fun (v_8 : Int32) =>
                          ((v_8 : Int32))) else (
                          if x0.toInt = 109 then (
                            spl (α := Int32) (x0 - 1000) fun (v_9 : Int32) =>
                            ((v_9 : Int32))) else (
                            if x0.toInt = 110 then (
                              spl (α := Int32) (x0 - 1000) fun (v_10 : Int32) =>
                              ((v_10 : Int32))) else (
                              if x0.toInt = 111 then (
                                spl (α := Int32) (x0 - 1000) fun (v_11 : Int32) =>
                                ((v_11 : Int32))) else (
                                if x0.toInt = 112 then (
                                  spl (α := Int32) (x0 - 1000) fun (v_12 : Int32) =>
                                  ((v_12 : Int32))) else (
                                  if x0.toInt = 113 then (
                                    spl (α := Int32) (x0 - 1000) fun (v_13 : Int32) =>
                                    ((v_13 : Int32))) else (
                                    if x0.toInt = 114 then (
                                      spl (α := Int32) (x0 - 1000) fun (v_14 : Int32) =>
                                      ((v_14 : Int32))) else (
                                      if x0.toInt = 116 then (
                                        spl (α := Int32) (x0 - 1000) fun (v_15 : Int32) =>
                                        ((v_15 : Int32))) else (
                                        if x0.toInt = 118 then (
                                          spl (α := Int32) (x0 - 1000) fun (v_16 : Int32) =>
                                          ((v_16 : Int32))) else (
                                          spl (α := Int32) (x0 - 1000) fun (v_2 : Int32) =>
                                          ((v_2 : Int32))))))))))))))))))))))
set_option maxRecDepth 100000 in
noncomputable def sX5_valueOf_b191 (rec_9 : Int32 → Int32 → Int32 → sg_F → sg_L → Int32 × sg_F) (x0 : Int32) (x1 : Int32) (x2 : Int32) (x3 : Int32) (y5_191 : Int32) (y6_191 : Int32) (y7_191 : Int32) (fp_191 : sg_F) (L : sg_L) : Int32 × sg_F :=
  spl (α := Int32) (fp_191 4 9) fun (v_1 : Int32) =>
  spl (α := Int32) (y7_191 + 1) fun (v_4 : Int32) =>
  rec_9 y5_191 y6_191 v_4 fp_191 L
set_option maxRecDepth 100000 in
noncomputable def sX5_valueOf_b93 (rec_9 : Int32 → Int32 → Int32 → sg_F → sg_L → Int32 × sg_F) (x0 : Int32) (x1 : Int32) (x2 : Int32) (x3 : Int32) (y5_93 : Int32) (y6_93 : Int32) (y7_93 : Int32) (y8_93 : Int32) (fp_93 : sg_F) (L : sg_L) : Int32 × sg_F :=
  spl (α := Int32) (fp_93 4 9) fun (v_6 : Int32) =>
  if y5_93.toInt = 0 then (
    spl (sX5_operands y8_93 fp_93 L) fun (r_14 : Int32) =>
    spl (α := Int32) (y6_93 - r_14) fun (v_16 : Int32) =>
    if v_16.toInt < 0 then (
      ((0 : Int32), fp_93)) else (
      spl (α := Int32) (v_16 + 1) fun (v_20 : Int32) =>
      if v_20.toInt < 122 then (
        if r_14.toInt = 0 then (
          spl (sX5_named y8_93 x0 x1 x2 x3 fp_93 L) fun (r_44 : Int32) =>
          spl (α := sg_F) (sg_up fp_93 8 (sgu (fp_93 8) (Int32.toNatClampNeg v_16) r_44)) fun (f_46 : sg_F) =>
          spl (α := Int32) (v_16 + 1) fun (v_47 : Int32) =>
          sX5_valueOf_b191 rec_9 x0 x1 x2 x3 y5_93 v_47 y7_93 f_46 L) else (
          spl (α := Int32) (fp_93 8 (Int32.toNatClampNeg v_16)) fun (v_31 : Int32) =>
          spl (α := Int32) (fp_93 8 (Int32.toNatClampNeg v_20)) fun (v_32 : Int32) =>
          spl (sX5_worked y8_93 v_31 v_32 fp_93 L) fun (r_36 : Int32) =>
          spl (α := sg_F) (sg_up fp_93 8 (sgu (fp_93 8) (Int32.toNatClampNeg v_16) r_36)) fun (f_38 : sg_F) =>
          spl (α := Int32) (v_16 + 1) fun (v_39 : Int32) =>
          sX5_valueOf_b191 rec_9 x0 x1 x2 x3 y5_93 v_39 y7_93 f_38 L)) else (
        ((0 : Int32), fp_93)))) else (
    sX5_valueOf_b191 rec_9 x0 x1 x2 x3 y5_93 y6_93 y7_93 fp_93 L)
set_option maxRecDepth 100000 in
noncomputable def sX5_valueOf_b46 (rec_9 : Int32 → Int32 → Int32 → sg_F → sg_L → Int32 × sg_F) (x0 : Int32) (x1 : Int32) (x2 : Int32) (x3 : Int32) (y5_46 : Int32) (y6_46 : Int32) (y7_46 : Int32) (y8_46 : Int32) (fp_46 : sg_F) (L : sg_L) : Int32 × sg_F :=
  spl (α := Int32) (fp_46 4 9) fun (v_49 : Int32) =>
  if y8_46.toInt = 59 then (
    sX5_valueOf_b191 rec_9 x0 x1 x2 x3 0 y6_46 y7_46 fp_46 L) else (
    if y8_46.toInt = 63 then (
      if y5_46.toInt = 0 then (
        spl (α := Int32) (fp_46 8 (Int32.toNatClampNeg 0)) fun (v_58 : Int32) =>
        if v_58.toInt = 0 then (
          sX5_valueOf_b191 rec_9 x0 x1 x2 x3 1 0 y7_46 fp_46 L) else (
          sX5_valueOf_b191 rec_9 x0 x1 x2 x3 0 0 y7_46 fp_46 L)) else (
        sX5_valueOf_b93 rec_9 x0 x1 x2 x3 y5_46 y6_46 y7_46 y8_46 fp_46 L)) else (
      sX5_valueOf_b93 rec_9 x0 x1 x2 x3 y5_46 y6_46 y7_46 y8_46 fp_46 L))
set_option maxRecDepth 100000 in
noncomputable def sX5_valueOf_h9 (x0 : Int32) (x1 : Int32) (x2 : Int32) (x3 : Int32) (rec_9 : Int32 → Int32 → Int32 → sg_F → sg_L → Int32 × sg_F) (y5_9 : Int32) (y6_9 : Int32) (y7_9 : Int32) (fp_9 : sg_F) (L : sg_L) : Int32 × sg_F :=
  spl (α := Int32) (fp_9 4 9) fun (v_61 : Int32) =>
  if y7_9.toInt < v_61.toInt then (
    spl (α := Int32) (fp_9 7 (Int32.toNatClampNeg y7_9)) fun (v_65 : Int32) =>
    if v_65.toInt = 59 then (
      if y5_9.toInt = 0 then (
        spl (α := Int32) (fp_9 8 (Int32.toNatClampNeg 0)) fun (v_70 : Int32) =>
        ((v_70 : Int32), fp_9)) else (
        sX5_valueOf_b46 rec_9 x0 x1 x2 x3 y5_9 y6_9 y7_9 v_65 fp_9 L)) else (
      sX5_valueOf_b46 rec_9 x0 x1 x2 x3 y5_9 y6_9 y7_9 v_65 fp_9 L)) else (
    ((0 : Int32), fp_9))
set_option maxRecDepth 100000 in
noncomputable def sX5_valueOf_l9 (x0 : Int32) (x1 : Int32) (x2 : Int32) (x3 : Int32) (n : Nat) : Int32 → Int32 → Int32 → sg_F → sg_L → Int32 × sg_F :=
  Nat.rec (motive := fun _ => Int32 → Int32 → Int32 → sg_F → sg_L → Int32 × sg_F) (fun _ _ _ f L => ((0 : Int32), f)) (fun _ r => sX5_valueOf_h9 x0 x1 x2 x3 r) n
set_option maxRecDepth 100000 in
noncomputable def sX5_valueOf (x0 : Int32) (x1 : Int32) (x2 : Int32) (x3 : Int32) (f : sg_F) (L : sg_L) : Int32 × sg_F :=
  sX5_valueOf_l9 x0 x1 x2 x3 122 0 0 0 f L
set_option maxRecDepth 100000 in
noncomputable def sX0_lossAt (x0 : Int32) (x1 : Int32) (x2 : Int32) (f : sg_F) (L : sg_L) : Int32 × sg_F :=
  if x0.toInt = (-1) then (
    ((0 : Int32), f)) else (
    spl (α := Int32) (x0 * 183) fun (v_3 : Int32) =>
    spl (α := Int32) (x1 * 61) fun (v_5 : Int32) =>
    spl (α := Int32) (v_3 + v_5) fun (v_7 : Int32) =>
    spl (α := Int32) (v_7 + x2) fun (v_9 : Int32) =>
    spl (α := Int32) (f 9 (Int32.toNatClampNeg v_9)) fun (v_11 : Int32) =>
    if v_11.toInt = (-1) then (
      spl (sX0_numberOf x0 x1 f L) fun (r_18 : Int32) =>
      spl (sX0_numberOf x0 5 f L) fun (r_23 : Int32) =>
      if r_18.toInt < x2.toInt then (
        spl (sX0_numberOf x0 3 f L) fun (r_60 : Int32) =>
        spl (α := Int32) (f 4 2) fun (v_62 : Int32) =>
        if v_62.toInt = 0 then (
          spl (α := Int32) (x2 - r_18) fun (v_66 : Int32) =>
          spl (α := Int32) (if (0 : Int32) ≤ v_66 then v_66 else 0 - v_66) fun (v_68 : Int32) =>
          spl (α := Int32) (v_68 * r_60) fun (v_70 : Int32) =>
          spl (α := Int32) (v_70 * r_23) fun (v_71 : Int32) =>
          spl (α := Int32) (if (v_71 : Int32) < 9999 then v_71 else 9999) fun (v_72 : Int32) =>
          spl (α := Int32) (if (0 : Int32) < v_72 then v_72 else 0) fun (v_74 : Int32) =>
          spl (α := sg_F) (sg_up f 9 (sgu (f 9) (Int32.toNatClampNeg v_9) v_74)) fun (f_76 : sg_F) =>
          ((v_74 : Int32), f_76)) else (
          spl2 (sX5_valueOf x2 r_18 r_23 x1 f L) fun (r_80 : Int32) (f_77 : sg_F) =>
          spl (α := Int32) (if (r_80 : Int32) < 9999 then r_80 else 9999) fun (v_82 : Int32) =>
          spl (α := Int32) (if (0 : Int32) < v_82 then v_82 else 0) fun (v_84 : Int32) =>
          spl (α := sg_F) (sg_up f_77 9 (sgu (f_77 9) (Int32.toNatClampNeg v_9) v_84)) fun (f_86 : sg_F) =>
          ((v_84 : Int32), f_86))) else (
        spl (sX0_numberOf x0 4 f L) fun (r_30 : Int32) =>
        spl (α := Int32) (f 4 2) fun (v_32 : Int32) =>
        if v_32.toInt = 0 then (
          spl (α := Int32) (x2 - r_18) fun (v_36 : Int32) =>
          spl (α := Int32) (if (0 : Int32) ≤ v_36 then v_36 else 0 - v_36) fun (v_38 : Int32) =>
          spl (α := Int32) (v_38 * r_30) fun (v_40 : Int32) =>
          spl (α := Int32) (v_40 * r_23) fun (v_41 : Int32) =>
          spl (α := Int32) (if (v_41 : Int32) < 9999 then v_41 else 9999) fun (v_42 : Int32) =>
          spl (α := Int32) (if (0 : Int32) < v_42 then v_42 else 0) fun (v_44 : Int32) =>
          spl (α := sg_F) (sg_up f 9 (sgu (f 9) (Int32.toNatClampNeg v_9) v_44)) fun (f_46 : sg_F) =>
          ((v_44 : Int32), f_46)) else (
          spl2 (sX5_valueOf x2 r_18 r_23 x1 f L) fun (r_50 : Int32) (f_47 : sg_F) =>
          spl (α := Int32) (if (r_50 : Int32) < 9999 then r_50 else 9999) fun (v_52 : Int32) =>
          spl (α := Int32) (if (0 : Int32) < v_52 then v_52 else 0) fun (v_54 : Int32) =>
          spl (α := sg_F) (sg_up f_47 9 (sgu (f_47 9) (Int32.toNatClampNeg v_9) v_54)) fun (f_56 : sg_F) =>
          ((v_54 : Int32), f_56)))) else (
      ((v_11 : Int32), f)))
set_option maxRecDepth 100000 in
noncomputable def sX11_loss (x0 : Int32) (x1 : Int32) (x2 : Int32) (f : sg_F) (L : sg_L) : Int32 × sg_F :=
  spl (α := Int32) (f 1 3) fun (v_1 : Int32) =>
  spl (sX0_has x0 f L) fun (r_8 : Int32) =>
  if r_8 = 1 then (
    spl (sX11_isPart x1 f L) fun (r_14 : Int32) =>
    if r_14 = 1 then (
      spl (sX11_isSetting x2 f L) fun (r_20 : Int32) =>
      if r_20 = 1 then (
        spl2 (sX0_lossAt x0 x1 x2 f L) fun (r_26 : Int32) (f_23 : sg_F) =>
        ((r_26 : Int32), f_23)) else (
        (((-1) : Int32), f))) else (
      (((-1) : Int32), f))) else (
    (((-1) : Int32), f))
set_option maxRecDepth 100000 in
noncomputable def sX11_refusalOf (x0 : Int32) (f : sg_F) (L : sg_L) : Int32 :=
  spl (α := Nat) (x0.toNatClampNeg) fun (t_1 : Nat) =>
  spl (α := Int32) (f (40 + 2 * t_1) 1) fun (v_2 : Int32) =>
  if v_2.toInt = (-1) then (
    (((-11) : Int32))) else (
    if v_2.toInt = 0 then (
      ((0 : Int32))) else (
      (((-12) : Int32))))
set_option maxRecDepth 100000 in
noncomputable def sX10_reads_b112 (rec_41 : Int32 → sg_F → sg_L → sg_F) (t : Nat) (x1 : Int32) (y3_112 : Int32) (fp_112 : sg_F) (L : sg_L) : sg_F :=
  spl (α := Int32) (fp_112 10 2) fun (v_1 : Int32) =>
  spl (α := Int32) (y3_112 + 1) fun (v_4 : Int32) =>
  rec_41 v_4 fp_112 L
set_option maxRecDepth 100000 in
noncomputable def sX10_reads_h41 (t : Nat) (x1 : Int32) (rec_41 : Int32 → sg_F → sg_L → sg_F) (y3_41 : Int32) (fp_41 : sg_F) (L : sg_L) : sg_F :=
  spl (α := Int32) (fp_41 10 2) fun (v_6 : Int32) =>
  if y3_41.toInt < v_6.toInt then (
    spl (α := Int64) (L (41 + 2 * t) (Int32.toNatClampNeg y3_41)) fun (w_10 : Int64) =>
    spl (α := Int32) (Int64.toInt32 w_10) fun (v_11 : Int32) =>
    if v_11.toInt < 0 then (
      spl (α := sg_F) (sg_up fp_41 11 (sgu (fp_41 11) (Int32.toNatClampNeg y3_41) (-1))) fun (f_14 : sg_F) =>
      sX10_reads_b112 rec_41 t x1 y3_41 f_14 L) else (
      if v_11.toInt < x1.toInt then (
        spl (α := sg_F) (sg_up fp_41 11 (sgu (fp_41 11) (Int32.toNatClampNeg y3_41) v_11)) fun (f_18 : sg_F) =>
        spl (α := Int32) (f_18 12 (Int32.toNatClampNeg v_11)) fun (v_21 : Int32) =>
        spl (α := Int32) (v_21 + 1) fun (v_22 : Int32) =>
        spl (α := sg_F) (sg_up f_18 12 (sgu (f_18 12) (Int32.toNatClampNeg v_11) v_22)) fun (f_23 : sg_F) =>
        spl (α := Int32) (f_23 10 3) fun (v_24 : Int32) =>
        spl (α := Int32) (v_24 + 1) fun (v_25 : Int32) =>
        spl (α := sg_F) (sg_up f_23 10 (sgu (f_23 10) 3 v_25)) fun (f_26 : sg_F) =>
        sX10_reads_b112 rec_41 t x1 y3_41 f_26 L) else (
        spl (α := sg_F) (sg_up fp_41 11 (sgu (fp_41 11) (Int32.toNatClampNeg y3_41) (-1))) fun (f_17 : sg_F) =>
        sX10_reads_b112 rec_41 t x1 y3_41 f_17 L))) else (
    (fp_41))
set_option maxRecDepth 100000 in
noncomputable def sX10_reads_l41 (t : Nat) (x1 : Int32) (n : Nat) : Int32 → sg_F → sg_L → sg_F :=
  Nat.rec (motive := fun _ => Int32 → sg_F → sg_L → sg_F) (fun _ f L => (f)) (fun _ r => sX10_reads_h41 t x1 r) n
set_option maxRecDepth 100000 in
noncomputable def sX10_reads_h20 (t : Nat) (x1 : Int32) (rec_20 : Int32 → sg_F → sg_L → sg_F) (y3_20 : Int32) (fp_20 : sg_F) (L : sg_L) : sg_F :=
  spl (α := Int32) (fp_20 10 3) fun (v_27 : Int32) =>
  if y3_20.toInt < 8 then (
    spl (α := sg_F) (sg_up fp_20 12 (sgu (fp_20 12) (Int32.toNatClampNeg y3_20) 0)) fun (f_31 : sg_F) =>
    spl (α := Int32) (y3_20 + 1) fun (v_32 : Int32) =>
    rec_20 v_32 f_31 L) else (
    sX10_reads_l41 t x1 22 0 fp_20 L)
set_option maxRecDepth 100000 in
noncomputable def sX10_reads_l20 (t : Nat) (x1 : Int32) (n : Nat) : Int32 → sg_F → sg_L → sg_F :=
  Nat.rec (motive := fun _ => Int32 → sg_F → sg_L → sg_F) (fun _ f L => (f)) (fun _ r => sX10_reads_h20 t x1 r) n
set_option maxRecDepth 100000 in
noncomputable def sX10_reads (t : Nat) (x1 : Int32) (f : sg_F) (L : sg_L) : sg_F :=
  spl (α := Int32) (f (40 + 2 * t) 2) fun (v_34 : Int32) =>
  spl (α := Int32) (if (v_34 : Int32) < 21 then v_34 else 21) fun (v_36 : Int32) =>
  spl (α := sg_F) (sg_up f 10 (sgu (f 10) 2 v_36)) fun (f_38 : sg_F) =>
  spl (α := sg_F) (sg_up f_38 10 (sgu (f_38 10) 3 0)) fun (f_39 : sg_F) =>
  sX10_reads_l20 t x1 9 0 f_39 L
set_option maxRecDepth 100000 in
noncomputable def sX11_readWeek (x0 : Int32) (f : sg_F) (L : sg_L) : Int32 × sg_F :=
  spl (sX11_refusalOf x0 f L) fun (r_4 : Int32) =>
  if r_4.toInt = 0 then (
    spl (α := Nat) (x0.toNatClampNeg) fun (t_8 : Nat) =>
    spl (α := Int32) (f 1 3) fun (v_9 : Int32) =>
    spl (sX10_reads t_8 v_9 f L) fun (f_11 : sg_F) =>
    ((r_4 : Int32), f_11)) else (
    ((r_4 : Int32), f))
set_option maxRecDepth 100000 in
noncomputable def sX8_allLosses_b50 (rec_5 : Int32 → Int32 → sg_F → sg_L → Int32 × sg_F) (x0 : Int32) (x1 : Int32) (y3_50 : Int32) (y4_50 : Int32) (fp_50 : sg_F) (L : sg_L) : Int32 × sg_F :=
  spl (α := Int32) (y4_50 + 1) fun (v_1 : Int32) =>
  rec_5 y3_50 v_1 fp_50 L
set_option maxRecDepth 100000 in
noncomputable def sX8_allLosses_h5 (x0 : Int32) (x1 : Int32) (rec_5 : Int32 → Int32 → sg_F → sg_L → Int32 × sg_F) (y3_5 : Int32) (y4_5 : Int32) (fp_5 : sg_F) (L : sg_L) : Int32 × sg_F :=
  if y4_5.toInt < 8 then (
    spl (α := Int32) (fp_5 12 (Int32.toNatClampNeg y4_5)) fun (v_5 : Int32) =>
    if 0 < v_5.toInt then (
      spl2 (sX0_lossAt y4_5 x0 x1 fp_5 L) fun (r_11 : Int32) (f_8 : sg_F) =>
      spl (α := Int32) (v_5 * r_11) fun (v_13 : Int32) =>
      spl (α := Int32) (y3_5 + v_13) fun (v_14 : Int32) =>
      sX8_allLosses_b50 rec_5 x0 x1 v_14 y4_5 f_8 L) else (
      sX8_allLosses_b50 rec_5 x0 x1 y3_5 y4_5 fp_5 L)) else (
    ((y3_5 : Int32), fp_5))
set_option maxRecDepth 100000 in
noncomputable def sX8_allLosses_l5 (x0 : Int32) (x1 : Int32) (n : Nat) : Int32 → Int32 → sg_F → sg_L → Int32 × sg_F :=
  Nat.rec (motive := fun _ => Int32 → Int32 → sg_F → sg_L → Int32 × sg_F) (fun _ _ f L => ((0 : Int32), f)) (fun _ r => sX8_allLosses_h5 x0 x1 r) n
set_option maxRecDepth 100000 in
noncomputable def sX8_allLosses (x0 : Int32) (x1 : Int32) (f : sg_F) (L : sg_L) : Int32 × sg_F :=
  sX8_allLosses_l5 x0 x1 9 0 0 f L
set_option maxRecDepth 100000 in
noncomputable def sX11_never (x0 : Int32) (x1 : Int32) (x2 : Int32) (f : sg_F) (L : sg_L) : Int32 × sg_F :=
  spl (sX11_isShelf x0 f L) fun (r_4 : Int32) =>
  if r_4 = 1 then (
    spl (sX11_isPart x1 f L) fun (r_10 : Int32) =>
    if r_10 = 1 then (
      spl (sX11_isSetting x2 f L) fun (r_16 : Int32) =>
      if r_16 = 1 then (
        spl2 (sX11_readWeek x0 f L) fun (r_22 : Int32) (f_19 : sg_F) =>
        if r_22.toInt = 0 then (
          spl2 (sX8_allLosses x1 x2 f_19 L) fun (r_29 : Int32) (f_26 : sg_F) =>
          ((r_29 : Int32), f_26)) else (
          ((r_22 : Int32), f_19))) else (
        (((-1) : Int32), f))) else (
      (((-1) : Int32), f))) else (
    (((-1) : Int32), f))
set_option maxRecDepth 100000 in
noncomputable def sX8_worstLoss_b41 (rec_5 : Int32 → Int32 → sg_F → sg_L → Int32 × sg_F) (x0 : Int32) (x1 : Int32) (y3_41 : Int32) (y4_41 : Int32) (fp_41 : sg_F) (L : sg_L) : Int32 × sg_F :=
  spl (α := Int32) (y4_41 + 1) fun (v_1 : Int32) =>
  rec_5 y3_41 v_1 fp_41 L
set_option maxRecDepth 100000 in
noncomputable def sX8_worstLoss_h5 (x0 : Int32) (x1 : Int32) (rec_5 : Int32 → Int32 → sg_F → sg_L → Int32 × sg_F) (y3_5 : Int32) (y4_5 : Int32) (fp_5 : sg_F) (L : sg_L) : Int32 × sg_F :=
  if y4_5.toInt < 8 then (
    spl (α := Int32) (fp_5 12 (Int32.toNatClampNeg y4_5)) fun (v_5 : Int32) =>
    if 0 < v_5.toInt then (
      spl2 (sX0_lossAt y4_5 x0 x1 fp_5 L) fun (r_11 : Int32) (f_8 : sg_F) =>
      spl (α := Int32) (if (y3_5 : Int32) < r_11 then r_11 else y3_5) fun (v_13 : Int32) =>
      sX8_worstLoss_b41 rec_5 x0 x1 v_13 y4_5 f_8 L) else (
      sX8_worstLoss_b41 rec_5 x0 x1 y3_5 y4_5 fp_5 L)) else (
    ((y3_5 : Int32), fp_5))
set_option maxRecDepth 100000 in
noncomputable def sX8_worstLoss_l5 (x0 : Int32) (x1 : Int32) (n : Nat) : Int32 → Int32 → sg_F → sg_L → Int32 × sg_F :=
  Nat.rec (motive := fun _ => Int32 → Int32 → sg_F → sg_L → Int32 × sg_F) (fun _ _ f L => ((0 : Int32), f)) (fun _ r => sX8_worstLoss_h5 x0 x1 r) n
set_option maxRecDepth 100000 in
noncomputable def sX8_worstLoss (x0 : Int32) (x1 : Int32) (f : sg_F) (L : sg_L) : Int32 × sg_F :=
  sX8_worstLoss_l5 x0 x1 9 0 0 f L
set_option maxRecDepth 100000 in
noncomputable def sX8_bestOf_b58 (rec_8 : Int32 → Int32 → Int32 → sg_F → sg_L → Int32 × sg_F) (x0 : Int32) (x1 : Int32) (y3_58 : Int32) (y4_58 : Int32) (y5_58 : Int32) (fp_58 : sg_F) (L : sg_L) : Int32 × sg_F :=
  spl (α := Int32) (y5_58 + 1) fun (v_1 : Int32) =>
  rec_8 y3_58 y4_58 v_1 fp_58 L
set_option maxRecDepth 100000 in
noncomputable def sX8_bestOf_b51 (rec_8 : Int32 → Int32 → Int32 → sg_F → sg_L → Int32 × sg_F) (x0 : Int32) (x1 : Int32) (y5_51 : Int32) (y6_51 : Int32) (fp_51 : sg_F) (L : sg_L) : Int32 × sg_F :=
  sX8_bestOf_b58 rec_8 x0 x1 y5_51 y6_51 y5_51 fp_51 L
set_option maxRecDepth 100000 in
noncomputable def sX8_bestOf_h8 (x0 : Int32) (x1 : Int32) (rec_8 : Int32 → Int32 → Int32 → sg_F → sg_L → Int32 × sg_F) (y3_8 : Int32) (y4_8 : Int32) (y5_8 : Int32) (fp_8 : sg_F) (L : sg_L) : Int32 × sg_F :=
  if 60 < y5_8.toInt then (
    spl (α := Int32) (x1 - x1 / 2 * 2) fun (v_5 : Int32) =>
    if v_5.toInt = 0 then (
      ((y3_8 : Int32), fp_8)) else (
      ((y4_8 : Int32), fp_8))) else (
    if x1.toInt < 2 then (
      spl2 (sX8_allLosses x0 y5_8 fp_8 L) fun (r_23 : Int32) (f_20 : sg_F) =>
      if y5_8.toInt = 0 then (
        sX8_bestOf_b51 rec_8 x0 x1 y5_8 r_23 f_20 L) else (
        if r_23.toInt < y4_8.toInt then (
          sX8_bestOf_b51 rec_8 x0 x1 y5_8 r_23 f_20 L) else (
          sX8_bestOf_b58 rec_8 x0 x1 y3_8 y4_8 y5_8 f_20 L))) else (
      spl2 (sX8_worstLoss x0 y5_8 fp_8 L) fun (r_14 : Int32) (f_11 : sg_F) =>
      if y5_8.toInt = 0 then (
        sX8_bestOf_b51 rec_8 x0 x1 y5_8 r_14 f_11 L) else (
        if r_14.toInt < y4_8.toInt then (
          sX8_bestOf_b51 rec_8 x0 x1 y5_8 r_14 f_11 L) else (
          sX8_bestOf_b58 rec_8 x0 x1 y3_8 y4_8 y5_8 f_11 L))))
set_option maxRecDepth 100000 in
noncomputable def sX8_bestOf_l8 (x0 : Int32) (x1 : Int32) (n : Nat) : Int32 → Int32 → Int32 → sg_F → sg_L → Int32 × sg_F :=
  Nat.rec (motive := fun _ => Int32 → Int32 → Int32 → sg_F → sg_L → Int32 × sg_F) (fun _ _ _ f L => ((0 : Int32), f)) (fun _ r => sX8_bestOf_h8 x0 x1 r) n
set_option maxRecDepth 100000 in
noncomputable def sX8_bestOf (x0 : Int32) (x1 : Int32) (f : sg_F) (L : sg_L) : Int32 × sg_F :=
  sX8_bestOf_l8 x0 x1 62 0 0 0 f L
set_option maxRecDepth 100000 in
noncomputable def sX11_best (x0 : Int32) (x1 : Int32) (x2 : Int32) (f : sg_F) (L : sg_L) : Int32 × sg_F :=
  spl (sX11_isShelf x0 f L) fun (r_4 : Int32) =>
  if r_4 = 1 then (
    spl (sX11_isPart x1 f L) fun (r_10 : Int32) =>
    if r_10 = 1 then (
      if x2.toInt < 0 then (
        (((-1) : Int32), f)) else (
        if 3 < x2.toInt then (
          (((-1) : Int32), f)) else (
          spl2 (sX11_readWeek x0 f L) fun (r_20 : Int32) (f_17 : sg_F) =>
          if r_20.toInt = 0 then (
            spl (α := Int32) (f_17 10 3) fun (v_24 : Int32) =>
            if v_24.toInt = 0 then (
              (((-2) : Int32), f_17)) else (
              spl2 (sX8_bestOf x1 x2 f_17 L) fun (r_30 : Int32) (f_27 : sg_F) =>
              ((r_30 : Int32), f_27))) else (
            ((r_20 : Int32), f_17))))) else (
      (((-1) : Int32), f))) else (
    (((-1) : Int32), f))
set_option maxRecDepth 100000 in
noncomputable def sX8_weighWants_b131 (rec_32 : Int32 → Int32 → sg_F → sg_L → Int32 × sg_F) (x0 : Int32) (y2_131 : Int32) (y3_131 : Int32) (fp_131 : sg_F) (L : sg_L) : Int32 × sg_F :=
  spl (α := Int32) (y3_131 + 1) fun (v_1 : Int32) =>
  rec_32 y2_131 v_1 fp_131 L
set_option maxRecDepth 100000 in
noncomputable def sX8_weighWants_h32 (x0 : Int32) (rec_32 : Int32 → Int32 → sg_F → sg_L → Int32 × sg_F) (y2_32 : Int32) (y3_32 : Int32) (fp_32 : sg_F) (L : sg_L) : Int32 × sg_F :=
  if y3_32.toInt < 8 then (
    spl (α := Int32) (fp_32 12 (Int32.toNatClampNeg y3_32)) fun (v_5 : Int32) =>
    if 0 < v_5.toInt then (
      spl (sX0_numberOf y3_32 3 fp_32 L) fun (r_11 : Int32) =>
      spl (sX0_numberOf y3_32 4 fp_32 L) fun (r_16 : Int32) =>
      spl (α := Int32) (r_11 + r_16) fun (v_18 : Int32) =>
      spl (sX0_numberOf y3_32 5 fp_32 L) fun (r_23 : Int32) =>
      spl (α := Int32) (v_5 * r_23) fun (v_25 : Int32) =>
      spl (α := Int32) (v_25 * v_18) fun (v_26 : Int32) =>
      spl (sX0_numberOf y3_32 x0 fp_32 L) fun (r_30 : Int32) =>
      spl (α := Int32) (fp_32 18 (Int32.toNatClampNeg r_30)) fun (v_32 : Int32) =>
      spl (α := Int32) (v_32 + v_26) fun (v_33 : Int32) =>
      spl (α := sg_F) (sg_up fp_32 18 (sgu (fp_32 18) (Int32.toNatClampNeg r_30) v_33)) fun (f_34 : sg_F) =>
      spl (α := sg_F) (sg_up f_34 19 (sgu (f_34 19) (Int32.toNatClampNeg r_30) 1)) fun (f_35 : sg_F) =>
      spl (α := Int32) (y2_32 + v_26) fun (v_36 : Int32) =>
      sX8_weighWants_b131 rec_32 x0 v_36 y3_32 f_35 L) else (
      sX8_weighWants_b131 rec_32 x0 y2_32 y3_32 fp_32 L)) else (
    ((y2_32 : Int32), fp_32))
set_option maxRecDepth 100000 in
noncomputable def sX8_weighWants_l32 (x0 : Int32) (n : Nat) : Int32 → Int32 → sg_F → sg_L → Int32 × sg_F :=
  Nat.rec (motive := fun _ => Int32 → Int32 → sg_F → sg_L → Int32 × sg_F) (fun _ _ f L => ((0 : Int32), f)) (fun _ r => sX8_weighWants_h32 x0 r) n
set_option maxRecDepth 100000 in
noncomputable def sX8_weighWants_h4 (x0 : Int32) (rec_4 : Int32 → sg_F → sg_L → Int32 × sg_F) (y3_4 : Int32) (fp_4 : sg_F) (L : sg_L) : Int32 × sg_F :=
  if 60 < y3_4.toInt then (
    sX8_weighWants_l32 x0 9 0 0 fp_4 L) else (
    spl (α := sg_F) (sg_up fp_4 18 (sgu (fp_4 18) (Int32.toNatClampNeg y3_4) 0)) fun (f_39 : sg_F) =>
    spl (α := sg_F) (sg_up f_39 19 (sgu (f_39 19) (Int32.toNatClampNeg y3_4) 0)) fun (f_40 : sg_F) =>
    spl (α := Int32) (y3_4 + 1) fun (v_41 : Int32) =>
    rec_4 v_41 f_40 L)
set_option maxRecDepth 100000 in
noncomputable def sX8_weighWants_l4 (x0 : Int32) (n : Nat) : Int32 → sg_F → sg_L → Int32 × sg_F :=
  Nat.rec (motive := fun _ => Int32 → sg_F → sg_L → Int32 × sg_F) (fun _ f L => ((0 : Int32), f)) (fun _ r => sX8_weighWants_h4 x0 r) n
set_option maxRecDepth 100000 in
noncomputable def sX8_weighWants (x0 : Int32) (f : sg_F) (L : sg_L) : Int32 × sg_F :=
  sX8_weighWants_l4 x0 62 0 f L
set_option maxRecDepth 100000 in
noncomputable def sX8_middleWant_b48 (rec_11 : Int32 → Int32 → Int32 → sg_F → sg_L → Int32 × sg_F) (x0 : Int32) (y2_48 : Int32) (y3_48 : Int32) (y4_48 : Int32) (fp_48 : sg_F) (L : sg_L) : Int32 × sg_F :=
  spl (α := Int32) (y4_48 + 1) fun (v_1 : Int32) =>
  rec_11 y2_48 y3_48 v_1 fp_48 L
set_option maxRecDepth 100000 in
noncomputable def sX8_middleWant_h11 (x0 : Int32) (rec_11 : Int32 → Int32 → Int32 → sg_F → sg_L → Int32 × sg_F) (y2_11 : Int32) (y3_11 : Int32) (y4_11 : Int32) (fp_11 : sg_F) (L : sg_L) : Int32 × sg_F :=
  if 60 < y4_11.toInt then (
    (((-2) : Int32), fp_11)) else (
    spl (α := Int32) (fp_11 18 (Int32.toNatClampNeg y4_11)) fun (v_5 : Int32) =>
    spl (α := Int32) (y3_11 + v_5) fun (v_6 : Int32) =>
    spl (α := Int32) (fp_11 19 (Int32.toNatClampNeg y4_11)) fun (v_7 : Int32) =>
    if v_7.toInt = 0 then (
      sX8_middleWant_b48 rec_11 x0 y2_11 v_6 y4_11 fp_11 L) else (
      spl (α := Int32) (v_6 * 2) fun (v_11 : Int32) =>
      if v_11.toInt < y2_11.toInt then (
        sX8_middleWant_b48 rec_11 x0 y2_11 v_6 y4_11 fp_11 L) else (
        ((y4_11 : Int32), fp_11))))
set_option maxRecDepth 100000 in
noncomputable def sX8_middleWant_l11 (x0 : Int32) (n : Nat) : Int32 → Int32 → Int32 → sg_F → sg_L → Int32 × sg_F :=
  Nat.rec (motive := fun _ => Int32 → Int32 → Int32 → sg_F → sg_L → Int32 × sg_F) (fun _ _ _ f L => ((0 : Int32), f)) (fun _ r => sX8_middleWant_h11 x0 r) n
set_option maxRecDepth 100000 in
noncomputable def sX8_middleWant (x0 : Int32) (f : sg_F) (L : sg_L) : Int32 × sg_F :=
  spl2 (sX8_weighWants x0 f L) fun (r_17 : Int32) (f_14 : sg_F) =>
  sX8_middleWant_l11 x0 62 r_17 0 0 f_14 L
set_option maxRecDepth 100000 in
noncomputable def sX11_middle (x0 : Int32) (x1 : Int32) (f : sg_F) (L : sg_L) : Int32 × sg_F :=
  spl (sX11_isShelf x0 f L) fun (r_4 : Int32) =>
  if r_4 = 1 then (
    spl (sX11_isPart x1 f L) fun (r_10 : Int32) =>
    if r_10 = 1 then (
      spl2 (sX11_readWeek x0 f L) fun (r_16 : Int32) (f_13 : sg_F) =>
      if r_16.toInt = 0 then (
        spl (α := Int32) (f_13 10 3) fun (v_20 : Int32) =>
        if v_20.toInt = 0 then (
          (((-2) : Int32), f_13)) else (
          spl2 (sX8_middleWant x1 f_13 L) fun (r_26 : Int32) (f_23 : sg_F) =>
          ((r_26 : Int32), f_23))) else (
        ((r_16 : Int32), f_13))) else (
      (((-1) : Int32), f))) else (
    (((-1) : Int32), f))
set_option maxRecDepth 100000 in
noncomputable def sX0_slipped (x0 : Int32) (x1 : Int32) (f : sg_F) (L : sg_L) : Int32 :=
  spl (α := Int32) (64 + x0) fun (v_1 : Int32) =>
  spl (α := Int32) (f 2 (Int32.toNatClampNeg v_1)) fun (v_3 : Int32) =>
  spl (α := Int32) (x1 - v_3) fun (v_6 : Int32) =>
  spl (α := Int32) (if (0 : Int32) < v_6 then v_6 else 0) fun (v_8 : Int32) =>
  ((v_8 : Int32))
set_option maxRecDepth 100000 in
noncomputable def sX9_unturned (x0 : Int32) (x1 : Int32) (x2 : Int32) (f : sg_F) (L : sg_L) : Int32 × sg_F :=
  spl (α := Int32) (f 11 (Int32.toNatClampNeg x1)) fun (v_1 : Int32) =>
  spl2 (sX0_lossAt v_1 x0 x2 f L) fun (r_6 : Int32) (f_3 : sg_F) =>
  spl (α := Int32) (x1 + 1) fun (v_8 : Int32) =>
  spl (α := Int32) (v_8 * 61) fun (v_10 : Int32) =>
  spl (sX0_slipped x0 x2 f_3 L) fun (r_15 : Int32) =>
  spl (α := Int32) (v_10 + r_15) fun (v_17 : Int32) =>
  spl (α := Int32) (f_3 26 (Int32.toNatClampNeg v_17)) fun (v_19 : Int32) =>
  spl (α := Int32) (r_6 + v_19) fun (v_20 : Int32) =>
  ((v_20 : Int32), f_3)
set_option maxRecDepth 100000 in
noncomputable def sX0_priceOf (x0 : Int32) (f : sg_F) (L : sg_L) : Int32 :=
  spl (α := Int32) (67 + x0) fun (v_1 : Int32) =>
  spl (α := Int32) (f 2 (Int32.toNatClampNeg v_1)) fun (v_3 : Int32) =>
  ((v_3 : Int32))
set_option maxRecDepth 100000 in
noncomputable def sX9_spread_h48 (x0 : Int32) (x1 : Int32) (rec_48 : Int32 → sg_F → sg_L → sg_F) (y3_48 : Int32) (fp_48 : sg_F) (L : sg_L) : sg_F :=
  if y3_48.toInt < 0 then (
    (fp_48)) else (
    spl (α := Int32) (x0 + y3_48) fun (v_3 : Int32) =>
    spl (α := Int32) (fp_48 26 (Int32.toNatClampNeg v_3)) fun (v_5 : Int32) =>
    spl (α := Int32) (v_3 + 1) fun (v_6 : Int32) =>
    spl (α := Int32) (fp_48 26 (Int32.toNatClampNeg v_6)) fun (v_8 : Int32) =>
    spl (α := Int32) (v_8 + x1) fun (v_9 : Int32) =>
    spl (α := Int32) (if (v_9 : Int32) < v_5 then v_9 else v_5) fun (v_10 : Int32) =>
    spl (α := sg_F) (sg_up fp_48 26 (sgu (fp_48 26) (Int32.toNatClampNeg v_3) v_10)) fun (f_12 : sg_F) =>
    spl (α := Int32) (y3_48 + (-1)) fun (v_13 : Int32) =>
    rec_48 v_13 f_12 L)
set_option maxRecDepth 100000 in
noncomputable def sX9_spread_l48 (x0 : Int32) (x1 : Int32) (n : Nat) : Int32 → sg_F → sg_L → sg_F :=
  Nat.rec (motive := fun _ => Int32 → sg_F → sg_L → sg_F) (fun _ f L => (f)) (fun _ r => sX9_spread_h48 x0 x1 r) n
set_option maxRecDepth 100000 in
noncomputable def sX9_spread_h2 (x0 : Int32) (x1 : Int32) (rec_2 : Int32 → sg_F → sg_L → sg_F) (y3_2 : Int32) (fp_2 : sg_F) (L : sg_L) : sg_F :=
  if 60 < y3_2.toInt then (
    sX9_spread_l48 x0 x1 61 59 fp_2 L) else (
    spl (α := Int32) (x0 + y3_2) fun (v_17 : Int32) =>
    spl (α := Int32) (fp_2 26 (Int32.toNatClampNeg v_17)) fun (v_19 : Int32) =>
    spl (α := Int32) (v_17 - 1) fun (v_20 : Int32) =>
    spl (α := Int32) (fp_2 26 (Int32.toNatClampNeg v_20)) fun (v_22 : Int32) =>
    spl (α := Int32) (v_22 + x1) fun (v_23 : Int32) =>
    spl (α := Int32) (if (v_23 : Int32) < v_19 then v_23 else v_19) fun (v_24 : Int32) =>
    spl (α := sg_F) (sg_up fp_2 26 (sgu (fp_2 26) (Int32.toNatClampNeg v_17) v_24)) fun (f_26 : sg_F) =>
    spl (α := Int32) (y3_2 + 1) fun (v_27 : Int32) =>
    rec_2 v_27 f_26 L)
set_option maxRecDepth 100000 in
noncomputable def sX9_spread_l2 (x0 : Int32) (x1 : Int32) (n : Nat) : Int32 → sg_F → sg_L → sg_F :=
  Nat.rec (motive := fun _ => Int32 → sg_F → sg_L → sg_F) (fun _ f L => (f)) (fun _ r => sX9_spread_h2 x0 x1 r) n
set_option maxRecDepth 100000 in
noncomputable def sX9_spread (x0 : Int32) (x1 : Int32) (f : sg_F) (L : sg_L) : sg_F :=
  sX9_spread_l2 x0 x1 61 1 f L
set_option maxRecDepth 100000 in
noncomputable def sX9_pay_b112 (rec_48 : Int32 → sg_F → sg_L → sg_F) (x0 : Int32) (x1 : Int32) (y4_112 : Int32) (fp_112 : sg_F) (L : sg_L) : sg_F :=
  spl (α := Int32) (y4_112 + (-1)) fun (v_1 : Int32) =>
  rec_48 v_1 fp_112 L
set_option maxRecDepth 100000 in
noncomputable def sX9_pay_h56 (rec_48 : Int32 → sg_F → sg_L → sg_F) (x0 : Int32) (x1 : Int32) (rec_56 : Int32 → Int32 → sg_F → sg_L → sg_F) (y4_56 : Int32) (y5_56 : Int32) (fp_56 : sg_F) (L : sg_L) : sg_F :=
  if 60 < y5_56.toInt then (
    if x1.toInt = 0 then (
      sX9_pay_b112 rec_48 x0 x1 y4_56 fp_56 L) else (
      spl (α := Int32) (y4_56 * 61) fun (v_7 : Int32) =>
      spl (sX0_priceOf x0 fp_56 L) fun (r_12 : Int32) =>
      spl (sX9_spread v_7 r_12 fp_56 L) fun (f_14 : sg_F) =>
      sX9_pay_b112 rec_48 x0 x1 y4_56 f_14 L)) else (
    spl (α := Int32) (y4_56 * 61) fun (v_18 : Int32) =>
    spl (α := Int32) (v_18 + y5_56) fun (v_20 : Int32) =>
    spl2 (sX9_unturned x0 y4_56 y5_56 fp_56 L) fun (r_25 : Int32) (f_22 : sg_F) =>
    spl (α := sg_F) (sg_up f_22 26 (sgu (f_22 26) (Int32.toNatClampNeg v_20) r_25)) fun (f_27 : sg_F) =>
    spl (α := Int32) (y5_56 + 1) fun (v_28 : Int32) =>
    rec_56 y4_56 v_28 f_27 L)
set_option maxRecDepth 100000 in
noncomputable def sX9_pay_l56 (rec_48 : Int32 → sg_F → sg_L → sg_F) (x0 : Int32) (x1 : Int32) (n : Nat) : Int32 → Int32 → sg_F → sg_L → sg_F :=
  Nat.rec (motive := fun _ => Int32 → Int32 → sg_F → sg_L → sg_F) (fun _ _ f L => (f)) (fun _ r => sX9_pay_h56 rec_48 x0 x1 r) n
set_option maxRecDepth 100000 in
noncomputable def sX9_pay_h48 (x0 : Int32) (x1 : Int32) (rec_48 : Int32 → sg_F → sg_L → sg_F) (y4_48 : Int32) (fp_48 : sg_F) (L : sg_L) : sg_F :=
  if y4_48.toInt < 0 then (
    (fp_48)) else (
    sX9_pay_l56 rec_48 x0 x1 62 y4_48 0 fp_48 L)
set_option maxRecDepth 100000 in
noncomputable def sX9_pay_l48 (x0 : Int32) (x1 : Int32) (n : Nat) : Int32 → sg_F → sg_L → sg_F :=
  Nat.rec (motive := fun _ => Int32 → sg_F → sg_L → sg_F) (fun _ f L => (f)) (fun _ r => sX9_pay_h48 x0 x1 r) n
set_option maxRecDepth 100000 in
noncomputable def sX9_pay_h14 (x0 : Int32) (x1 : Int32) (rec_14 : Int32 → Int32 → sg_F → sg_L → sg_F) (y3_14 : Int32) (y4_14 : Int32) (fp_14 : sg_F) (L : sg_L) : sg_F :=
  if 60 < y4_14.toInt then (
    spl (α := Int32) (fp_14 10 2) fun (v_34 : Int32) =>
    spl (α := Int32) (v_34 - 1) fun (v_36 : Int32) =>
    sX9_pay_l48 x0 x1 22 v_36 fp_14 L) else (
    spl (α := Int32) (y3_14 + y4_14) fun (v_38 : Int32) =>
    spl (α := sg_F) (sg_up fp_14 26 (sgu (fp_14 26) (Int32.toNatClampNeg v_38) 0)) fun (f_40 : sg_F) =>
    spl (α := Int32) (y4_14 + 1) fun (v_41 : Int32) =>
    rec_14 y3_14 v_41 f_40 L)
set_option maxRecDepth 100000 in
noncomputable def sX9_pay_l14 (x0 : Int32) (x1 : Int32) (n : Nat) : Int32 → Int32 → sg_F → sg_L → sg_F :=
  Nat.rec (motive := fun _ => Int32 → Int32 → sg_F → sg_L → sg_F) (fun _ _ f L => (f)) (fun _ r => sX9_pay_h14 x0 x1 r) n
set_option maxRecDepth 100000 in
noncomputable def sX9_pay (x0 : Int32) (x1 : Int32) (f : sg_F) (L : sg_L) : sg_F :=
  spl (α := Int32) (f 10 2) fun (v_43 : Int32) =>
  spl (α := Int32) (v_43 * 61) fun (v_45 : Int32) =>
  sX9_pay_l14 x0 x1 62 v_45 0 f L
set_option maxRecDepth 100000 in
noncomputable def sX9_leastSetting_h26 (x0 : Int32) (x1 : Int32) (x2 : Int32) (rec_26 : Int32 → Int32 → Int32 → sg_F → sg_L → Int32 × sg_F) (y4_26 : Int32) (y5_26 : Int32) (y6_26 : Int32) (fp_26 : sg_F) (L : sg_L) : Int32 × sg_F :=
  if 60 < y6_26.toInt then (
    ((x2 : Int32), fp_26)) else (
    spl (α := Int32) (y6_26 - x2) fun (v_3 : Int32) =>
    spl (α := Int32) (if (0 : Int32) ≤ v_3 then v_3 else 0 - v_3) fun (v_5 : Int32) =>
    spl (α := Int32) (v_5 * y4_26) fun (v_7 : Int32) =>
    spl2 (sX9_unturned x0 x1 y6_26 fp_26 L) fun (r_11 : Int32) (f_8 : sg_F) =>
    spl (α := Int32) (v_7 + r_11) fun (v_13 : Int32) =>
    if v_13.toInt = y5_26.toInt then (
      ((y6_26 : Int32), f_8)) else (
      spl (α := Int32) (y6_26 + 1) fun (v_16 : Int32) =>
      rec_26 y4_26 y5_26 v_16 f_8 L))
set_option maxRecDepth 100000 in
noncomputable def sX9_leastSetting_l26 (x0 : Int32) (x1 : Int32) (x2 : Int32) (n : Nat) : Int32 → Int32 → Int32 → sg_F → sg_L → Int32 × sg_F :=
  Nat.rec (motive := fun _ => Int32 → Int32 → Int32 → sg_F → sg_L → Int32 × sg_F) (fun _ _ _ f L => ((0 : Int32), f)) (fun _ r => sX9_leastSetting_h26 x0 x1 x2 r) n
set_option maxRecDepth 100000 in
noncomputable def sX9_leastSetting (x0 : Int32) (x1 : Int32) (x2 : Int32) (f : sg_F) (L : sg_L) : Int32 × sg_F :=
  spl (sX0_priceOf x0 f L) fun (r_21 : Int32) =>
  spl (α := Int32) (x1 * 61) fun (v_23 : Int32) =>
  spl (α := Int32) (v_23 + x2) fun (v_25 : Int32) =>
  spl (α := Int32) (f 26 (Int32.toNatClampNeg v_25)) fun (v_27 : Int32) =>
  sX9_leastSetting_l26 x0 x1 x2 62 r_21 v_27 0 f L
set_option maxRecDepth 100000 in
noncomputable def sX9_shiftByShift_h33 (x0 : Int32) (x1 : Int32) (rec_33 : Int32 → Int32 → Int32 → sg_F → sg_L → Int32 × sg_F) (y3_33 : Int32) (y4_33 : Int32) (y5_33 : Int32) (fp_33 : sg_F) (L : sg_L) : Int32 × sg_F :=
  if x1.toInt < y5_33.toInt then (
    ((y4_33 : Int32), fp_33)) else (
    spl2 (sX9_leastSetting x0 y5_33 y3_33 fp_33 L) fun (r_6 : Int32) (f_3 : sg_F) =>
    spl (sX0_slipped x0 r_6 f_3 L) fun (r_11 : Int32) =>
    spl (α := Int32) (y5_33 + 1) fun (v_13 : Int32) =>
    rec_33 r_11 r_6 v_13 f_3 L)
set_option maxRecDepth 100000 in
noncomputable def sX9_shiftByShift_l33 (x0 : Int32) (x1 : Int32) (n : Nat) : Int32 → Int32 → Int32 → sg_F → sg_L → Int32 × sg_F :=
  Nat.rec (motive := fun _ => Int32 → Int32 → Int32 → sg_F → sg_L → Int32 × sg_F) (fun _ _ _ f L => ((0 : Int32), f)) (fun _ r => sX9_shiftByShift_h33 x0 x1 r) n
set_option maxRecDepth 100000 in
noncomputable def sX9_shiftByShift (x0 : Int32) (x1 : Int32) (f : sg_F) (L : sg_L) : Int32 × sg_F :=
  spl (sX9_pay x0 1 f L) fun (f_15 : sg_F) =>
  spl (α := Int32) (f_15 3 (Int32.toNatClampNeg x0)) fun (v_19 : Int32) =>
  if x1.toInt < 0 then (
    spl (α := Int32) (f_15 26 (Int32.toNatClampNeg v_19)) fun (v_23 : Int32) =>
    ((v_23 : Int32), f_15)) else (
    sX9_shiftByShift_l33 x0 x1 22 v_19 0 0 f_15 L)
set_option maxRecDepth 100000 in
noncomputable def sX11_shifts (x0 : Int32) (x1 : Int32) (x2 : Int32) (f : sg_F) (L : sg_L) : Int32 × sg_F :=
  spl (sX11_isShelf x0 f L) fun (r_4 : Int32) =>
  if r_4 = 1 then (
    spl (sX11_isPart x1 f L) fun (r_10 : Int32) =>
    if r_10 = 1 then (
      if x2.toInt < (-1) then (
        (((-1) : Int32), f)) else (
        spl2 (sX11_readWeek x0 f L) fun (r_18 : Int32) (f_15 : sg_F) =>
        if r_18.toInt = 0 then (
          spl (α := Int32) (f_15 10 2) fun (v_22 : Int32) =>
          if x2.toInt < v_22.toInt then (
            spl2 (sX9_shiftByShift x1 x2 f_15 L) fun (r_29 : Int32) (f_26 : sg_F) =>
            ((r_29 : Int32), f_26)) else (
            (((-2) : Int32), f_15))) else (
          ((r_18 : Int32), f_15)))) else (
      (((-1) : Int32), f))) else (
    (((-1) : Int32), f))
set_option maxRecDepth 100000 in
noncomputable def sX9_oneTurning_b119 (rec_49 : Int32 → Int32 → Int32 → Int32 → Int32 → Int32 → Int32 → sg_F → sg_L → Int32 × sg_F) (rec_64 : Int32 → Int32 → Int32 → Int32 → Int32 → Int32 → Int32 → Int32 → sg_F → sg_L → Int32 × sg_F) (x0 : Int32) (x1 : Int32) (y10_119 : Int32) (y3_119 : Int32) (y4_119 : Int32) (y5_119 : Int32) (y6_119 : Int32) (y7_119 : Int32) (y8_119 : Int32) (y9_119 : Int32) (fp_119 : sg_F) (L : sg_L) : Int32 × sg_F :=
  spl (α := Int32) (fp_119 10 2) fun (v_1 : Int32) =>
  spl (α := Int32) (y10_119 + 1) fun (v_4 : Int32) =>
  rec_64 v_4 y3_119 y4_119 y5_119 y6_119 y7_119 y8_119 y9_119 fp_119 L
set_option maxRecDepth 100000 in
noncomputable def sX9_oneTurning_h64 (rec_49 : Int32 → Int32 → Int32 → Int32 → Int32 → Int32 → Int32 → sg_F → sg_L → Int32 × sg_F) (x0 : Int32) (x1 : Int32) (rec_64 : Int32 → Int32 → Int32 → Int32 → Int32 → Int32 → Int32 → Int32 → sg_F → sg_L → Int32 × sg_F) (y10_64 : Int32) (y3_64 : Int32) (y4_64 : Int32) (y5_64 : Int32) (y6_64 : Int32) (y7_64 : Int32) (y8_64 : Int32) (y9_64 : Int32) (fp_64 : sg_F) (L : sg_L) : Int32 × sg_F :=
  spl (α := Int32) (fp_64 10 2) fun (v_6 : Int32) =>
  if 60 < y10_64.toInt then (
    spl (α := Int32) (fp_64 11 (Int32.toNatClampNeg y9_64)) fun (v_11 : Int32) =>
    spl2 (sX0_lossAt v_11 x0 y4_64 fp_64 L) fun (r_16 : Int32) (f_13 : sg_F) =>
    spl (α := Int32) (y8_64 + r_16) fun (v_18 : Int32) =>
    spl (sX0_slipped x0 y4_64 f_13 L) fun (r_22 : Int32) =>
    spl (α := Int32) (y9_64 + 1) fun (v_24 : Int32) =>
    rec_49 y3_64 r_22 y5_64 y6_64 y7_64 v_18 v_24 f_13 L) else (
    spl (α := Int32) (y10_64 - y4_64) fun (v_26 : Int32) =>
    spl (α := Int32) (if (0 : Int32) ≤ v_26 then v_26 else 0 - v_26) fun (v_28 : Int32) =>
    spl (α := Int32) (v_28 * y3_64) fun (v_30 : Int32) =>
    spl (α := Int32) (y8_64 + v_30) fun (v_31 : Int32) =>
    spl (α := Int32) (y9_64 * 61) fun (v_32 : Int32) =>
    spl (α := Int32) (v_32 + y10_64) fun (v_34 : Int32) =>
    spl (α := Int32) (fp_64 26 (Int32.toNatClampNeg v_34)) fun (v_36 : Int32) =>
    spl (α := Int32) (v_31 + v_36) fun (v_37 : Int32) =>
    if v_37.toInt < y5_64.toInt then (
      sX9_oneTurning_b119 rec_49 rec_64 x0 x1 y10_64 y3_64 y4_64 v_37 y9_64 y10_64 y8_64 y9_64 fp_64 L) else (
      sX9_oneTurning_b119 rec_49 rec_64 x0 x1 y10_64 y3_64 y4_64 y5_64 y6_64 y7_64 y8_64 y9_64 fp_64 L))
set_option maxRecDepth 100000 in
noncomputable def sX9_oneTurning_l64 (rec_49 : Int32 → Int32 → Int32 → Int32 → Int32 → Int32 → Int32 → sg_F → sg_L → Int32 × sg_F) (x0 : Int32) (x1 : Int32) (n : Nat) : Int32 → Int32 → Int32 → Int32 → Int32 → Int32 → Int32 → Int32 → sg_F → sg_L → Int32 × sg_F :=
  Nat.rec (motive := fun _ => Int32 → Int32 → Int32 → Int32 → Int32 → Int32 → Int32 → Int32 → sg_F → sg_L → Int32 × sg_F) (fun _ _ _ _ _ _ _ _ f L => ((0 : Int32), f)) (fun _ r => sX9_oneTurning_h64 rec_49 x0 x1 r) n
set_option maxRecDepth 100000 in
noncomputable def sX9_oneTurning_h49 (x0 : Int32) (x1 : Int32) (rec_49 : Int32 → Int32 → Int32 → Int32 → Int32 → Int32 → Int32 → sg_F → sg_L → Int32 × sg_F) (y3_49 : Int32) (y4_49 : Int32) (y5_49 : Int32) (y6_49 : Int32) (y7_49 : Int32) (y8_49 : Int32) (y9_49 : Int32) (fp_49 : sg_F) (L : sg_L) : Int32 × sg_F :=
  spl (α := Int32) (fp_49 10 2) fun (v_40 : Int32) =>
  if y9_49.toInt < v_40.toInt then (
    sX9_oneTurning_l64 rec_49 x0 x1 62 0 y3_49 y4_49 y5_49 y6_49 y7_49 y8_49 y9_49 fp_49 L) else (
    if x1.toInt = 0 then (
      ((y5_49 : Int32), fp_49)) else (
      if x1.toInt = 1 then (
        ((y6_49 : Int32), fp_49)) else (
        ((y7_49 : Int32), fp_49))))
set_option maxRecDepth 100000 in
noncomputable def sX9_oneTurning_l49 (x0 : Int32) (x1 : Int32) (n : Nat) : Int32 → Int32 → Int32 → Int32 → Int32 → Int32 → Int32 → sg_F → sg_L → Int32 × sg_F :=
  Nat.rec (motive := fun _ => Int32 → Int32 → Int32 → Int32 → Int32 → Int32 → Int32 → sg_F → sg_L → Int32 × sg_F) (fun _ _ _ _ _ _ _ f L => ((0 : Int32), f)) (fun _ r => sX9_oneTurning_h49 x0 x1 r) n
set_option maxRecDepth 100000 in
noncomputable def sX9_oneTurning (x0 : Int32) (x1 : Int32) (f : sg_F) (L : sg_L) : Int32 × sg_F :=
  spl (sX9_pay x0 0 f L) fun (f_48 : sg_F) =>
  spl (sX0_priceOf x0 f_48 L) fun (r_55 : Int32) =>
  spl (α := Int32) (f_48 3 (Int32.toNatClampNeg x0)) fun (v_57 : Int32) =>
  spl (α := Int32) (f_48 26 (Int32.toNatClampNeg v_57)) fun (v_59 : Int32) =>
  sX9_oneTurning_l49 x0 x1 22 r_55 v_57 v_59 (-2) (-2) 0 0 f_48 L
set_option maxRecDepth 100000 in
noncomputable def sX11_once (x0 : Int32) (x1 : Int32) (x2 : Int32) (f : sg_F) (L : sg_L) : Int32 × sg_F :=
  spl (sX11_isShelf x0 f L) fun (r_4 : Int32) =>
  if r_4 = 1 then (
    spl (sX11_isPart x1 f L) fun (r_10 : Int32) =>
    if r_10 = 1 then (
      if x2.toInt < 0 then (
        (((-1) : Int32), f)) else (
        if 2 < x2.toInt then (
          (((-1) : Int32), f)) else (
          spl2 (sX11_readWeek x0 f L) fun (r_20 : Int32) (f_17 : sg_F) =>
          if r_20.toInt = 0 then (
            spl2 (sX9_oneTurning x1 x2 f_17 L) fun (r_27 : Int32) (f_24 : sg_F) =>
            ((r_27 : Int32), f_24)) else (
            ((r_20 : Int32), f_17))))) else (
      (((-1) : Int32), f))) else (
    (((-1) : Int32), f))
set_option maxRecDepth 100000 in
noncomputable def sX4_standAsNow_h2 (rec_2 : Int32 → sg_F → sg_L → sg_F) (y1_2 : Int32) (fp_2 : sg_F) (L : sg_L) : sg_F :=
  if y1_2.toInt < 3 then (
    spl (α := Int32) (fp_2 3 (Int32.toNatClampNeg y1_2)) fun (v_3 : Int32) =>
    spl (α := sg_F) (sg_up fp_2 14 (sgu (fp_2 14) (Int32.toNatClampNeg y1_2) v_3)) fun (f_5 : sg_F) =>
    spl (α := Int32) (y1_2 + 1) fun (v_6 : Int32) =>
    rec_2 v_6 f_5 L) else (
    (fp_2))
set_option maxRecDepth 100000 in
noncomputable def sX4_standAsNow_l2 (n : Nat) : Int32 → sg_F → sg_L → sg_F :=
  Nat.rec (motive := fun _ => Int32 → sg_F → sg_L → sg_F) (fun _ f L => (f)) (fun _ r => sX4_standAsNow_h2 r) n
set_option maxRecDepth 100000 in
noncomputable def sX4_standAsNow (f : sg_F) (L : sg_L) : sg_F :=
  sX4_standAsNow_l2 4 0 f L
set_option maxRecDepth 100000 in
noncomputable def sX4_begin_h32 (rec_32 : Int32 → sg_F → sg_L → sg_F) (y1_32 : Int32) (fp_32 : sg_F) (L : sg_L) : sg_F :=
  spl (α := Int32) (fp_32 13 5) fun (v_1 : Int32) =>
  spl (α := Int32) (fp_32 13 6) fun (v_3 : Int32) =>
  if y1_32.toInt < 8 then (
    spl (α := sg_F) (sg_up fp_32 16 (sgu (fp_32 16) (Int32.toNatClampNeg y1_32) 0)) fun (f_11 : sg_F) =>
    spl (α := Int32) (y1_32 + 1) fun (v_12 : Int32) =>
    rec_32 v_12 f_11 L) else (
    spl (sX4_standAsNow fp_32 L) fun (f_7 : sg_F) =>
    (f_7))
set_option maxRecDepth 100000 in
noncomputable def sX4_begin_l32 (n : Nat) : Int32 → sg_F → sg_L → sg_F :=
  Nat.rec (motive := fun _ => Int32 → sg_F → sg_L → sg_F) (fun _ f L => (f)) (fun _ r => sX4_begin_h32 r) n
set_option maxRecDepth 100000 in
noncomputable def sX4_begin_h12 (rec_12 : Int32 → sg_F → sg_L → sg_F) (y1_12 : Int32) (fp_12 : sg_F) (L : sg_L) : sg_F :=
  spl (α := Int32) (fp_12 13 5) fun (v_14 : Int32) =>
  spl (α := Int32) (fp_12 13 6) fun (v_16 : Int32) =>
  if y1_12.toInt < 3 then (
    spl (α := sg_F) (sg_up fp_12 15 (sgu (fp_12 15) (Int32.toNatClampNeg y1_12) 0)) fun (f_20 : sg_F) =>
    spl (α := Int32) (y1_12 + 1) fun (v_21 : Int32) =>
    rec_12 v_21 f_20 L) else (
    sX4_begin_l32 9 0 fp_12 L)
set_option maxRecDepth 100000 in
noncomputable def sX4_begin_l12 (n : Nat) : Int32 → sg_F → sg_L → sg_F :=
  Nat.rec (motive := fun _ => Int32 → sg_F → sg_L → sg_F) (fun _ f L => (f)) (fun _ r => sX4_begin_h12 r) n
set_option maxRecDepth 100000 in
noncomputable def sX4_begin (f : sg_F) (L : sg_L) : sg_F :=
  spl (α := sg_F) (sg_up f 13 (sgu (f 13) 5 0)) fun (f_23 : sg_F) =>
  spl (α := sg_F) (sg_up f_23 13 (sgu (f_23 13) 6 0)) fun (f_24 : sg_F) =>
  sX4_begin_l12 4 0 f_24 L
set_option maxRecDepth 100000 in
noncomputable def sX0_turned (x0 : Int32) (x1 : Int32) (x2 : Int32) (x3 : Int32) (f : sg_F) (L : sg_L) : Int32 :=
  spl (sX0_numberOf x0 x1 f L) fun (r_4 : Int32) =>
  spl (α := Int32) (x2 - r_4) fun (v_6 : Int32) =>
  spl (α := Int32) (if (0 : Int32) ≤ v_6 then v_6 else 0 - v_6) fun (v_8 : Int32) =>
  if x3.toInt < v_8.toInt then (
    ((r_4 : Int32))) else (
    ((x2 : Int32)))
set_option maxRecDepth 100000 in
noncomputable def sX4_turnTo (x0 : Int32) (x1 : Int32) (f : sg_F) (L : sg_L) : Int32 × sg_F :=
  spl (α := Int32) (f 14 (Int32.toNatClampNeg x0)) fun (v_1 : Int32) =>
  spl (α := Int32) (x1 - v_1) fun (v_3 : Int32) =>
  spl (α := Int32) (if (0 : Int32) ≤ v_3 then v_3 else 0 - v_3) fun (v_5 : Int32) =>
  spl (sX0_priceOf x0 f L) fun (r_10 : Int32) =>
  spl (α := Int32) (v_5 * r_10) fun (v_12 : Int32) =>
  spl (α := Int32) (f 15 (Int32.toNatClampNeg x0)) fun (v_13 : Int32) =>
  spl (α := Int32) (v_13 + v_5) fun (v_14 : Int32) =>
  spl (α := sg_F) (sg_up f 15 (sgu (f 15) (Int32.toNatClampNeg x0) v_14)) fun (f_15 : sg_F) =>
  spl (α := Int32) (f_15 13 6) fun (v_16 : Int32) =>
  spl (α := Int32) (v_16 + v_12) fun (v_17 : Int32) =>
  spl (α := sg_F) (sg_up f_15 13 (sgu (f_15 13) 6 v_17)) fun (f_18 : sg_F) =>
  spl (α := sg_F) (sg_up f_18 14 (sgu (f_18 14) (Int32.toNatClampNeg x0) x1)) fun (f_19 : sg_F) =>
  ((v_12 : Int32), f_19)
set_option maxRecDepth 100000 in
noncomputable def sX0_fetch (f : sg_F) (L : sg_L) : Int32 :=
  spl (α := Int32) (f 2 (Int32.toNatClampNeg 70)) fun (v_1 : Int32) =>
  ((v_1 : Int32))
set_option maxRecDepth 100000 in
noncomputable def sX4_comes_h28 (x0 : Int32) (rec_28 : Int32 → Int32 → sg_F → sg_L → sg_F) (y2_28 : Int32) (y3_28 : Int32) (fp_28 : sg_F) (L : sg_L) : sg_F :=
  if y3_28.toInt < 3 then (
    spl (α := Int32) (fp_28 14 (Int32.toNatClampNeg y3_28)) fun (v_3 : Int32) =>
    spl (sX0_turned x0 y3_28 v_3 y2_28 fp_28 L) fun (r_8 : Int32) =>
    spl2 (sX4_turnTo y3_28 r_8 fp_28 L) fun (r_13 : Int32) (f_10 : sg_F) =>
    spl (α := Int32) (f_10 16 (Int32.toNatClampNeg x0)) fun (v_15 : Int32) =>
    spl (sX0_fetch f_10 L) fun (r_19 : Int32) =>
    spl (α := Int32) (r_13 - r_19) fun (v_21 : Int32) =>
    spl (α := Int32) (if (0 : Int32) < v_21 then v_21 else 0) fun (v_22 : Int32) =>
    spl (α := Int32) (v_15 + v_22) fun (v_24 : Int32) =>
    spl (α := sg_F) (sg_up f_10 16 (sgu (f_10 16) (Int32.toNatClampNeg x0) v_24)) fun (f_25 : sg_F) =>
    spl (α := Int32) (f_25 14 (Int32.toNatClampNeg y3_28)) fun (v_26 : Int32) =>
    spl2 (sX0_lossAt x0 y3_28 v_26 f_25 L) fun (r_31 : Int32) (f_28 : sg_F) =>
    spl (α := Int32) (f_28 13 5) fun (v_33 : Int32) =>
    spl (α := Int32) (v_33 + r_31) fun (v_34 : Int32) =>
    spl (α := sg_F) (sg_up f_28 13 (sgu (f_28 13) 5 v_34)) fun (f_35 : sg_F) =>
    spl (α := Int32) (f_35 13 6) fun (v_36 : Int32) =>
    spl (α := Int32) (v_36 + r_31) fun (v_37 : Int32) =>
    spl (α := sg_F) (sg_up f_35 13 (sgu (f_35 13) 6 v_37)) fun (f_38 : sg_F) =>
    spl (α := Int32) (y3_28 + 1) fun (v_39 : Int32) =>
    rec_28 y2_28 v_39 f_38 L) else (
    (fp_28))
set_option maxRecDepth 100000 in
noncomputable def sX4_comes_l28 (x0 : Int32) (n : Nat) : Int32 → Int32 → sg_F → sg_L → sg_F :=
  Nat.rec (motive := fun _ => Int32 → Int32 → sg_F → sg_L → sg_F) (fun _ _ f L => (f)) (fun _ r => sX4_comes_h28 x0 r) n
set_option maxRecDepth 100000 in
noncomputable def sX4_comes (x0 : Int32) (f : sg_F) (L : sg_L) : sg_F :=
  spl (α := Int32) (f 13 7) fun (v_41 : Int32) =>
  if x0.toInt = v_41.toInt then (
    spl (α := Int32) (f 13 8) fun (v_50 : Int32) =>
    sX4_comes_l28 x0 4 v_50 0 f L) else (
    spl (sX0_numberOf x0 6 f L) fun (r_48 : Int32) =>
    sX4_comes_l28 x0 4 r_48 0 f L)
set_option maxRecDepth 100000 in
noncomputable def sX4_slip_h2 (rec_2 : Int32 → sg_F → sg_L → sg_F) (y1_2 : Int32) (fp_2 : sg_F) (L : sg_L) : sg_F :=
  if y1_2.toInt < 3 then (
    spl (α := Int32) (fp_2 14 (Int32.toNatClampNeg y1_2)) fun (v_3 : Int32) =>
    spl (sX0_slipped y1_2 v_3 fp_2 L) fun (r_8 : Int32) =>
    spl (α := sg_F) (sg_up fp_2 14 (sgu (fp_2 14) (Int32.toNatClampNeg y1_2) r_8)) fun (f_10 : sg_F) =>
    spl (α := Int32) (y1_2 + 1) fun (v_11 : Int32) =>
    rec_2 v_11 f_10 L) else (
    (fp_2))
set_option maxRecDepth 100000 in
noncomputable def sX4_slip_l2 (n : Nat) : Int32 → sg_F → sg_L → sg_F :=
  Nat.rec (motive := fun _ => Int32 → sg_F → sg_L → sg_F) (fun _ f L => (f)) (fun _ r => sX4_slip_h2 r) n
set_option maxRecDepth 100000 in
noncomputable def sX4_slip (f : sg_F) (L : sg_L) : sg_F :=
  sX4_slip_l2 4 0 f L
set_option maxRecDepth 100000 in
noncomputable def sX4_leaves_h2 (rec_2 : Int32 → sg_F → sg_L → sg_F) (y1_2 : Int32) (fp_2 : sg_F) (L : sg_L) : sg_F :=
  if y1_2.toInt < 3 then (
    spl (α := Int32) (fp_2 13 10) fun (v_3 : Int32) =>
    spl2 (sX4_turnTo y1_2 v_3 fp_2 L) fun (r_8 : Int32) (f_5 : sg_F) =>
    spl (α := Int32) (y1_2 + 1) fun (v_10 : Int32) =>
    rec_2 v_10 f_5 L) else (
    (fp_2))
set_option maxRecDepth 100000 in
noncomputable def sX4_leaves_l2 (n : Nat) : Int32 → sg_F → sg_L → sg_F :=
  Nat.rec (motive := fun _ => Int32 → sg_F → sg_L → sg_F) (fun _ f L => (f)) (fun _ r => sX4_leaves_h2 r) n
set_option maxRecDepth 100000 in
noncomputable def sX4_leaves (f : sg_F) (L : sg_L) : sg_F :=
  sX4_leaves_l2 4 0 f L
set_option maxRecDepth 100000 in
noncomputable def sX4_pass_b22 (x0 : Int32) (fp_22 : sg_F) (L : sg_L) : sg_F :=
  spl (sX4_slip fp_22 L) fun (f_1 : sg_F) =>
  (f_1)
set_option maxRecDepth 100000 in
noncomputable def sX4_pass (x0 : Int32) (f : sg_F) (L : sg_L) : sg_F :=
  if x0.toInt = (-1) then (
    sX4_pass_b22 x0 f L) else (
    spl (sX4_comes x0 f L) fun (f_7 : sg_F) =>
    spl (α := Int32) (f_7 13 9) fun (v_11 : Int32) =>
    if x0.toInt = v_11.toInt then (
      spl (sX4_leaves f_7 L) fun (f_15 : sg_F) =>
      sX4_pass_b22 x0 f_15 L) else (
      sX4_pass_b22 x0 f_7 L))
set_option maxRecDepth 100000 in
noncomputable def sX4_live_h6 (x0 : Int32) (rec_6 : Int32 → sg_F → sg_L → sg_F) (y2_6 : Int32) (fp_6 : sg_F) (L : sg_L) : sg_F :=
  if y2_6.toInt < x0.toInt then (
    spl (α := Int32) (fp_6 11 (Int32.toNatClampNeg y2_6)) fun (v_3 : Int32) =>
    spl (sX4_pass v_3 fp_6 L) fun (f_5 : sg_F) =>
    spl (α := Int32) (y2_6 + 1) fun (v_9 : Int32) =>
    rec_6 v_9 f_5 L) else (
    (fp_6))
set_option maxRecDepth 100000 in
noncomputable def sX4_live_l6 (x0 : Int32) (n : Nat) : Int32 → sg_F → sg_L → sg_F :=
  Nat.rec (motive := fun _ => Int32 → sg_F → sg_L → sg_F) (fun _ f L => (f)) (fun _ r => sX4_live_h6 x0 r) n
set_option maxRecDepth 100000 in
noncomputable def sX4_live (x0 : Int32) (f : sg_F) (L : sg_L) : sg_F :=
  spl (sX4_begin f L) fun (f_11 : sg_F) =>
  sX4_live_l6 x0 22 0 f_11 L
set_option maxRecDepth 100000 in
noncomputable def sX4_allTurns_h4 (rec_4 : Int32 → Int32 → sg_F → sg_L → Int32) (y1_4 : Int32) (y2_4 : Int32) (f : sg_F) (L : sg_L) : Int32 :=
  if y2_4.toInt < 3 then (
    spl (α := Int32) (f 15 (Int32.toNatClampNeg y2_4)) fun (v_3 : Int32) =>
    spl (α := Int32) (y1_4 + v_3) fun (v_4 : Int32) =>
    spl (α := Int32) (y2_4 + 1) fun (v_5 : Int32) =>
    rec_4 v_4 v_5 f L) else (
    ((y1_4 : Int32)))
set_option maxRecDepth 100000 in
noncomputable def sX4_allTurns_l4 (n : Nat) : Int32 → Int32 → sg_F → sg_L → Int32 :=
  Nat.rec (motive := fun _ => Int32 → Int32 → sg_F → sg_L → Int32) (fun _ _ f L => ((0 : Int32))) (fun _ r => sX4_allTurns_h4 r) n
set_option maxRecDepth 100000 in
noncomputable def sX4_allTurns (f : sg_F) (L : sg_L) : Int32 :=
  sX4_allTurns_l4 4 0 0 f L
set_option maxRecDepth 100000 in
noncomputable def sX11_week (x0 : Int32) (x1 : Int32) (f : sg_F) (L : sg_L) : Int32 × sg_F :=
  spl (sX11_isShelf x0 f L) fun (r_4 : Int32) =>
  if r_4 = 1 then (
    if x1.toInt < 0 then (
      (((-1) : Int32), f)) else (
      if 2 < x1.toInt then (
        (((-1) : Int32), f)) else (
        spl2 (sX11_readWeek x0 f L) fun (r_14 : Int32) (f_11 : sg_F) =>
        if r_14.toInt = 0 then (
          spl (α := Int32) (f_11 10 2) fun (v_18 : Int32) =>
          spl (sX4_live v_18 f_11 L) fun (f_20 : sg_F) =>
          if x1.toInt = 0 then (
            spl (sX4_allTurns f_20 L) fun (r_33 : Int32) =>
            ((r_33 : Int32), f_20)) else (
            if x1.toInt = 1 then (
              spl (α := Int32) (f_20 13 5) fun (v_29 : Int32) =>
              ((v_29 : Int32), f_20)) else (
              spl (α := Int32) (f_20 13 6) fun (v_28 : Int32) =>
              ((v_28 : Int32), f_20)))) else (
          ((r_14 : Int32), f_11))))) else (
    (((-1) : Int32), f))
set_option maxRecDepth 100000 in
noncomputable def sX11_stands (x0 : Int32) (x1 : Int32) (x2 : Int32) (f : sg_F) (L : sg_L) : Int32 × sg_F :=
  spl (sX11_isShelf x0 f L) fun (r_4 : Int32) =>
  if r_4 = 1 then (
    spl (sX11_isPart x1 f L) fun (r_10 : Int32) =>
    if r_10 = 1 then (
      if x2.toInt < 0 then (
        (((-1) : Int32), f)) else (
        spl2 (sX11_readWeek x0 f L) fun (r_18 : Int32) (f_15 : sg_F) =>
        if r_18.toInt = 0 then (
          spl (α := Int32) (f_15 10 2) fun (v_22 : Int32) =>
          if v_22.toInt < x2.toInt then (
            (((-1) : Int32), f_15)) else (
            spl (sX4_live x2 f_15 L) fun (f_26 : sg_F) =>
            spl (α := Int32) (f_26 14 (Int32.toNatClampNeg x1)) fun (v_30 : Int32) =>
            ((v_30 : Int32), f_26))) else (
          ((r_18 : Int32), f_15)))) else (
      (((-1) : Int32), f))) else (
    (((-1) : Int32), f))
set_option maxRecDepth 100000 in
noncomputable def sX4_bestNear_b60 (rec_13 : Int32 → Int32 → Int32 → sg_F → sg_L → Int32 × sg_F) (x0 : Int32) (x1 : Int32) (y3_60 : Int32) (y4_60 : Int32) (y5_60 : Int32) (fp_60 : sg_F) (L : sg_L) : Int32 × sg_F :=
  spl (α := Int32) (fp_60 13 7) fun (v_1 : Int32) =>
  spl (α := Int32) (y5_60 + 1) fun (v_4 : Int32) =>
  rec_13 y3_60 y4_60 v_4 fp_60 L
set_option maxRecDepth 100000 in
noncomputable def sX4_bestNear_b51 (rec_13 : Int32 → Int32 → Int32 → sg_F → sg_L → Int32 × sg_F) (x0 : Int32) (x1 : Int32) (y5_51 : Int32) (fp_51 : sg_F) (L : sg_L) : Int32 × sg_F :=
  spl (α := Int32) (fp_51 13 7) fun (v_6 : Int32) =>
  spl (α := Int32) (fp_51 13 6) fun (v_9 : Int32) =>
  sX4_bestNear_b60 rec_13 x0 x1 y5_51 v_9 y5_51 fp_51 L
set_option maxRecDepth 100000 in
noncomputable def sX4_bestNear_h13 (x0 : Int32) (x1 : Int32) (rec_13 : Int32 → Int32 → Int32 → sg_F → sg_L → Int32 × sg_F) (y3_13 : Int32) (y4_13 : Int32) (y5_13 : Int32) (fp_13 : sg_F) (L : sg_L) : Int32 × sg_F :=
  spl (α := Int32) (fp_13 13 7) fun (v_10 : Int32) =>
  if 60 < y5_13.toInt then (
    spl (α := sg_F) (sg_up fp_13 13 (sgu (fp_13 13) 7 (-1))) fun (f_15 : sg_F) =>
    if x1.toInt = 0 then (
      ((y3_13 : Int32), f_15)) else (
      ((y4_13 : Int32), f_15))) else (
    spl (α := sg_F) (sg_up fp_13 13 (sgu (fp_13 13) 8 y5_13)) fun (f_18 : sg_F) =>
    spl (α := Int32) (f_18 10 2) fun (v_19 : Int32) =>
    spl (sX4_live v_19 f_18 L) fun (f_21 : sg_F) =>
    if y5_13.toInt = 0 then (
      sX4_bestNear_b51 rec_13 x0 x1 y5_13 f_21 L) else (
      spl (α := Int32) (f_21 13 6) fun (v_27 : Int32) =>
      if v_27.toInt < y4_13.toInt then (
        sX4_bestNear_b51 rec_13 x0 x1 y5_13 f_21 L) else (
        sX4_bestNear_b60 rec_13 x0 x1 y3_13 y4_13 y5_13 f_21 L)))
set_option maxRecDepth 100000 in
noncomputable def sX4_bestNear_l13 (x0 : Int32) (x1 : Int32) (n : Nat) : Int32 → Int32 → Int32 → sg_F → sg_L → Int32 × sg_F :=
  Nat.rec (motive := fun _ => Int32 → Int32 → Int32 → sg_F → sg_L → Int32 × sg_F) (fun _ _ _ f L => ((0 : Int32), f)) (fun _ r => sX4_bestNear_h13 x0 x1 r) n
set_option maxRecDepth 100000 in
noncomputable def sX4_bestNear (x0 : Int32) (x1 : Int32) (f : sg_F) (L : sg_L) : Int32 × sg_F :=
  spl (α := sg_F) (sg_up f 13 (sgu (f 13) 7 x0)) fun (f_30 : sg_F) =>
  sX4_bestNear_l13 x0 x1 62 0 0 0 f_30 L
set_option maxRecDepth 100000 in
noncomputable def sX11_pays (x0 : Int32) (x1 : Int32) (x2 : Int32) (f : sg_F) (L : sg_L) : Int32 × sg_F :=
  spl (sX11_isShelf x0 f L) fun (r_4 : Int32) =>
  if r_4 = 1 then (
    spl (α := Int32) (f 1 3) fun (v_7 : Int32) =>
    spl (sX0_has x1 f L) fun (r_14 : Int32) =>
    if r_14 = 1 then (
      if x2.toInt < 0 then (
        (((-1) : Int32), f)) else (
        if 1 < x2.toInt then (
          (((-1) : Int32), f)) else (
          spl2 (sX11_readWeek x0 f L) fun (r_24 : Int32) (f_21 : sg_F) =>
          if r_24.toInt = 0 then (
            spl2 (sX4_bestNear x1 x2 f_21 L) fun (r_31 : Int32) (f_28 : sg_F) =>
            ((r_31 : Int32), f_28)) else (
            ((r_24 : Int32), f_21))))) else (
      (((-1) : Int32), f))) else (
    (((-1) : Int32), f))
set_option maxRecDepth 100000 in
noncomputable def sJ6_bitCount_0f7a4 (x0 : Int32) (f : sg_F) (L : sg_L) : Int32 :=
  spl (α := Int32) ((Int32.toUInt32 x0 >>> (Int32.toUInt32 1 &&& Int32.toUInt32 31)).toInt32) fun (v_1 : Int32) =>
  spl (α := Int32) (v_1 &&& 1431655765) fun (v_2 : Int32) =>
  spl (α := Int32) (x0 - v_2) fun (v_3 : Int32) =>
  spl (α := Int32) (v_3 &&& 858993459) fun (v_4 : Int32) =>
  spl (α := Int32) ((Int32.toUInt32 v_3 >>> (Int32.toUInt32 2 &&& Int32.toUInt32 31)).toInt32) fun (v_5 : Int32) =>
  spl (α := Int32) (v_5 &&& 858993459) fun (v_6 : Int32) =>
  spl (α := Int32) (v_4 + v_6) fun (v_7 : Int32) =>
  spl (α := Int32) ((Int32.toUInt32 v_7 >>> (Int32.toUInt32 4 &&& Int32.toUInt32 31)).toInt32) fun (v_8 : Int32) =>
  spl (α := Int32) (v_7 + v_8) fun (v_9 : Int32) =>
  spl (α := Int32) (v_9 &&& 252645135) fun (v_10 : Int32) =>
  spl (α := Int32) ((Int32.toUInt32 v_10 >>> (Int32.toUInt32 8 &&& Int32.toUInt32 31)).toInt32) fun (v_11 : Int32) =>
  spl (α := Int32) (v_10 + v_11) fun (v_12 : Int32) =>
  spl (α := Int32) ((Int32.toUInt32 v_12 >>> (Int32.toUInt32 16 &&& Int32.toUInt32 31)).toInt32) fun (v_13 : Int32) =>
  spl (α := Int32) (v_12 + v_13) fun (v_14 : Int32) =>
  spl (α := Int32) (v_14 &&& 63) fun (v_15 : Int32) =>
  ((v_15 : Int32))
set_option maxRecDepth 100000 in
noncomputable def sX4_sparedBy_b27 (rec_4 : Int32 → Int32 → sg_F → sg_L → Int32) (x0 : Int32) (y2_27 : Int32) (y3_27 : Int32) (f : sg_F) (L : sg_L) : Int32 :=
  spl (α := Int32) (y3_27 + 1) fun (v_1 : Int32) =>
  rec_4 y2_27 v_1 f L
set_option maxRecDepth 100000 in
noncomputable def sX4_sparedBy_h4 (x0 : Int32) (rec_4 : Int32 → Int32 → sg_F → sg_L → Int32) (y2_4 : Int32) (y3_4 : Int32) (f : sg_F) (L : sg_L) : Int32 :=
  if y3_4.toInt < 8 then (
    spl (α := Int32) (x0 >>> (y3_4 &&& 31)) fun (v_5 : Int32) =>
    spl (α := Int32) (v_5 &&& 1) fun (v_6 : Int32) =>
    if v_6.toInt = 0 then (
      sX4_sparedBy_b27 rec_4 x0 y2_4 y3_4 f L) else (
      spl (α := Int32) (f 16 (Int32.toNatClampNeg y3_4)) fun (v_10 : Int32) =>
      spl (α := Int32) (y2_4 + v_10) fun (v_11 : Int32) =>
      sX4_sparedBy_b27 rec_4 x0 v_11 y3_4 f L)) else (
    ((y2_4 : Int32)))
set_option maxRecDepth 100000 in
noncomputable def sX4_sparedBy_l4 (x0 : Int32) (n : Nat) : Int32 → Int32 → sg_F → sg_L → Int32 :=
  Nat.rec (motive := fun _ => Int32 → Int32 → sg_F → sg_L → Int32) (fun _ _ f L => ((0 : Int32))) (fun _ r => sX4_sparedBy_h4 x0 r) n
set_option maxRecDepth 100000 in
noncomputable def sX4_sparedBy (x0 : Int32) (f : sg_F) (L : sg_L) : Int32 :=
  sX4_sparedBy_l4 x0 9 0 0 f L
set_option maxRecDepth 100000 in
noncomputable def sX4_bestMemories_b96 (rec_19 : Int32 → Int32 → Int32 → sg_F → sg_L → Int32 × sg_F) (x0 : Int32) (x1 : Int32) (y3_96 : Int32) (y4_96 : Int32) (y5_96 : Int32) (fp_96 : sg_F) (L : sg_L) : Int32 × sg_F :=
  spl (α := Int32) (y5_96 + 1) fun (v_1 : Int32) =>
  rec_19 y3_96 y4_96 v_1 fp_96 L
set_option maxRecDepth 100000 in
noncomputable def sX4_bestMemories_b89 (rec_19 : Int32 → Int32 → Int32 → sg_F → sg_L → Int32 × sg_F) (x0 : Int32) (x1 : Int32) (y5_89 : Int32) (y7_89 : Int32) (fp_89 : sg_F) (L : sg_L) : Int32 × sg_F :=
  sX4_bestMemories_b96 rec_19 x0 x1 y5_89 y7_89 y5_89 fp_89 L
set_option maxRecDepth 100000 in
noncomputable def sX4_bestMemories_b68 (rec_19 : Int32 → Int32 → Int32 → sg_F → sg_L → Int32 × sg_F) (x0 : Int32) (x1 : Int32) (y3_68 : Int32) (y4_68 : Int32) (y5_68 : Int32) (y6_68 : Int32) (y7_68 : Int32) (fp_68 : sg_F) (L : sg_L) : Int32 × sg_F :=
  if x0.toInt < y6_68.toInt then (
    sX4_bestMemories_b96 rec_19 x0 x1 y3_68 y4_68 y5_68 fp_68 L) else (
    if y4_68.toInt < y7_68.toInt then (
      sX4_bestMemories_b89 rec_19 x0 x1 y5_68 y7_68 fp_68 L) else (
      sX4_bestMemories_b96 rec_19 x0 x1 y3_68 y4_68 y5_68 fp_68 L))
set_option maxRecDepth 100000 in
noncomputable def sX4_bestMemories_h19 (x0 : Int32) (x1 : Int32) (rec_19 : Int32 → Int32 → Int32 → sg_F → sg_L → Int32 × sg_F) (y3_19 : Int32) (y4_19 : Int32) (y5_19 : Int32) (fp_19 : sg_F) (L : sg_L) : Int32 × sg_F :=
  spl (α := Int32) (fp_19 1 3) fun (v_7 : Int32) =>
  spl (α := Int32) ((1 : Int32) <<< ((v_7 : Int32) &&& 31)) fun (v_9 : Int32) =>
  if y5_19.toInt < v_9.toInt then (
    spl (sJ6_bitCount_0f7a4 y5_19 fp_19 L) fun (r_20 : Int32) =>
    spl (sX4_sparedBy y5_19 fp_19 L) fun (r_25 : Int32) =>
    if r_25.toInt = y4_19.toInt then (
      spl (sJ6_bitCount_0f7a4 y3_19 fp_19 L) fun (r_32 : Int32) =>
      if r_20.toInt < r_32.toInt then (
        if x0.toInt < r_20.toInt then (
          sX4_bestMemories_b96 rec_19 x0 x1 y3_19 y4_19 y5_19 fp_19 L) else (
          if y4_19.toInt < r_25.toInt then (
            sX4_bestMemories_b89 rec_19 x0 x1 y5_19 r_25 fp_19 L) else (
            sX4_bestMemories_b89 rec_19 x0 x1 y5_19 r_25 fp_19 L))) else (
        sX4_bestMemories_b68 rec_19 x0 x1 y3_19 y4_19 y5_19 r_20 r_25 fp_19 L)) else (
      sX4_bestMemories_b68 rec_19 x0 x1 y3_19 y4_19 y5_19 r_20 r_25 fp_19 L)) else (
    if x1.toInt = 0 then (
      ((y3_19 : Int32), fp_19)) else (
      spl (α := Int32) (fp_19 13 6) fun (v_15 : Int32) =>
      spl (α := Int32) (v_15 - y4_19) fun (v_16 : Int32) =>
      ((v_16 : Int32), fp_19)))
set_option maxRecDepth 100000 in
noncomputable def sX4_bestMemories_l19 (x0 : Int32) (x1 : Int32) (n : Nat) : Int32 → Int32 → Int32 → sg_F → sg_L → Int32 × sg_F :=
  Nat.rec (motive := fun _ => Int32 → Int32 → Int32 → sg_F → sg_L → Int32 × sg_F) (fun _ _ _ f L => ((0 : Int32), f)) (fun _ r => sX4_bestMemories_h19 x0 x1 r) n
set_option maxRecDepth 100000 in
noncomputable def sX4_bestMemories (x0 : Int32) (x1 : Int32) (f : sg_F) (L : sg_L) : Int32 × sg_F :=
  spl (α := Int32) (f 10 2) fun (v_40 : Int32) =>
  spl (sX4_live v_40 f L) fun (f_42 : sg_F) =>
  sX4_bestMemories_l19 x0 x1 256 0 0 1 f_42 L
set_option maxRecDepth 100000 in
noncomputable def sX11_memories (x0 : Int32) (x1 : Int32) (x2 : Int32) (f : sg_F) (L : sg_L) : Int32 × sg_F :=
  spl (sX11_isShelf x0 f L) fun (r_4 : Int32) =>
  if r_4 = 1 then (
    if x1.toInt < 0 then (
      (((-1) : Int32), f)) else (
      if 3 < x1.toInt then (
        (((-1) : Int32), f)) else (
        if x2.toInt < 0 then (
          (((-1) : Int32), f)) else (
          if 1 < x2.toInt then (
            (((-1) : Int32), f)) else (
            spl2 (sX11_readWeek x0 f L) fun (r_18 : Int32) (f_15 : sg_F) =>
            if r_18.toInt = 0 then (
              spl2 (sX4_bestMemories x1 x2 f_15 L) fun (r_25 : Int32) (f_22 : sg_F) =>
              ((r_25 : Int32), f_22)) else (
              ((r_18 : Int32), f_15))))))) else (
    (((-1) : Int32), f))
set_option maxRecDepth 100000 in
noncomputable def sX4_savedByMarks_h15 (rec_15 : Int32 → Int32 → sg_F → sg_L → Int32 × sg_F) (y1_15 : Int32) (y2_15 : Int32) (fp_15 : sg_F) (L : sg_L) : Int32 × sg_F :=
  if y2_15.toInt < 3 then (
    spl (sX0_priceOf y2_15 fp_15 L) fun (r_6 : Int32) =>
    spl (α := Int32) (fp_15 15 (Int32.toNatClampNeg y2_15)) fun (v_8 : Int32) =>
    spl (α := Int32) (r_6 / 2) fun (v_9 : Int32) =>
    spl (α := Int32) (r_6 - v_9) fun (v_11 : Int32) =>
    spl (α := Int32) (v_8 * v_11) fun (v_13 : Int32) =>
    spl (α := Int32) (y1_15 + v_13) fun (v_14 : Int32) =>
    spl (α := Int32) (y2_15 + 1) fun (v_15 : Int32) =>
    rec_15 v_14 v_15 fp_15 L) else (
    ((y1_15 : Int32), fp_15))
set_option maxRecDepth 100000 in
noncomputable def sX4_savedByMarks_l15 (n : Nat) : Int32 → Int32 → sg_F → sg_L → Int32 × sg_F :=
  Nat.rec (motive := fun _ => Int32 → Int32 → sg_F → sg_L → Int32 × sg_F) (fun _ _ f L => ((0 : Int32), f)) (fun _ r => sX4_savedByMarks_h15 r) n
set_option maxRecDepth 100000 in
noncomputable def sX4_savedByMarks (f : sg_F) (L : sg_L) : Int32 × sg_F :=
  spl (α := Int32) (f 10 2) fun (v_17 : Int32) =>
  spl (sX4_live v_17 f L) fun (f_19 : sg_F) =>
  sX4_savedByMarks_l15 4 0 0 f_19 L
set_option maxRecDepth 100000 in
noncomputable def sX11_marked (x0 : Int32) (f : sg_F) (L : sg_L) : Int32 × sg_F :=
  spl (sX11_isShelf x0 f L) fun (r_4 : Int32) =>
  if r_4 = 1 then (
    spl2 (sX11_readWeek x0 f L) fun (r_10 : Int32) (f_7 : sg_F) =>
    if r_10.toInt = 0 then (
      spl2 (sX4_savedByMarks f_7 L) fun (r_17 : Int32) (f_14 : sg_F) =>
      ((r_17 : Int32), f_14)) else (
      ((r_10 : Int32), f_7))) else (
    (((-1) : Int32), f))
set_option maxRecDepth 100000 in
noncomputable def sX8_gather_b45 (rec_7 : Int32 → sg_F → sg_L → sg_F) (y1_45 : Int32) (fp_45 : sg_F) (L : sg_L) : sg_F :=
  spl (α := Int32) (fp_45 17 9) fun (v_4 : Int32) =>
  spl (α := Int32) (y1_45 + 1) fun (v_7 : Int32) =>
  rec_7 v_7 fp_45 L
set_option maxRecDepth 100000 in
noncomputable def sX8_gather_h7 (rec_7 : Int32 → sg_F → sg_L → sg_F) (y1_7 : Int32) (fp_7 : sg_F) (L : sg_L) : sg_F :=
  spl (α := Int32) (fp_7 17 9) fun (v_9 : Int32) =>
  if y1_7.toInt < 8 then (
    spl (α := Int32) (fp_7 12 (Int32.toNatClampNeg y1_7)) fun (v_14 : Int32) =>
    if 0 < v_14.toInt then (
      spl (α := sg_F) (sg_up fp_7 20 (sgu (fp_7 20) (Int32.toNatClampNeg v_9) y1_7)) fun (f_17 : sg_F) =>
      spl (α := Int32) (v_9 + 1) fun (v_18 : Int32) =>
      spl (α := sg_F) (sg_up f_17 17 (sgu (f_17 17) 9 v_18)) fun (f_20 : sg_F) =>
      sX8_gather_b45 rec_7 y1_7 f_20 L) else (
      sX8_gather_b45 rec_7 y1_7 fp_7 L)) else (
    (fp_7))
set_option maxRecDepth 100000 in
noncomputable def sX8_gather_l7 (n : Nat) : Int32 → sg_F → sg_L → sg_F :=
  Nat.rec (motive := fun _ => Int32 → sg_F → sg_L → sg_F) (fun _ f L => (f)) (fun _ r => sX8_gather_h7 r) n
set_option maxRecDepth 100000 in
noncomputable def sX8_gather (f : sg_F) (L : sg_L) : sg_F :=
  spl (α := Int32) (f 17 9) fun (v_1 : Int32) =>
  spl (α := sg_F) (sg_up f 17 (sgu (f 17) 9 0)) fun (f_21 : sg_F) =>
  sX8_gather_l7 9 0 f_21 L
set_option maxRecDepth 100000 in
noncomputable def sX8_sumGroupsUpTo_0_h5 (x1 : Int32) (x2 : Int32) (rec_5 : Int32 → sg_F → sg_L → sg_F) (y4_5 : Int32) (fp_5 : sg_F) (L : sg_L) : sg_F :=
  if y4_5.toInt < 2 then (
    spl (α := Int32) (y4_5 - 1) fun (v_3 : Int32) =>
    spl (α := Int32) (fp_5 21 (Int32.toNatClampNeg v_3)) fun (v_5 : Int32) =>
    spl (α := Int32) (v_5 + x1) fun (v_6 : Int32) =>
    spl (α := sg_F) (sg_up fp_5 21 (sgu (fp_5 21) (Int32.toNatClampNeg y4_5) v_6)) fun (f_7 : sg_F) =>
    if x2.toInt = 0 then (
      spl (α := Int32) (f_7 22 (Int32.toNatClampNeg y4_5)) fun (v_10 : Int32) =>
      spl (α := Int32) (if (v_6 : Int32) < v_10 then v_6 else v_10) fun (v_11 : Int32) =>
      spl (α := sg_F) (sg_up f_7 22 (sgu (f_7 22) (Int32.toNatClampNeg y4_5) v_11)) fun (f_13 : sg_F) =>
      spl (α := Int32) (y4_5 + 1) fun (v_14 : Int32) =>
      rec_5 v_14 f_13 L) else (
      spl (α := sg_F) (sg_up f_7 22 (sgu (f_7 22) (Int32.toNatClampNeg y4_5) v_6)) fun (f_16 : sg_F) =>
      spl (α := Int32) (y4_5 + 1) fun (v_17 : Int32) =>
      rec_5 v_17 f_16 L)) else (
    (fp_5))
set_option maxRecDepth 100000 in
noncomputable def sX8_sumGroupsUpTo_0_l5 (x1 : Int32) (x2 : Int32) (n : Nat) : Int32 → sg_F → sg_L → sg_F :=
  Nat.rec (motive := fun _ => Int32 → sg_F → sg_L → sg_F) (fun _ f L => (f)) (fun _ r => sX8_sumGroupsUpTo_0_h5 x1 x2 r) n
set_option maxRecDepth 100000 in
noncomputable def sX8_sumGroupsUpTo_0 (x1 : Int32) (x2 : Int32) (f : sg_F) (L : sg_L) : sg_F :=
  sX8_sumGroupsUpTo_0_l5 x1 x2 2 1 f L
set_option maxRecDepth 100000 in
noncomputable def sX8_sumGroupsUpTo_1_h5 (x1 : Int32) (x2 : Int32) (rec_5 : Int32 → sg_F → sg_L → sg_F) (y4_5 : Int32) (fp_5 : sg_F) (L : sg_L) : sg_F :=
  if y4_5.toInt < 4 then (
    spl (α := Int32) (y4_5 - 2) fun (v_3 : Int32) =>
    spl (α := Int32) (fp_5 21 (Int32.toNatClampNeg v_3)) fun (v_5 : Int32) =>
    spl (α := Int32) (v_5 + x1) fun (v_6 : Int32) =>
    spl (α := sg_F) (sg_up fp_5 21 (sgu (fp_5 21) (Int32.toNatClampNeg y4_5) v_6)) fun (f_7 : sg_F) =>
    if x2.toInt = 0 then (
      spl (α := Int32) (f_7 22 (Int32.toNatClampNeg y4_5)) fun (v_10 : Int32) =>
      spl (α := Int32) (if (v_6 : Int32) < v_10 then v_6 else v_10) fun (v_11 : Int32) =>
      spl (α := sg_F) (sg_up f_7 22 (sgu (f_7 22) (Int32.toNatClampNeg y4_5) v_11)) fun (f_13 : sg_F) =>
      spl (α := Int32) (y4_5 + 1) fun (v_14 : Int32) =>
      rec_5 v_14 f_13 L) else (
      spl (α := sg_F) (sg_up f_7 22 (sgu (f_7 22) (Int32.toNatClampNeg y4_5) v_6)) fun (f_16 : sg_F) =>
      spl (α := Int32) (y4_5 + 1) fun (v_17 : Int32) =>
      rec_5 v_17 f_16 L)) else (
    (fp_5))
set_option maxRecDepth 100000 in
noncomputable def sX8_sumGroupsUpTo_1_l5 (x1 : Int32) (x2 : Int32) (n : Nat) : Int32 → sg_F → sg_L → sg_F :=
  Nat.rec (motive := fun _ => Int32 → sg_F → sg_L → sg_F) (fun _ f L => (f)) (fun _ r => sX8_sumGroupsUpTo_1_h5 x1 x2 r) n
set_option maxRecDepth 100000 in
noncomputable def sX8_sumGroupsUpTo_1 (x1 : Int32) (x2 : Int32) (f : sg_F) (L : sg_L) : sg_F :=
  sX8_sumGroupsUpTo_1_l5 x1 x2 3 2 f L
set_option maxRecDepth 100000 in
noncomputable def sX8_sumGroupsUpTo_2_h5 (x1 : Int32) (x2 : Int32) (rec_5 : Int32 → sg_F → sg_L → sg_F) (y4_5 : Int32) (fp_5 : sg_F) (L : sg_L) : sg_F :=
  if y4_5.toInt < 8 then (
    spl (α := Int32) (y4_5 - 4) fun (v_3 : Int32) =>
    spl (α := Int32) (fp_5 21 (Int32.toNatClampNeg v_3)) fun (v_5 : Int32) =>
    spl (α := Int32) (v_5 + x1) fun (v_6 : Int32) =>
    spl (α := sg_F) (sg_up fp_5 21 (sgu (fp_5 21) (Int32.toNatClampNeg y4_5) v_6)) fun (f_7 : sg_F) =>
    if x2.toInt = 0 then (
      spl (α := Int32) (f_7 22 (Int32.toNatClampNeg y4_5)) fun (v_10 : Int32) =>
      spl (α := Int32) (if (v_6 : Int32) < v_10 then v_6 else v_10) fun (v_11 : Int32) =>
      spl (α := sg_F) (sg_up f_7 22 (sgu (f_7 22) (Int32.toNatClampNeg y4_5) v_11)) fun (f_13 : sg_F) =>
      spl (α := Int32) (y4_5 + 1) fun (v_14 : Int32) =>
      rec_5 v_14 f_13 L) else (
      spl (α := sg_F) (sg_up f_7 22 (sgu (f_7 22) (Int32.toNatClampNeg y4_5) v_6)) fun (f_16 : sg_F) =>
      spl (α := Int32) (y4_5 + 1) fun (v_17 : Int32) =>
      rec_5 v_17 f_16 L)) else (
    (fp_5))
set_option maxRecDepth 100000 in
noncomputable def sX8_sumGroupsUpTo_2_l5 (x1 : Int32) (x2 : Int32) (n : Nat) : Int32 → sg_F → sg_L → sg_F :=
  Nat.rec (motive := fun _ => Int32 → sg_F → sg_L → sg_F) (fun _ f L => (f)) (fun _ r => sX8_sumGroupsUpTo_2_h5 x1 x2 r) n
set_option maxRecDepth 100000 in
noncomputable def sX8_sumGroupsUpTo_2 (x1 : Int32) (x2 : Int32) (f : sg_F) (L : sg_L) : sg_F :=
  sX8_sumGroupsUpTo_2_l5 x1 x2 5 4 f L
set_option maxRecDepth 100000 in
noncomputable def sX8_sumGroupsUpTo_3_h5 (x1 : Int32) (x2 : Int32) (rec_5 : Int32 → sg_F → sg_L → sg_F) (y4_5 : Int32) (fp_5 : sg_F) (L : sg_L) : sg_F :=
  if y4_5.toInt < 16 then (
    spl (α := Int32) (y4_5 - 8) fun (v_3 : Int32) =>
    spl (α := Int32) (fp_5 21 (Int32.toNatClampNeg v_3)) fun (v_5 : Int32) =>
    spl (α := Int32) (v_5 + x1) fun (v_6 : Int32) =>
    spl (α := sg_F) (sg_up fp_5 21 (sgu (fp_5 21) (Int32.toNatClampNeg y4_5) v_6)) fun (f_7 : sg_F) =>
    if x2.toInt = 0 then (
      spl (α := Int32) (f_7 22 (Int32.toNatClampNeg y4_5)) fun (v_10 : Int32) =>
      spl (α := Int32) (if (v_6 : Int32) < v_10 then v_6 else v_10) fun (v_11 : Int32) =>
      spl (α := sg_F) (sg_up f_7 22 (sgu (f_7 22) (Int32.toNatClampNeg y4_5) v_11)) fun (f_13 : sg_F) =>
      spl (α := Int32) (y4_5 + 1) fun (v_14 : Int32) =>
      rec_5 v_14 f_13 L) else (
      spl (α := sg_F) (sg_up f_7 22 (sgu (f_7 22) (Int32.toNatClampNeg y4_5) v_6)) fun (f_16 : sg_F) =>
      spl (α := Int32) (y4_5 + 1) fun (v_17 : Int32) =>
      rec_5 v_17 f_16 L)) else (
    (fp_5))
set_option maxRecDepth 100000 in
noncomputable def sX8_sumGroupsUpTo_3_l5 (x1 : Int32) (x2 : Int32) (n : Nat) : Int32 → sg_F → sg_L → sg_F :=
  Nat.rec (motive := fun _ => Int32 → sg_F → sg_L → sg_F) (fun _ f L => (f)) (fun _ r => sX8_sumGroupsUpTo_3_h5 x1 x2 r) n
set_option maxRecDepth 100000 in
noncomputable def sX8_sumGroupsUpTo_3 (x1 : Int32) (x2 : Int32) (f : sg_F) (L : sg_L) : sg_F :=
  sX8_sumGroupsUpTo_3_l5 x1 x2 9 8 f L
set_option maxRecDepth 100000 in
noncomputable def sX8_sumGroupsUpTo_4_h5 (x1 : Int32) (x2 : Int32) (rec_5 : Int32 → sg_F → sg_L → sg_F) (y4_5 : Int32) (fp_5 : sg_F) (L : sg_L) : sg_F :=
  if y4_5.toInt < 32 then (
    spl (α := Int32) (y4_5 - 16) fun (v_3 : Int32) =>
    spl (α := Int32) (fp_5 21 (Int32.toNatClampNeg v_3)) fun (v_5 : Int32) =>
    spl (α := Int32) (v_5 + x1) fun (v_6 : Int32) =>
    spl (α := sg_F) (sg_up fp_5 21 (sgu (fp_5 21) (Int32.toNatClampNeg y4_5) v_6)) fun (f_7 : sg_F) =>
    if x2.toInt = 0 then (
      spl (α := Int32) (f_7 22 (Int32.toNatClampNeg y4_5)) fun (v_10 : Int32) =>
      spl (α := Int32) (if (v_6 : Int32) < v_10 then v_6 else v_10) fun (v_11 : Int32) =>
      spl (α := sg_F) (sg_up f_7 22 (sgu (f_7 22) (Int32.toNatClampNeg y4_5) v_11)) fun (f_13 : sg_F) =>
      spl (α := Int32) (y4_5 + 1) fun (v_14 : Int32) =>
      rec_5 v_14 f_13 L) else (
      spl (α := sg_F) (sg_up f_7 22 (sgu (f_7 22) (Int32.toNatClampNeg y4_5) v_6)) fun (f_16 : sg_F) =>
      spl (α := Int32) (y4_5 + 1) fun (v_17 : Int32) =>
      rec_5 v_17 f_16 L)) else (
    (fp_5))
set_option maxRecDepth 100000 in
noncomputable def sX8_sumGroupsUpTo_4_l5 (x1 : Int32) (x2 : Int32) (n : Nat) : Int32 → sg_F → sg_L → sg_F :=
  Nat.rec (motive := fun _ => Int32 → sg_F → sg_L → sg_F) (fun _ f L => (f)) (fun _ r => sX8_sumGroupsUpTo_4_h5 x1 x2 r) n
set_option maxRecDepth 100000 in
noncomputable def sX8_sumGroupsUpTo_4 (x1 : Int32) (x2 : Int32) (f : sg_F) (L : sg_L) : sg_F :=
  sX8_sumGroupsUpTo_4_l5 x1 x2 17 16 f L
set_option maxRecDepth 100000 in
noncomputable def sX8_sumGroupsUpTo_5_h5 (x1 : Int32) (x2 : Int32) (rec_5 : Int32 → sg_F → sg_L → sg_F) (y4_5 : Int32) (fp_5 : sg_F) (L : sg_L) : sg_F :=
  if y4_5.toInt < 64 then (
    spl (α := Int32) (y4_5 - 32) fun (v_3 : Int32) =>
    spl (α := Int32) (fp_5 21 (Int32.toNatClampNeg v_3)) fun (v_5 : Int32) =>
    spl (α := Int32) (v_5 + x1) fun (v_6 : Int32) =>
    spl (α := sg_F) (sg_up fp_5 21 (sgu (fp_5 21) (Int32.toNatClampNeg y4_5) v_6)) fun (f_7 : sg_F) =>
    if x2.toInt = 0 then (
      spl (α := Int32) (f_7 22 (Int32.toNatClampNeg y4_5)) fun (v_10 : Int32) =>
      spl (α := Int32) (if (v_6 : Int32) < v_10 then v_6 else v_10) fun (v_11 : Int32) =>
      spl (α := sg_F) (sg_up f_7 22 (sgu (f_7 22) (Int32.toNatClampNeg y4_5) v_11)) fun (f_13 : sg_F) =>
      spl (α := Int32) (y4_5 + 1) fun (v_14 : Int32) =>
      rec_5 v_14 f_13 L) else (
      spl (α := sg_F) (sg_up f_7 22 (sgu (f_7 22) (Int32.toNatClampNeg y4_5) v_6)) fun (f_16 : sg_F) =>
      spl (α := Int32) (y4_5 + 1) fun (v_17 : Int32) =>
      rec_5 v_17 f_16 L)) else (
    (fp_5))
set_option maxRecDepth 100000 in
noncomputable def sX8_sumGroupsUpTo_5_l5 (x1 : Int32) (x2 : Int32) (n : Nat) : Int32 → sg_F → sg_L → sg_F :=
  Nat.rec (motive := fun _ => Int32 → sg_F → sg_L → sg_F) (fun _ f L => (f)) (fun _ r => sX8_sumGroupsUpTo_5_h5 x1 x2 r) n
set_option maxRecDepth 100000 in
noncomputable def sX8_sumGroupsUpTo_5 (x1 : Int32) (x2 : Int32) (f : sg_F) (L : sg_L) : sg_F :=
  sX8_sumGroupsUpTo_5_l5 x1 x2 33 32 f L
set_option maxRecDepth 100000 in
noncomputable def sX8_sumGroupsUpTo_6_h5 (x1 : Int32) (x2 : Int32) (rec_5 : Int32 → sg_F → sg_L → sg_F) (y4_5 : Int32) (fp_5 : sg_F) (L : sg_L) : sg_F :=
  if y4_5.toInt < 128 then (
    spl (α := Int32) (y4_5 - 64) fun (v_3 : Int32) =>
    spl (α := Int32) (fp_5 21 (Int32.toNatClampNeg v_3)) fun (v_5 : Int32) =>
    spl (α := Int32) (v_5 + x1) fun (v_6 : Int32) =>
    spl (α := sg_F) (sg_up fp_5 21 (sgu (fp_5 21) (Int32.toNatClampNeg y4_5) v_6)) fun (f_7 : sg_F) =>
    if x2.toInt = 0 then (
      spl (α := Int32) (f_7 22 (Int32.toNatClampNeg y4_5)) fun (v_10 : Int32) =>
      spl (α := Int32) (if (v_6 : Int32) < v_10 then v_6 else v_10) fun (v_11 : Int32) =>
      spl (α := sg_F) (sg_up f_7 22 (sgu (f_7 22) (Int32.toNatClampNeg y4_5) v_11)) fun (f_13 : sg_F) =>
      spl (α := Int32) (y4_5 + 1) fun (v_14 : Int32) =>
      rec_5 v_14 f_13 L) else (
      spl (α := sg_F) (sg_up f_7 22 (sgu (f_7 22) (Int32.toNatClampNeg y4_5) v_6)) fun (f_16 : sg_F) =>
      spl (α := Int32) (y4_5 + 1) fun (v_17 : Int32) =>
      rec_5 v_17 f_16 L)) else (
    (fp_5))
set_option maxRecDepth 100000 in
noncomputable def sX8_sumGroupsUpTo_6_l5 (x1 : Int32) (x2 : Int32) (n : Nat) : Int32 → sg_F → sg_L → sg_F :=
  Nat.rec (motive := fun _ => Int32 → sg_F → sg_L → sg_F) (fun _ f L => (f)) (fun _ r => sX8_sumGroupsUpTo_6_h5 x1 x2 r) n
set_option maxRecDepth 100000 in
noncomputable def sX8_sumGroupsUpTo_6 (x1 : Int32) (x2 : Int32) (f : sg_F) (L : sg_L) : sg_F :=
  sX8_sumGroupsUpTo_6_l5 x1 x2 65 64 f L
set_option maxRecDepth 100000 in
noncomputable def sX8_sumGroupsUpTo_7_h5 (x1 : Int32) (x2 : Int32) (rec_5 : Int32 → sg_F → sg_L → sg_F) (y4_5 : Int32) (fp_5 : sg_F) (L : sg_L) : sg_F :=
  if y4_5.toInt < 256 then (
    spl (α := Int32) (y4_5 - 128) fun (v_3 : Int32) =>
    spl (α := Int32) (fp_5 21 (Int32.toNatClampNeg v_3)) fun (v_5 : Int32) =>
    spl (α := Int32) (v_5 + x1) fun (v_6 : Int32) =>
    spl (α := sg_F) (sg_up fp_5 21 (sgu (fp_5 21) (Int32.toNatClampNeg y4_5) v_6)) fun (f_7 : sg_F) =>
    if x2.toInt = 0 then (
      spl (α := Int32) (f_7 22 (Int32.toNatClampNeg y4_5)) fun (v_10 : Int32) =>
      spl (α := Int32) (if (v_6 : Int32) < v_10 then v_6 else v_10) fun (v_11 : Int32) =>
      spl (α := sg_F) (sg_up f_7 22 (sgu (f_7 22) (Int32.toNatClampNeg y4_5) v_11)) fun (f_13 : sg_F) =>
      spl (α := Int32) (y4_5 + 1) fun (v_14 : Int32) =>
      rec_5 v_14 f_13 L) else (
      spl (α := sg_F) (sg_up f_7 22 (sgu (f_7 22) (Int32.toNatClampNeg y4_5) v_6)) fun (f_16 : sg_F) =>
      spl (α := Int32) (y4_5 + 1) fun (v_17 : Int32) =>
      rec_5 v_17 f_16 L)) else (
    (fp_5))
set_option maxRecDepth 100000 in
noncomputable def sX8_sumGroupsUpTo_7_l5 (x1 : Int32) (x2 : Int32) (n : Nat) : Int32 → sg_F → sg_L → sg_F :=
  Nat.rec (motive := fun _ => Int32 → sg_F → sg_L → sg_F) (fun _ f L => (f)) (fun _ r => sX8_sumGroupsUpTo_7_h5 x1 x2 r) n
set_option maxRecDepth 100000 in
noncomputable def sX8_sumGroupsUpTo_7 (x1 : Int32) (x2 : Int32) (f : sg_F) (L : sg_L) : sg_F :=
  sX8_sumGroupsUpTo_7_l5 x1 x2 129 128 f L
set_option maxRecDepth 100000 in
noncomputable def sX8_sumGroups_h10 (rec_2 : Int32 → sg_F → sg_L → sg_F) (x0 : Int32) (rec_10 : Int32 → Int32 → sg_F → sg_L → sg_F) (y2_10 : Int32) (y3_10 : Int32) (fp_10 : sg_F) (L : sg_L) : sg_F :=
  spl (α := Int32) (fp_10 17 9) fun (v_1 : Int32) =>
  if y3_10.toInt < v_1.toInt then (
    spl (α := Int32) (fp_10 20 (Int32.toNatClampNeg y3_10)) fun (v_7 : Int32) =>
    spl (α := Int32) (fp_10 12 (Int32.toNatClampNeg v_7)) fun (v_9 : Int32) =>
    spl2 (sX0_lossAt v_7 x0 y2_10 fp_10 L) fun (r_13 : Int32) (f_10 : sg_F) =>
    spl (α := Int32) (v_9 * r_13) fun (v_15 : Int32) =>
    if y2_10.toInt = 0 then (
      if y3_10.toInt = 0 then (
        spl (sX8_sumGroupsUpTo_0 v_15 1 f_10 L) fun (f_77 : sg_F) =>
        spl (α := Int32) (y3_10 + 1) fun (v_81 : Int32) =>
        rec_10 y2_10 v_81 f_77 L) else (
        if y3_10.toInt = 1 then (
          spl (sX8_sumGroupsUpTo_1 v_15 1 f_10 L) fun (f_84 : sg_F) =>
          spl (α := Int32) (y3_10 + 1) fun (v_88 : Int32) =>
          rec_10 y2_10 v_88 f_84 L) else (
          if y3_10.toInt = 2 then (
            spl (sX8_sumGroupsUpTo_2 v_15 1 f_10 L) fun (f_91 : sg_F) =>
            spl (α := Int32) (y3_10 + 1) fun (v_95 : Int32) =>
            rec_10 y2_10 v_95 f_91 L) else (
            if y3_10.toInt = 3 then (
              spl (sX8_sumGroupsUpTo_3 v_15 1 f_10 L) fun (f_98 : sg_F) =>
              spl (α := Int32) (y3_10 + 1) fun (v_102 : Int32) =>
              rec_10 y2_10 v_102 f_98 L) else (
              if y3_10.toInt = 4 then (
                spl (sX8_sumGroupsUpTo_4 v_15 1 f_10 L) fun (f_105 : sg_F) =>
                spl (α := Int32) (y3_10 + 1) fun (v_109 : Int32) =>
                rec_10 y2_10 v_109 f_105 L) else (
                if y3_10.toInt = 5 then (
                  spl (sX8_sumGroupsUpTo_5 v_15 1 f_10 L) fun (f_112 : sg_F) =>
                  spl (α := Int32) (y3_10 + 1) fun (v_116 : Int32) =>
                  rec_10 y2_10 v_116 f_112 L) else (
                  if y3_10.toInt = 6 then (
                    spl (sX8_sumGroupsUpTo_6 v_15 1 f_10 L) fun (f_119 : sg_F) =>
                    spl (α := Int32) (y3_10 + 1) fun (v_123 : Int32) =>
                    rec_10 y2_10 v_123 f_119 L) else (
                    spl (sX8_sumGroupsUpTo_7 v_15 1 f_10 L) fun (f_126 : sg_F) =>
                    spl (α := Int32) (y3_10 + 1) fun (v_130 : Int32) =>
                    rec_10 y2_10 v_130 f_126 L)))))))) else (
      if y3_10.toInt = 0 then (
        spl (sX8_sumGroupsUpTo_0 v_15 0 f_10 L) fun (f_20 : sg_F) =>
        spl (α := Int32) (y3_10 + 1) fun (v_24 : Int32) =>
        rec_10 y2_10 v_24 f_20 L) else (
        if y3_10.toInt = 1 then (
          spl (sX8_sumGroupsUpTo_1 v_15 0 f_10 L) fun (f_27 : sg_F) =>
          spl (α := Int32) (y3_10 + 1) fun (v_31 : Int32) =>
          rec_10 y2_10 v_31 f_27 L) else (
          if y3_10.toInt = 2 then (
            spl (sX8_sumGroupsUpTo_2 v_15 0 f_10 L) fun (f_34 : sg_F) =>
            spl (α := Int32) (y3_10 + 1) fun (v_38 : Int32) =>
            rec_10 y2_10 v_38 f_34 L) else (
            if y3_10.toInt = 3 then (
              spl (sX8_sumGroupsUpTo_3 v_15 0 f_10 L) fun (f_41 : sg_F) =>
              spl (α := Int32) (y3_10 + 1) fun (v_45 : Int32) =>
              rec_10 y2_10 v_45 f_41 L) else (
              if y3_10.toInt = 4 then (
                spl (sX8_sumGroupsUpTo_4 v_15 0 f_10 L) fun (f_48 : sg_F) =>
                spl (α := Int32) (y3_10 + 1) fun (v_52 : Int32) =>
                rec_10 y2_10 v_52 f_48 L) else (
                if y3_10.toInt = 5 then (
                  spl (sX8_sumGroupsUpTo_5 v_15 0 f_10 L) fun (f_55 : sg_F) =>
                  spl (α := Int32) (y3_10 + 1) fun (v_59 : Int32) =>
                  rec_10 y2_10 v_59 f_55 L) else (
                  if y3_10.toInt = 6 then (
                    spl (sX8_sumGroupsUpTo_6 v_15 0 f_10 L) fun (f_62 : sg_F) =>
                    spl (α := Int32) (y3_10 + 1) fun (v_66 : Int32) =>
                    rec_10 y2_10 v_66 f_62 L) else (
                    spl (sX8_sumGroupsUpTo_7 v_15 0 f_10 L) fun (f_69 : sg_F) =>
                    spl (α := Int32) (y3_10 + 1) fun (v_73 : Int32) =>
                    rec_10 y2_10 v_73 f_69 L))))))))) else (
    spl (α := Int32) (y2_10 + 1) fun (v_5 : Int32) =>
    rec_2 v_5 fp_10 L)
set_option maxRecDepth 100000 in
noncomputable def sX8_sumGroups_l10 (rec_2 : Int32 → sg_F → sg_L → sg_F) (x0 : Int32) (n : Nat) : Int32 → Int32 → sg_F → sg_L → sg_F :=
  Nat.rec (motive := fun _ => Int32 → Int32 → sg_F → sg_L → sg_F) (fun _ _ f L => (f)) (fun _ r => sX8_sumGroups_h10 rec_2 x0 r) n
set_option maxRecDepth 100000 in
noncomputable def sX8_sumGroups_h2 (x0 : Int32) (rec_2 : Int32 → sg_F → sg_L → sg_F) (y2_2 : Int32) (fp_2 : sg_F) (L : sg_L) : sg_F :=
  if 60 < y2_2.toInt then (
    (fp_2)) else (
    sX8_sumGroups_l10 rec_2 x0 9 y2_2 0 fp_2 L)
set_option maxRecDepth 100000 in
noncomputable def sX8_sumGroups_l2 (x0 : Int32) (n : Nat) : Int32 → sg_F → sg_L → sg_F :=
  Nat.rec (motive := fun _ => Int32 → sg_F → sg_L → sg_F) (fun _ f L => (f)) (fun _ r => sX8_sumGroups_h2 x0 r) n
set_option maxRecDepth 100000 in
noncomputable def sX8_sumGroups (x0 : Int32) (f : sg_F) (L : sg_L) : sg_F :=
  sX8_sumGroups_l2 x0 62 0 f L
set_option maxRecDepth 100000 in
noncomputable def sX8_weigh_h57 (rec_57 : Int32 → sg_F → sg_L → sg_F) (y2_57 : Int32) (fp_57 : sg_F) (L : sg_L) : sg_F :=
  spl (α := Int32) (fp_57 17 12) fun (v_1 : Int32) =>
  if y2_57.toInt < 3 then (
    spl (α := Int32) (fp_57 23 (Int32.toNatClampNeg y2_57)) fun (v_6 : Int32) =>
    spl (α := sg_F) (sg_up fp_57 24 (sgu (fp_57 24) (Int32.toNatClampNeg y2_57) v_6)) fun (f_8 : sg_F) =>
    spl (α := Int32) (y2_57 + 1) fun (v_9 : Int32) =>
    rec_57 v_9 f_8 L) else (
    (fp_57))
set_option maxRecDepth 100000 in
noncomputable def sX8_weigh_l57 (n : Nat) : Int32 → sg_F → sg_L → sg_F :=
  Nat.rec (motive := fun _ => Int32 → sg_F → sg_L → sg_F) (fun _ f L => (f)) (fun _ r => sX8_weigh_h57 r) n
set_option maxRecDepth 100000 in
noncomputable def sX8_weigh_b45 (y1_45 : Int32) (fp_45 : sg_F) (L : sg_L) : sg_F :=
  spl (α := sg_F) (sg_up fp_45 17 (sgu (fp_45 17) 12 1)) fun (f_11 : sg_F) =>
  spl (α := sg_F) (sg_up f_11 17 (sgu (f_11 17) 11 y1_45)) fun (f_12 : sg_F) =>
  sX8_weigh_l57 4 0 f_12 L
set_option maxRecDepth 100000 in
noncomputable def sX8_weigh_h4 (rec_4 : Int32 → Int32 → sg_F → sg_L → sg_F) (y1_4 : Int32) (y2_4 : Int32) (fp_4 : sg_F) (L : sg_L) : sg_F :=
  if y2_4.toInt < 3 then (
    spl (α := Int32) (fp_4 23 (Int32.toNatClampNeg y2_4)) fun (v_22 : Int32) =>
    spl (α := Int32) (fp_4 22 (Int32.toNatClampNeg v_22)) fun (v_24 : Int32) =>
    spl (α := Int32) (y1_4 + v_24) fun (v_25 : Int32) =>
    spl (α := Int32) (y2_4 + 1) fun (v_26 : Int32) =>
    rec_4 v_25 v_26 fp_4 L) else (
    spl (α := Int32) (fp_4 17 12) fun (v_15 : Int32) =>
    if v_15.toInt = 0 then (
      sX8_weigh_b45 y1_4 fp_4 L) else (
      spl (α := Int32) (fp_4 17 11) fun (v_19 : Int32) =>
      if y1_4.toInt < v_19.toInt then (
        sX8_weigh_b45 y1_4 fp_4 L) else (
        (fp_4))))
set_option maxRecDepth 100000 in
noncomputable def sX8_weigh_l4 (n : Nat) : Int32 → Int32 → sg_F → sg_L → sg_F :=
  Nat.rec (motive := fun _ => Int32 → Int32 → sg_F → sg_L → sg_F) (fun _ _ f L => (f)) (fun _ r => sX8_weigh_h4 r) n
set_option maxRecDepth 100000 in
noncomputable def sX8_weigh (f : sg_F) (L : sg_L) : sg_F :=
  sX8_weigh_l4 4 0 0 f L
set_option maxRecDepth 100000 in
noncomputable def sX8_part_8 (f : sg_F) (L : sg_L) : sg_F :=
  spl (α := Int32) (f 17 9) fun (v_1 : Int32) =>
  spl (sX8_weigh f L) fun (f_5 : sg_F) =>
  (f_5)
set_option maxRecDepth 100000 in
noncomputable def sX8_part_7_h15 (rec_15 : Int32 → sg_F → sg_L → sg_F) (y2_15 : Int32) (fp_15 : sg_F) (L : sg_L) : sg_F :=
  spl (α := Int32) (fp_15 17 9) fun (v_1 : Int32) =>
  spl (α := Int32) (fp_15 17 10) fun (v_4 : Int32) =>
  if y2_15.toInt < v_4.toInt then (
    spl (α := Int32) (fp_15 23 (Int32.toNatClampNeg y2_15)) fun (v_8 : Int32) =>
    spl (α := Int32) (v_8 ||| 128) fun (v_10 : Int32) =>
    spl (α := sg_F) (sg_up fp_15 23 (sgu (fp_15 23) (Int32.toNatClampNeg y2_15) v_10)) fun (f_12 : sg_F) =>
    spl (sX8_part_8 f_12 L) fun (f_13 : sg_F) =>
    spl (α := Int32) (f_13 23 (Int32.toNatClampNeg y2_15)) fun (v_17 : Int32) =>
    spl (α := Int32) (v_17 &&& (-129)) fun (v_19 : Int32) =>
    spl (α := sg_F) (sg_up f_13 23 (sgu (f_13 23) (Int32.toNatClampNeg y2_15) v_19)) fun (f_21 : sg_F) =>
    if v_19.toInt = 0 then (
      (f_21)) else (
      spl (α := Int32) (y2_15 + 1) fun (v_24 : Int32) =>
      rec_15 v_24 f_21 L)) else (
    (fp_15))
set_option maxRecDepth 100000 in
noncomputable def sX8_part_7_l15 (n : Nat) : Int32 → sg_F → sg_L → sg_F :=
  Nat.rec (motive := fun _ => Int32 → sg_F → sg_L → sg_F) (fun _ f L => (f)) (fun _ r => sX8_part_7_h15 r) n
set_option maxRecDepth 100000 in
noncomputable def sX8_part_7 (f : sg_F) (L : sg_L) : sg_F :=
  spl (α := Int32) (f 17 9) fun (v_26 : Int32) =>
  if 7 < v_26.toInt then (
    sX8_part_7_l15 4 0 f L) else (
    spl (sX8_weigh f L) fun (f_30 : sg_F) =>
    (f_30))
set_option maxRecDepth 100000 in
noncomputable def sX8_part_6_h15 (rec_15 : Int32 → sg_F → sg_L → sg_F) (y2_15 : Int32) (fp_15 : sg_F) (L : sg_L) : sg_F :=
  spl (α := Int32) (fp_15 17 9) fun (v_1 : Int32) =>
  spl (α := Int32) (fp_15 17 10) fun (v_4 : Int32) =>
  if y2_15.toInt < v_4.toInt then (
    spl (α := Int32) (fp_15 23 (Int32.toNatClampNeg y2_15)) fun (v_8 : Int32) =>
    spl (α := Int32) (v_8 ||| 64) fun (v_10 : Int32) =>
    spl (α := sg_F) (sg_up fp_15 23 (sgu (fp_15 23) (Int32.toNatClampNeg y2_15) v_10)) fun (f_12 : sg_F) =>
    spl (sX8_part_7 f_12 L) fun (f_13 : sg_F) =>
    spl (α := Int32) (f_13 23 (Int32.toNatClampNeg y2_15)) fun (v_17 : Int32) =>
    spl (α := Int32) (v_17 &&& (-65)) fun (v_19 : Int32) =>
    spl (α := sg_F) (sg_up f_13 23 (sgu (f_13 23) (Int32.toNatClampNeg y2_15) v_19)) fun (f_21 : sg_F) =>
    if v_19.toInt = 0 then (
      (f_21)) else (
      spl (α := Int32) (y2_15 + 1) fun (v_24 : Int32) =>
      rec_15 v_24 f_21 L)) else (
    (fp_15))
set_option maxRecDepth 100000 in
noncomputable def sX8_part_6_l15 (n : Nat) : Int32 → sg_F → sg_L → sg_F :=
  Nat.rec (motive := fun _ => Int32 → sg_F → sg_L → sg_F) (fun _ f L => (f)) (fun _ r => sX8_part_6_h15 r) n
set_option maxRecDepth 100000 in
noncomputable def sX8_part_6 (f : sg_F) (L : sg_L) : sg_F :=
  spl (α := Int32) (f 17 9) fun (v_26 : Int32) =>
  if 6 < v_26.toInt then (
    sX8_part_6_l15 4 0 f L) else (
    spl (sX8_weigh f L) fun (f_30 : sg_F) =>
    (f_30))
set_option maxRecDepth 100000 in
noncomputable def sX8_part_5_h15 (rec_15 : Int32 → sg_F → sg_L → sg_F) (y2_15 : Int32) (fp_15 : sg_F) (L : sg_L) : sg_F :=
  spl (α := Int32) (fp_15 17 9) fun (v_1 : Int32) =>
  spl (α := Int32) (fp_15 17 10) fun (v_4 : Int32) =>
  if y2_15.toInt < v_4.toInt then (
    spl (α := Int32) (fp_15 23 (Int32.toNatClampNeg y2_15)) fun (v_8 : Int32) =>
    spl (α := Int32) (v_8 ||| 32) fun (v_10 : Int32) =>
    spl (α := sg_F) (sg_up fp_15 23 (sgu (fp_15 23) (Int32.toNatClampNeg y2_15) v_10)) fun (f_12 : sg_F) =>
    spl (sX8_part_6 f_12 L) fun (f_13 : sg_F) =>
    spl (α := Int32) (f_13 23 (Int32.toNatClampNeg y2_15)) fun (v_17 : Int32) =>
    spl (α := Int32) (v_17 &&& (-33)) fun (v_19 : Int32) =>
    spl (α := sg_F) (sg_up f_13 23 (sgu (f_13 23) (Int32.toNatClampNeg y2_15) v_19)) fun (f_21 : sg_F) =>
    if v_19.toInt = 0 then (
      (f_21)) else (
      spl (α := Int32) (y2_15 + 1) fun (v_24 : Int32) =>
      rec_15 v_24 f_21 L)) else (
    (fp_15))
set_option maxRecDepth 100000 in
noncomputable def sX8_part_5_l15 (n : Nat) : Int32 → sg_F → sg_L → sg_F :=
  Nat.rec (motive := fun _ => Int32 → sg_F → sg_L → sg_F) (fun _ f L => (f)) (fun _ r => sX8_part_5_h15 r) n
set_option maxRecDepth 100000 in
noncomputable def sX8_part_5 (f : sg_F) (L : sg_L) : sg_F :=
  spl (α := Int32) (f 17 9) fun (v_26 : Int32) =>
  if 5 < v_26.toInt then (
    sX8_part_5_l15 4 0 f L) else (
    spl (sX8_weigh f L) fun (f_30 : sg_F) =>
    (f_30))
set_option maxRecDepth 100000 in
noncomputable def sX8_part_4_h15 (rec_15 : Int32 → sg_F → sg_L → sg_F) (y2_15 : Int32) (fp_15 : sg_F) (L : sg_L) : sg_F :=
  spl (α := Int32) (fp_15 17 9) fun (v_1 : Int32) =>
  spl (α := Int32) (fp_15 17 10) fun (v_4 : Int32) =>
  if y2_15.toInt < v_4.toInt then (
    spl (α := Int32) (fp_15 23 (Int32.toNatClampNeg y2_15)) fun (v_8 : Int32) =>
    spl (α := Int32) (v_8 ||| 16) fun (v_10 : Int32) =>
    spl (α := sg_F) (sg_up fp_15 23 (sgu (fp_15 23) (Int32.toNatClampNeg y2_15) v_10)) fun (f_12 : sg_F) =>
    spl (sX8_part_5 f_12 L) fun (f_13 : sg_F) =>
    spl (α := Int32) (f_13 23 (Int32.toNatClampNeg y2_15)) fun (v_17 : Int32) =>
    spl (α := Int32) (v_17 &&& (-17)) fun (v_19 : Int32) =>
    spl (α := sg_F) (sg_up f_13 23 (sgu (f_13 23) (Int32.toNatClampNeg y2_15) v_19)) fun (f_21 : sg_F) =>
    if v_19.toInt = 0 then (
      (f_21)) else (
      spl (α := Int32) (y2_15 + 1) fun (v_24 : Int32) =>
      rec_15 v_24 f_21 L)) else (
    (fp_15))
set_option maxRecDepth 100000 in
noncomputable def sX8_part_4_l15 (n : Nat) : Int32 → sg_F → sg_L → sg_F :=
  Nat.rec (motive := fun _ => Int32 → sg_F → sg_L → sg_F) (fun _ f L => (f)) (fun _ r => sX8_part_4_h15 r) n
set_option maxRecDepth 100000 in
noncomputable def sX8_part_4 (f : sg_F) (L : sg_L) : sg_F :=
  spl (α := Int32) (f 17 9) fun (v_26 : Int32) =>
  if 4 < v_26.toInt then (
    sX8_part_4_l15 4 0 f L) else (
    spl (sX8_weigh f L) fun (f_30 : sg_F) =>
    (f_30))
set_option maxRecDepth 100000 in
noncomputable def sX8_part_3_h15 (rec_15 : Int32 → sg_F → sg_L → sg_F) (y2_15 : Int32) (fp_15 : sg_F) (L : sg_L) : sg_F :=
  spl (α := Int32) (fp_15 17 9) fun (v_1 : Int32) =>
  spl (α := Int32) (fp_15 17 10) fun (v_4 : Int32) =>
  if y2_15.toInt < v_4.toInt then (
    spl (α := Int32) (fp_15 23 (Int32.toNatClampNeg y2_15)) fun (v_8 : Int32) =>
    spl (α := Int32) (v_8 ||| 8) fun (v_10 : Int32) =>
    spl (α := sg_F) (sg_up fp_15 23 (sgu (fp_15 23) (Int32.toNatClampNeg y2_15) v_10)) fun (f_12 : sg_F) =>
    spl (sX8_part_4 f_12 L) fun (f_13 : sg_F) =>
    spl (α := Int32) (f_13 23 (Int32.toNatClampNeg y2_15)) fun (v_17 : Int32) =>
    spl (α := Int32) (v_17 &&& (-9)) fun (v_19 : Int32) =>
    spl (α := sg_F) (sg_up f_13 23 (sgu (f_13 23) (Int32.toNatClampNeg y2_15) v_19)) fun (f_21 : sg_F) =>
    if v_19.toInt = 0 then (
      (f_21)) else (
      spl (α := Int32) (y2_15 + 1) fun (v_24 : Int32) =>
      rec_15 v_24 f_21 L)) else (
    (fp_15))
set_option maxRecDepth 100000 in
noncomputable def sX8_part_3_l15 (n : Nat) : Int32 → sg_F → sg_L → sg_F :=
  Nat.rec (motive := fun _ => Int32 → sg_F → sg_L → sg_F) (fun _ f L => (f)) (fun _ r => sX8_part_3_h15 r) n
set_option maxRecDepth 100000 in
noncomputable def sX8_part_3 (f : sg_F) (L : sg_L) : sg_F :=
  spl (α := Int32) (f 17 9) fun (v_26 : Int32) =>
  if 3 < v_26.toInt then (
    sX8_part_3_l15 4 0 f L) else (
    spl (sX8_weigh f L) fun (f_30 : sg_F) =>
    (f_30))
set_option maxRecDepth 100000 in
noncomputable def sX8_part_2_h15 (rec_15 : Int32 → sg_F → sg_L → sg_F) (y2_15 : Int32) (fp_15 : sg_F) (L : sg_L) : sg_F :=
  spl (α := Int32) (fp_15 17 9) fun (v_1 : Int32) =>
  spl (α := Int32) (fp_15 17 10) fun (v_4 : Int32) =>
  if y2_15.toInt < v_4.toInt then (
    spl (α := Int32) (fp_15 23 (Int32.toNatClampNeg y2_15)) fun (v_8 : Int32) =>
    spl (α := Int32) (v_8 ||| 4) fun (v_10 : Int32) =>
    spl (α := sg_F) (sg_up fp_15 23 (sgu (fp_15 23) (Int32.toNatClampNeg y2_15) v_10)) fun (f_12 : sg_F) =>
    spl (sX8_part_3 f_12 L) fun (f_13 : sg_F) =>
    spl (α := Int32) (f_13 23 (Int32.toNatClampNeg y2_15)) fun (v_17 : Int32) =>
    spl (α := Int32) (v_17 &&& (-5)) fun (v_19 : Int32) =>
    spl (α := sg_F) (sg_up f_13 23 (sgu (f_13 23) (Int32.toNatClampNeg y2_15) v_19)) fun (f_21 : sg_F) =>
    if v_19.toInt = 0 then (
      (f_21)) else (
      spl (α := Int32) (y2_15 + 1) fun (v_24 : Int32) =>
      rec_15 v_24 f_21 L)) else (
    (fp_15))
set_option maxRecDepth 100000 in
noncomputable def sX8_part_2_l15 (n : Nat) : Int32 → sg_F → sg_L → sg_F :=
  Nat.rec (motive := fun _ => Int32 → sg_F → sg_L → sg_F) (fun _ f L => (f)) (fun _ r => sX8_part_2_h15 r) n
set_option maxRecDepth 100000 in
noncomputable def sX8_part_2 (f : sg_F) (L : sg_L) : sg_F :=
  spl (α := Int32) (f 17 9) fun (v_26 : Int32) =>
  if 2 < v_26.toInt then (
    sX8_part_2_l15 4 0 f L) else (
    spl (sX8_weigh f L) fun (f_30 : sg_F) =>
    (f_30))
set_option maxRecDepth 100000 in
noncomputable def sX8_part_1_h15 (rec_15 : Int32 → sg_F → sg_L → sg_F) (y2_15 : Int32) (fp_15 : sg_F) (L : sg_L) : sg_F :=
  spl (α := Int32) (fp_15 17 9) fun (v_1 : Int32) =>
  spl (α := Int32) (fp_15 17 10) fun (v_4 : Int32) =>
  if y2_15.toInt < v_4.toInt then (
    spl (α := Int32) (fp_15 23 (Int32.toNatClampNeg y2_15)) fun (v_8 : Int32) =>
    spl (α := Int32) (v_8 ||| 2) fun (v_10 : Int32) =>
    spl (α := sg_F) (sg_up fp_15 23 (sgu (fp_15 23) (Int32.toNatClampNeg y2_15) v_10)) fun (f_12 : sg_F) =>
    spl (sX8_part_2 f_12 L) fun (f_13 : sg_F) =>
    spl (α := Int32) (f_13 23 (Int32.toNatClampNeg y2_15)) fun (v_17 : Int32) =>
    spl (α := Int32) (v_17 &&& (-3)) fun (v_19 : Int32) =>
    spl (α := sg_F) (sg_up f_13 23 (sgu (f_13 23) (Int32.toNatClampNeg y2_15) v_19)) fun (f_21 : sg_F) =>
    if v_19.toInt = 0 then (
      (f_21)) else (
      spl (α := Int32) (y2_15 + 1) fun (v_24 : Int32) =>
      rec_15 v_24 f_21 L)) else (
    (fp_15))
set_option maxRecDepth 100000 in
noncomputable def sX8_part_1_l15 (n : Nat) : Int32 → sg_F → sg_L → sg_F :=
  Nat.rec (motive := fun _ => Int32 → sg_F → sg_L → sg_F) (fun _ f L => (f)) (fun _ r => sX8_part_1_h15 r) n
set_option maxRecDepth 100000 in
noncomputable def sX8_part_1 (f : sg_F) (L : sg_L) : sg_F :=
  spl (α := Int32) (f 17 9) fun (v_26 : Int32) =>
  if 1 < v_26.toInt then (
    sX8_part_1_l15 4 0 f L) else (
    spl (sX8_weigh f L) fun (f_30 : sg_F) =>
    (f_30))
set_option maxRecDepth 100000 in
noncomputable def sX8_part_0_h15 (rec_15 : Int32 → sg_F → sg_L → sg_F) (y2_15 : Int32) (fp_15 : sg_F) (L : sg_L) : sg_F :=
  spl (α := Int32) (fp_15 17 9) fun (v_1 : Int32) =>
  spl (α := Int32) (fp_15 17 10) fun (v_4 : Int32) =>
  if y2_15.toInt < v_4.toInt then (
    spl (α := Int32) (fp_15 23 (Int32.toNatClampNeg y2_15)) fun (v_8 : Int32) =>
    spl (α := Int32) (v_8 ||| 1) fun (v_10 : Int32) =>
    spl (α := sg_F) (sg_up fp_15 23 (sgu (fp_15 23) (Int32.toNatClampNeg y2_15) v_10)) fun (f_12 : sg_F) =>
    spl (sX8_part_1 f_12 L) fun (f_13 : sg_F) =>
    spl (α := Int32) (f_13 23 (Int32.toNatClampNeg y2_15)) fun (v_17 : Int32) =>
    spl (α := Int32) (v_17 &&& (-2)) fun (v_19 : Int32) =>
    spl (α := sg_F) (sg_up f_13 23 (sgu (f_13 23) (Int32.toNatClampNeg y2_15) v_19)) fun (f_21 : sg_F) =>
    if v_19.toInt = 0 then (
      (f_21)) else (
      spl (α := Int32) (y2_15 + 1) fun (v_24 : Int32) =>
      rec_15 v_24 f_21 L)) else (
    (fp_15))
set_option maxRecDepth 100000 in
noncomputable def sX8_part_0_l15 (n : Nat) : Int32 → sg_F → sg_L → sg_F :=
  Nat.rec (motive := fun _ => Int32 → sg_F → sg_L → sg_F) (fun _ f L => (f)) (fun _ r => sX8_part_0_h15 r) n
set_option maxRecDepth 100000 in
noncomputable def sX8_part_0 (f : sg_F) (L : sg_L) : sg_F :=
  spl (α := Int32) (f 17 9) fun (v_26 : Int32) =>
  if 0 < v_26.toInt then (
    sX8_part_0_l15 4 0 f L) else (
    spl (sX8_weigh f L) fun (f_30 : sg_F) =>
    (f_30))
set_option maxRecDepth 100000 in
noncomputable def sX8_chairOf_b42 (rec_2 : Int32 → sg_F → sg_L → Int32) (rec_12 : Int32 → Int32 → sg_F → sg_L → Int32) (x0 : Int32) (y2_42 : Int32) (y3_42 : Int32) (f : sg_F) (L : sg_L) : Int32 :=
  spl (α := Int32) (f 17 9) fun (v_1 : Int32) =>
  spl (α := Int32) (y3_42 + 1) fun (v_4 : Int32) =>
  rec_12 y2_42 v_4 f L
set_option maxRecDepth 100000 in
noncomputable def sX8_chairOf_h12 (rec_2 : Int32 → sg_F → sg_L → Int32) (x0 : Int32) (rec_12 : Int32 → Int32 → sg_F → sg_L → Int32) (y2_12 : Int32) (y3_12 : Int32) (f : sg_F) (L : sg_L) : Int32 :=
  spl (α := Int32) (f 17 9) fun (v_6 : Int32) =>
  if y3_12.toInt < 3 then (
    spl (α := Int32) (f 20 (Int32.toNatClampNeg y2_12)) fun (v_13 : Int32) =>
    if v_13.toInt = x0.toInt then (
      spl (α := Int32) (f 24 (Int32.toNatClampNeg y3_12)) fun (v_17 : Int32) =>
      spl (α := Int32) (v_17 >>> (y2_12 &&& 31)) fun (v_19 : Int32) =>
      spl (α := Int32) (v_19 &&& 1) fun (v_20 : Int32) =>
      if v_20.toInt = 0 then (
        sX8_chairOf_b42 rec_2 rec_12 x0 y2_12 y3_12 f L) else (
        ((y3_12 : Int32)))) else (
      sX8_chairOf_b42 rec_2 rec_12 x0 y2_12 y3_12 f L)) else (
    spl (α := Int32) (y2_12 + 1) fun (v_11 : Int32) =>
    rec_2 v_11 f L)
set_option maxRecDepth 100000 in
noncomputable def sX8_chairOf_l12 (rec_2 : Int32 → sg_F → sg_L → Int32) (x0 : Int32) (n : Nat) : Int32 → Int32 → sg_F → sg_L → Int32 :=
  Nat.rec (motive := fun _ => Int32 → Int32 → sg_F → sg_L → Int32) (fun _ _ f L => ((0 : Int32))) (fun _ r => sX8_chairOf_h12 rec_2 x0 r) n
set_option maxRecDepth 100000 in
noncomputable def sX8_chairOf_h2 (x0 : Int32) (rec_2 : Int32 → sg_F → sg_L → Int32) (y2_2 : Int32) (f : sg_F) (L : sg_L) : Int32 :=
  spl (α := Int32) (f 17 9) fun (v_24 : Int32) =>
  if y2_2.toInt < v_24.toInt then (
    sX8_chairOf_l12 rec_2 x0 4 y2_2 0 f L) else (
    (((-2) : Int32)))
set_option maxRecDepth 100000 in
noncomputable def sX8_chairOf_l2 (x0 : Int32) (n : Nat) : Int32 → sg_F → sg_L → Int32 :=
  Nat.rec (motive := fun _ => Int32 → sg_F → sg_L → Int32) (fun _ f L => ((0 : Int32))) (fun _ r => sX8_chairOf_h2 x0 r) n
set_option maxRecDepth 100000 in
noncomputable def sX8_chairOf (x0 : Int32) (f : sg_F) (L : sg_L) : Int32 :=
  sX8_chairOf_l2 x0 9 0 f L
set_option maxRecDepth 100000 in
noncomputable def sX8_parted (x0 : Int32) (x1 : Int32) (x2 : Int32) (f : sg_F) (L : sg_L) : Int32 × sg_F :=
  spl (sX8_gather f L) fun (f_1 : sg_F) =>
  spl (sX8_sumGroups x0 f_1 L) fun (f_5 : sg_F) =>
  spl (α := sg_F) (sg_up f_5 17 (sgu (f_5 17) 12 0)) fun (f_9 : sg_F) =>
  spl (α := sg_F) (sg_up f_9 17 (sgu (f_9 17) 10 x1)) fun (f_10 : sg_F) =>
  spl (sX8_part_0 f_10 L) fun (f_11 : sg_F) =>
  if x2.toInt = (-1) then (
    spl (α := Int32) (f_11 17 11) fun (v_22 : Int32) =>
    ((v_22 : Int32), f_11)) else (
    spl (sX8_chairOf x2 f_11 L) fun (r_20 : Int32) =>
    ((r_20 : Int32), f_11))
set_option maxRecDepth 100000 in
noncomputable def sX11_chairs_b59 (x0 : Int32) (x1 : Int32) (x2 : Int32) (y4_59 : Int32) (fp_59 : sg_F) (L : sg_L) : Int32 × sg_F :=
  spl2 (sX11_readWeek x0 fp_59 L) fun (r_4 : Int32) (f_1 : sg_F) =>
  if r_4.toInt = 0 then (
    spl (α := Int32) (x1 / 10) fun (v_8 : Int32) =>
    spl2 (sX8_parted v_8 y4_59 x2 f_1 L) fun (r_13 : Int32) (f_10 : sg_F) =>
    ((r_13 : Int32), f_10)) else (
    ((r_4 : Int32), f_1))
set_option maxRecDepth 100000 in
noncomputable def sX11_chairs (x0 : Int32) (x1 : Int32) (x2 : Int32) (f : sg_F) (L : sg_L) : Int32 × sg_F :=
  spl (α := Int32) (x1 - x1 / 10 * 10) fun (v_15 : Int32) =>
  spl (sX11_isShelf x0 f L) fun (r_20 : Int32) =>
  if r_20 = 1 then (
    if x1.toInt < 0 then (
      (((-1) : Int32), f)) else (
      spl (α := Int32) (x1 / 10) fun (v_25 : Int32) =>
      spl (sX11_isPart v_25 f L) fun (r_30 : Int32) =>
      if r_30 = 1 then (
        if v_15.toInt < 1 then (
          (((-1) : Int32), f)) else (
          if 3 < v_15.toInt then (
            (((-1) : Int32), f)) else (
            if x2.toInt = (-1) then (
              sX11_chairs_b59 x0 x1 x2 v_15 f L) else (
              spl (α := Int32) (f 1 3) fun (v_39 : Int32) =>
              spl (sX0_has x2 f L) fun (r_46 : Int32) =>
              if r_46 = 1 then (
                sX11_chairs_b59 x0 x1 x2 v_15 f L) else (
                (((-1) : Int32), f)))))) else (
        (((-1) : Int32), f)))) else (
    (((-1) : Int32), f))
set_option maxRecDepth 100000 in
noncomputable def sX4_moreByWilful (x0 : Int32) (x1 : Int32) (f : sg_F) (L : sg_L) : Int32 × sg_F :=
  spl (α := Int32) (f 10 2) fun (v_1 : Int32) =>
  spl (sX4_live v_1 f L) fun (f_3 : sg_F) =>
  spl (α := Int32) (f_3 13 6) fun (v_7 : Int32) =>
  spl (α := sg_F) (sg_up f_3 13 (sgu (f_3 13) 9 x0)) fun (f_8 : sg_F) =>
  spl (α := sg_F) (sg_up f_8 13 (sgu (f_8 13) 10 x1)) fun (f_9 : sg_F) =>
  spl (sX4_live v_1 f_9 L) fun (f_10 : sg_F) =>
  spl (α := sg_F) (sg_up f_10 13 (sgu (f_10 13) 9 (-1))) fun (f_14 : sg_F) =>
  spl (α := Int32) (f_14 13 6) fun (v_15 : Int32) =>
  spl (α := Int32) (v_15 - v_7) fun (v_16 : Int32) =>
  ((v_16 : Int32), f_14)
set_option maxRecDepth 100000 in
noncomputable def sX11_wilful (x0 : Int32) (x1 : Int32) (x2 : Int32) (f : sg_F) (L : sg_L) : Int32 × sg_F :=
  spl (sX11_isShelf x0 f L) fun (r_4 : Int32) =>
  if r_4 = 1 then (
    spl (α := Int32) (f 1 3) fun (v_7 : Int32) =>
    spl (sX0_has x1 f L) fun (r_14 : Int32) =>
    if r_14 = 1 then (
      spl (sX11_isSetting x2 f L) fun (r_20 : Int32) =>
      if r_20 = 1 then (
        spl2 (sX11_readWeek x0 f L) fun (r_26 : Int32) (f_23 : sg_F) =>
        if r_26.toInt = 0 then (
          spl2 (sX4_moreByWilful x1 x2 f_23 L) fun (r_33 : Int32) (f_30 : sg_F) =>
          ((r_33 : Int32), f_30)) else (
          (((-2000000000) : Int32), f_23))) else (
        (((-2000000000) : Int32), f))) else (
      (((-2000000000) : Int32), f))) else (
    (((-2000000000) : Int32), f))
set_option maxRecDepth 100000 in
noncomputable def sX6_behindShift (x0 : Int32) (x1 : Int32) (f : sg_F) (L : sg_L) : Int32 :=
  if x0.toInt = (-1) then (
    spl (α := Int32) (f 27 2) fun (v_20 : Int32) =>
    spl (sX0_slipped v_20 x1 f L) fun (r_25 : Int32) =>
    ((r_25 : Int32))) else (
    spl (α := Int32) (f 27 2) fun (v_3 : Int32) =>
    spl (sX0_numberOf x0 6 f L) fun (r_8 : Int32) =>
    spl (sX0_turned x0 v_3 x1 r_8 f L) fun (r_13 : Int32) =>
    spl (sX0_slipped v_3 r_13 f L) fun (r_18 : Int32) =>
    ((r_18 : Int32)))
set_option maxRecDepth 100000 in
noncomputable def sX6_allBehind_b38 (rec_6 : Int64 → Int32 → sg_F → sg_L → Int64) (x0 : Int64) (x1 : Int32) (y4_38 : Int64) (y6_38 : Int32) (f : sg_F) (L : sg_L) : Int64 :=
  spl (α := Int32) (y6_38 + 1) fun (v_1 : Int32) =>
  rec_6 y4_38 v_1 f L
set_option maxRecDepth 100000 in
noncomputable def sX6_allBehind_h6 (x0 : Int64) (x1 : Int32) (rec_6 : Int64 → Int32 → sg_F → sg_L → Int64) (y4_6 : Int64) (y6_6 : Int32) (f : sg_F) (L : sg_L) : Int64 :=
  if 60 < y6_6.toInt then (
    ((y4_6 : Int64))) else (
    spl (α := Int64) ((Int64.toUInt64 (x0 : Int64) >>> (Int64.toUInt64 (Int32.toInt64 y6_6) &&& Int64.toUInt64 63)).toInt64) fun (w_5 : Int64) =>
    spl (α := Int64) (w_5 &&& 1) fun (w_6 : Int64) =>
    spl (α := Int32) (lg_cmp (w_6 : Int64) (0 : Int64)) fun (v_7 : Int32) =>
    if v_7.toInt = 0 then (
      sX6_allBehind_b38 rec_6 x0 x1 y4_6 y6_6 f L) else (
      spl (sX6_behindShift x1 y6_6 f L) fun (r_14 : Int32) =>
      spl (α := Int64) (((1 : Int64) <<< (Int32.toInt64 r_14 &&& 63))) fun (w_16 : Int64) =>
      spl (α := Int64) (y4_6 ||| w_16) fun (w_17 : Int64) =>
      sX6_allBehind_b38 rec_6 x0 x1 w_17 y6_6 f L))
set_option maxRecDepth 100000 in
noncomputable def sX6_allBehind_l6 (x0 : Int64) (x1 : Int32) (n : Nat) : Int64 → Int32 → sg_F → sg_L → Int64 :=
  Nat.rec (motive := fun _ => Int64 → Int32 → sg_F → sg_L → Int64) (fun _ _ f L => ((0 : Int64))) (fun _ r => sX6_allBehind_h6 x0 x1 r) n
set_option maxRecDepth 100000 in
noncomputable def sX6_allBehind (x0 : Int64) (x1 : Int32) (f : sg_F) (L : sg_L) : Int64 :=
  sX6_allBehind_l6 x0 x1 62 0 0 f L
set_option maxRecDepth 100000 in
noncomputable def sX6_asSeen (x0 : Int32) (t : Nat) (f : sg_F) (L : sg_L) : Int64 :=
  spl (α := Int64) (L (41 + 2 * t) (Int32.toNatClampNeg x0)) fun (w_1 : Int64) =>
  spl (α := Int32) (lg_cmp (w_1 : Int64) ((-1) : Int64)) fun (v_2 : Int32) =>
  if v_2.toInt = 0 then (
    ((2305843009213693951 : Int64))) else (
    spl (α := Int32) (lg_cmp (w_1 : Int64) (0 : Int64)) fun (v_6 : Int32) =>
    if v_6.toInt < 0 then (
      ((0 : Int64))) else (
      spl (α := Int32) (lg_cmp (w_1 : Int64) (60 : Int64)) fun (v_10 : Int32) =>
      if 0 < v_10.toInt then (
        ((0 : Int64))) else (
        spl (α := Int32) (Int64.toInt32 w_1) fun (v_14 : Int32) =>
        spl (α := Int64) (((1 : Int64) <<< (Int32.toInt64 v_14 &&& 63))) fun (w_15 : Int64) =>
        ((w_15 : Int64)))))
set_option maxRecDepth 100000 in
noncomputable def sX6_reachedAhead_h30 (rec_18 : Int64 → Int32 → sg_F → sg_L → Int64) (x0 : Int32) (t : Nat) (rec_30 : Int64 → Int32 → Int64 → Int32 → sg_F → sg_L → Int64) (y2_30 : Int64) (y4_30 : Int32) (y5_30 : Int64) (y7_30 : Int32) (f : sg_F) (L : sg_L) : Int64 :=
  spl (α := Int32) (f 1 3) fun (v_1 : Int32) =>
  if y7_30.toInt < v_1.toInt then (
    spl (sX6_allBehind y2_30 y7_30 f L) fun (r_16 : Int64) =>
    spl (α := Int64) (y5_30 ||| r_16) fun (w_18 : Int64) =>
    spl (α := Int32) (y7_30 + 1) fun (v_19 : Int32) =>
    rec_30 y2_30 y4_30 w_18 v_19 f L) else (
    spl (sX6_asSeen y4_30 t f L) fun (r_8 : Int64) =>
    spl (α := Int64) (y5_30 &&& r_8) fun (w_10 : Int64) =>
    spl (α := Int32) (y4_30 + 1) fun (v_11 : Int32) =>
    rec_18 w_10 v_11 f L)
set_option maxRecDepth 100000 in
noncomputable def sX6_reachedAhead_l30 (rec_18 : Int64 → Int32 → sg_F → sg_L → Int64) (x0 : Int32) (t : Nat) (n : Nat) : Int64 → Int32 → Int64 → Int32 → sg_F → sg_L → Int64 :=
  Nat.rec (motive := fun _ => Int64 → Int32 → Int64 → Int32 → sg_F → sg_L → Int64) (fun _ _ _ _ f L => ((0 : Int64))) (fun _ r => sX6_reachedAhead_h30 rec_18 x0 t r) n
set_option maxRecDepth 100000 in
noncomputable def sX6_reachedAhead_h18 (x0 : Int32) (t : Nat) (rec_18 : Int64 → Int32 → sg_F → sg_L → Int64) (y2_18 : Int64) (y4_18 : Int32) (f : sg_F) (L : sg_L) : Int64 :=
  if y4_18.toInt < x0.toInt then (
    sX6_reachedAhead_l30 rec_18 x0 t 10 y2_18 y4_18 0 (-1) f L) else (
    ((y2_18 : Int64)))
set_option maxRecDepth 100000 in
noncomputable def sX6_reachedAhead_l18 (x0 : Int32) (t : Nat) (n : Nat) : Int64 → Int32 → sg_F → sg_L → Int64 :=
  Nat.rec (motive := fun _ => Int64 → Int32 → sg_F → sg_L → Int64) (fun _ _ f L => ((0 : Int64))) (fun _ r => sX6_reachedAhead_h18 x0 t r) n
set_option maxRecDepth 100000 in
noncomputable def sX6_reachedAhead (x0 : Int32) (t : Nat) (f : sg_F) (L : sg_L) : Int64 :=
  spl (α := Int32) (f 27 2) fun (v_23 : Int32) =>
  spl (α := Int32) (f 3 (Int32.toNatClampNeg v_23)) fun (v_25 : Int32) =>
  spl (α := Int64) (((1 : Int64) <<< (Int32.toInt64 v_25 &&& 63))) fun (w_27 : Int64) =>
  sX6_reachedAhead_l18 x0 t 12 w_27 0 f L
set_option maxRecDepth 100000 in
noncomputable def sX6_allAhead_h15 (rec_5 : Int64 → Int32 → sg_F → sg_L → Int64) (x0 : Int64) (rec_15 : Int64 → Int32 → Int32 → sg_F → sg_L → Int64) (y3_15 : Int64) (y5_15 : Int32) (y6_15 : Int32) (f : sg_F) (L : sg_L) : Int64 :=
  spl (α := Int32) (f 1 3) fun (v_1 : Int32) =>
  if y6_15.toInt < v_1.toInt then (
    spl (sX6_behindShift y6_15 y5_15 f L) fun (r_10 : Int32) =>
    spl (α := Int64) ((Int64.toUInt64 (x0 : Int64) >>> (Int64.toUInt64 (Int32.toInt64 r_10) &&& Int64.toUInt64 63)).toInt64) fun (w_12 : Int64) =>
    spl (α := Int64) (w_12 &&& 1) fun (w_13 : Int64) =>
    spl (α := Int64) (((w_13 : Int64) <<< (Int32.toInt64 y5_15 &&& 63))) fun (w_14 : Int64) =>
    spl (α := Int64) (y3_15 ||| w_14) fun (w_15 : Int64) =>
    spl (α := Int32) (y6_15 + 1) fun (v_16 : Int32) =>
    rec_15 w_15 y5_15 v_16 f L) else (
    spl (α := Int32) (y5_15 + 1) fun (v_5 : Int32) =>
    rec_5 y3_15 v_5 f L)
set_option maxRecDepth 100000 in
noncomputable def sX6_allAhead_l15 (rec_5 : Int64 → Int32 → sg_F → sg_L → Int64) (x0 : Int64) (n : Nat) : Int64 → Int32 → Int32 → sg_F → sg_L → Int64 :=
  Nat.rec (motive := fun _ => Int64 → Int32 → Int32 → sg_F → sg_L → Int64) (fun _ _ _ f L => ((0 : Int64))) (fun _ r => sX6_allAhead_h15 rec_5 x0 r) n
set_option maxRecDepth 100000 in
noncomputable def sX6_allAhead_h5 (x0 : Int64) (rec_5 : Int64 → Int32 → sg_F → sg_L → Int64) (y3_5 : Int64) (y5_5 : Int32) (f : sg_F) (L : sg_L) : Int64 :=
  if 60 < y5_5.toInt then (
    ((y3_5 : Int64))) else (
    sX6_allAhead_l15 rec_5 x0 10 y3_5 y5_5 (-1) f L)
set_option maxRecDepth 100000 in
noncomputable def sX6_allAhead_l5 (x0 : Int64) (n : Nat) : Int64 → Int32 → sg_F → sg_L → Int64 :=
  Nat.rec (motive := fun _ => Int64 → Int32 → sg_F → sg_L → Int64) (fun _ _ f L => ((0 : Int64))) (fun _ r => sX6_allAhead_h5 x0 r) n
set_option maxRecDepth 100000 in
noncomputable def sX6_allAhead (x0 : Int64) (f : sg_F) (L : sg_L) : Int64 :=
  sX6_allAhead_l5 x0 62 0 0 f L
set_option maxRecDepth 100000 in
noncomputable def sX6_fittingBehind_h20 (x0 : Int32) (t : Nat) (rec_20 : Int64 → Int32 → sg_F → sg_L → Int64) (y2_20 : Int64) (y4_20 : Int32) (f : sg_F) (L : sg_L) : Int64 :=
  if x0.toInt < y4_20.toInt then (
    spl (sX6_asSeen y4_20 t f L) fun (r_12 : Int64) =>
    spl (α := Int64) (y2_20 &&& r_12) fun (w_14 : Int64) =>
    spl (sX6_allAhead w_14 f L) fun (r_18 : Int64) =>
    spl (α := Int32) (y4_20 + (-1)) fun (v_20 : Int32) =>
    rec_20 r_18 v_20 f L) else (
    spl (sX6_asSeen x0 t f L) fun (r_6 : Int64) =>
    spl (α := Int64) (y2_20 &&& r_6) fun (w_8 : Int64) =>
    ((w_8 : Int64)))
set_option maxRecDepth 100000 in
noncomputable def sX6_fittingBehind_l20 (x0 : Int32) (t : Nat) (n : Nat) : Int64 → Int32 → sg_F → sg_L → Int64 :=
  Nat.rec (motive := fun _ => Int64 → Int32 → sg_F → sg_L → Int64) (fun _ _ f L => ((0 : Int64))) (fun _ r => sX6_fittingBehind_h20 x0 t r) n
set_option maxRecDepth 100000 in
noncomputable def sX6_fittingBehind (x0 : Int32) (t : Nat) (f : sg_F) (L : sg_L) : Int64 :=
  spl (α := Int32) (f (40 + 2 * t) 2) fun (v_22 : Int32) =>
  spl (α := Int32) (if (v_22 : Int32) < 12 then v_22 else 12) fun (v_24 : Int32) =>
  spl (α := Int32) (v_24 - 1) fun (v_26 : Int32) =>
  sX6_fittingBehind_l20 x0 t 13 2305843009213693951 v_26 f L
set_option maxRecDepth 100000 in
noncomputable def sX6_mayHaveSat_b79 (rec_30 : Int64 → Int64 → Int32 → Int32 → sg_F → sg_L → Int32 × sg_F) (t : Nat) (x1 : Int32) (x2 : Int32) (y4_79 : Int64) (y6_79 : Int64) (y8_79 : Int32) (y9_79 : Int32) (fp_79 : sg_F) (L : sg_L) : Int32 × sg_F :=
  spl (α := Int32) (y9_79 + 1) fun (v_1 : Int32) =>
  rec_30 y4_79 y6_79 y8_79 v_1 fp_79 L
set_option maxRecDepth 100000 in
noncomputable def sX6_mayHaveSat_h30 (t : Nat) (x1 : Int32) (x2 : Int32) (rec_30 : Int64 → Int64 → Int32 → Int32 → sg_F → sg_L → Int32 × sg_F) (y4_30 : Int64) (y6_30 : Int64) (y8_30 : Int32) (y9_30 : Int32) (fp_30 : sg_F) (L : sg_L) : Int32 × sg_F :=
  spl (α := Int32) (fp_30 1 3) fun (v_3 : Int32) =>
  if y9_30.toInt < v_3.toInt then (
    spl (sX6_allBehind y4_30 y9_30 fp_30 L) fun (r_10 : Int64) =>
    spl (α := Int64) (r_10 &&& y6_30) fun (w_12 : Int64) =>
    spl (α := Int32) (lg_cmp (w_12 : Int64) (0 : Int64)) fun (v_13 : Int32) =>
    if v_13.toInt = 0 then (
      sX6_mayHaveSat_b79 rec_30 t x1 x2 y4_30 y6_30 y8_30 y9_30 fp_30 L) else (
      if y9_30.toInt = (-1) then (
        spl (α := Int32) (y8_30 ||| 256) fun (v_22 : Int32) =>
        sX6_mayHaveSat_b79 rec_30 t x1 x2 y4_30 y6_30 v_22 y9_30 fp_30 L) else (
        spl (α := Int32) ((1 : Int32) <<< ((y9_30 : Int32) &&& 31)) fun (v_19 : Int32) =>
        spl (α := Int32) (y8_30 ||| v_19) fun (v_21 : Int32) =>
        sX6_mayHaveSat_b79 rec_30 t x1 x2 y4_30 y6_30 v_21 y9_30 fp_30 L))) else (
    ((y8_30 : Int32), fp_30))
set_option maxRecDepth 100000 in
noncomputable def sX6_mayHaveSat_l30 (t : Nat) (x1 : Int32) (x2 : Int32) (n : Nat) : Int64 → Int64 → Int32 → Int32 → sg_F → sg_L → Int32 × sg_F :=
  Nat.rec (motive := fun _ => Int64 → Int64 → Int32 → Int32 → sg_F → sg_L → Int32 × sg_F) (fun _ _ _ _ f L => ((0 : Int32), f)) (fun _ r => sX6_mayHaveSat_h30 t x1 x2 r) n
set_option maxRecDepth 100000 in
noncomputable def sX6_mayHaveSat (t : Nat) (x1 : Int32) (x2 : Int32) (f : sg_F) (L : sg_L) : Int32 × sg_F :=
  spl (α := sg_F) (sg_up f 27 (sgu (f 27) 2 x1)) fun (f_24 : sg_F) =>
  spl (sX6_reachedAhead x2 t f_24 L) fun (r_28 : Int64) =>
  spl (sX6_fittingBehind x2 t f_24 L) fun (r_33 : Int64) =>
  sX6_mayHaveSat_l30 t x1 x2 10 r_28 r_33 0 (-1) f_24 L
set_option maxRecDepth 100000 in
noncomputable def sX11_who (x0 : Int32) (x1 : Int32) (x2 : Int32) (f : sg_F) (L : sg_L) : Int32 × sg_F :=
  spl (sX11_isShelf x0 f L) fun (r_4 : Int32) =>
  if r_4 = 1 then (
    spl (sX11_isPart x1 f L) fun (r_10 : Int32) =>
    if r_10 = 1 then (
      if x2.toInt < 0 then (
        (((-1) : Int32), f)) else (
        if x2.toInt < 12 then (
          spl (sX11_refusalOf x0 f L) fun (r_20 : Int32) =>
          if r_20.toInt = 0 then (
            spl (α := Nat) (x0.toNatClampNeg) fun (t_24 : Nat) =>
            spl (α := Int32) (f (40 + 2 * t_24) 2) fun (v_25 : Int32) =>
            if x2.toInt < v_25.toInt then (
              spl2 (sX6_mayHaveSat t_24 x1 x2 f L) fun (r_32 : Int32) (f_29 : sg_F) =>
              ((r_32 : Int32), f_29)) else (
              (((-1) : Int32), f))) else (
            ((r_20 : Int32), f))) else (
          (((-1) : Int32), f)))) else (
      (((-1) : Int32), f))) else (
    (((-1) : Int32), f))
set_option maxRecDepth 100000 in
noncomputable def sX11_firstUnlike_b86 (rec_25 : Int32 → Int32 → sg_F → sg_L → Int32 × sg_F) (t : Nat) (x1 : Int32) (y3_86 : Int32) (y4_86 : Int32) (fp_86 : sg_F) (L : sg_L) : Int32 × sg_F :=
  spl (α := Int32) (y4_86 + 1) fun (v_1 : Int32) =>
  rec_25 y3_86 v_1 fp_86 L
set_option maxRecDepth 100000 in
noncomputable def sX11_firstUnlike_h25 (t : Nat) (x1 : Int32) (rec_25 : Int32 → Int32 → sg_F → sg_L → Int32 × sg_F) (y3_25 : Int32) (y4_25 : Int32) (fp_25 : sg_F) (L : sg_L) : Int32 × sg_F :=
  if y4_25.toInt < y3_25.toInt then (
    spl (α := Int32) (fp_25 11 (Int32.toNatClampNeg y4_25)) fun (v_5 : Int32) =>
    spl (sX4_pass v_5 fp_25 L) fun (f_7 : sg_F) =>
    spl (α := Int64) (L (41 + 2 * t) (Int32.toNatClampNeg y4_25)) fun (w_11 : Int64) =>
    spl (α := Int32) (lg_cmp (w_11 : Int64) ((-1) : Int64)) fun (v_12 : Int32) =>
    if v_12.toInt = 0 then (
      sX11_firstUnlike_b86 rec_25 t x1 y3_25 y4_25 f_7 L) else (
      spl (α := Int32) (f_7 14 (Int32.toNatClampNeg x1)) fun (v_16 : Int32) =>
      spl (α := Int64) (Int32.toInt64 v_16) fun (w_18 : Int64) =>
      spl (α := Int32) (lg_cmp (w_11 : Int64) (w_18 : Int64)) fun (v_20 : Int32) =>
      if v_20.toInt = 0 then (
        sX11_firstUnlike_b86 rec_25 t x1 y3_25 y4_25 f_7 L) else (
        ((y4_25 : Int32), f_7)))) else (
    (((-2) : Int32), fp_25))
set_option maxRecDepth 100000 in
noncomputable def sX11_firstUnlike_l25 (t : Nat) (x1 : Int32) (n : Nat) : Int32 → Int32 → sg_F → sg_L → Int32 × sg_F :=
  Nat.rec (motive := fun _ => Int32 → Int32 → sg_F → sg_L → Int32 × sg_F) (fun _ _ f L => ((0 : Int32), f)) (fun _ r => sX11_firstUnlike_h25 t x1 r) n
set_option maxRecDepth 100000 in
noncomputable def sX11_firstUnlike (t : Nat) (x1 : Int32) (f : sg_F) (L : sg_L) : Int32 × sg_F :=
  spl (α := Int32) (f 10 2) fun (v_24 : Int32) =>
  spl (α := Int32) (f (40 + 2 * t) 2) fun (v_26 : Int32) =>
  spl (α := Int32) (if (v_26 : Int32) < v_24 then v_26 else v_24) fun (v_28 : Int32) =>
  spl (sX4_begin f L) fun (f_30 : sg_F) =>
  sX11_firstUnlike_l25 t x1 22 v_28 0 f_30 L
set_option maxRecDepth 100000 in
noncomputable def sX11_judge (x0 : Int32) (x1 : Int32) (f : sg_F) (L : sg_L) : Int32 × sg_F :=
  spl (α := Int32) (x0 / 10) fun (v_1 : Int32) =>
  spl (α := Int32) (x0 - x0 / 10 * 10) fun (v_3 : Int32) =>
  if x0.toInt < 0 then (
    (((-1) : Int32), f)) else (
    spl (sX11_isShelf v_1 f L) fun (r_10 : Int32) =>
    if r_10 = 1 then (
      spl (sX11_isShelf v_3 f L) fun (r_16 : Int32) =>
      if r_16 = 1 then (
        spl (sX11_isPart x1 f L) fun (r_22 : Int32) =>
        if r_22 = 1 then (
          spl (sX11_refusalOf v_1 f L) fun (r_28 : Int32) =>
          spl (sX11_refusalOf v_3 f L) fun (r_33 : Int32) =>
          if r_28.toInt = (-11) then (
            (((-11) : Int32), f)) else (
            if r_33.toInt = (-11) then (
              (((-11) : Int32), f)) else (
              if r_28.toInt = 0 then (
                if r_33.toInt = 0 then (
                  spl2 (sX11_readWeek v_1 f L) fun (r_46 : Int32) (f_43 : sg_F) =>
                  spl (α := Nat) (v_3.toNatClampNeg) fun (t_48 : Nat) =>
                  spl2 (sX11_firstUnlike t_48 x1 f_43 L) fun (r_52 : Int32) (f_49 : sg_F) =>
                  ((r_52 : Int32), f_49)) else (
                  (((-12) : Int32), f))) else (
                (((-12) : Int32), f))))) else (
          (((-1) : Int32), f))) else (
        (((-1) : Int32), f))) else (
      (((-1) : Int32), f)))
set_option maxRecDepth 100000 in
noncomputable def sX4_drawWeeks_b91 (rec_12 : Int32 → Int32 → Int32 → sg_F → sg_L → Int32 × sg_F) (rec_25 : Int32 → Int32 → Int32 → Int32 → sg_F → sg_L → Int32 × sg_F) (x0 : Int32) (x1 : Int32) (y3_91 : Int32) (y4_91 : Int32) (y5_91 : Int32) (y6_91 : Int32) (y7_91 : Int32) (fp_91 : sg_F) (L : sg_L) : Int32 × sg_F :=
  spl (α := Int32) (fp_91 10 2) fun (v_1 : Int32) =>
  spl (sX4_pass y7_91 fp_91 L) fun (f_4 : sg_F) =>
  spl (α := Int32) (y6_91 + 1) fun (v_8 : Int32) =>
  rec_25 y3_91 y4_91 y5_91 v_8 f_4 L
set_option maxRecDepth 100000 in
noncomputable def sX4_drawWeeks_h25 (rec_12 : Int32 → Int32 → Int32 → sg_F → sg_L → Int32 × sg_F) (x0 : Int32) (x1 : Int32) (rec_25 : Int32 → Int32 → Int32 → Int32 → sg_F → sg_L → Int32 × sg_F) (y3_25 : Int32) (y4_25 : Int32) (y5_25 : Int32) (y6_25 : Int32) (fp_25 : sg_F) (L : sg_L) : Int32 × sg_F :=
  spl (α := Int32) (fp_25 10 2) fun (v_10 : Int32) =>
  if y6_25.toInt < v_10.toInt then (
    spl (α := Int32) (fp_25 11 (Int32.toNatClampNeg y6_25)) fun (v_16 : Int32) =>
    if v_16.toInt = (-1) then (
      sX4_drawWeeks_b91 rec_12 rec_25 x0 x1 y3_25 y4_25 y5_25 y6_25 v_16 fp_25 L) else (
      spl (α := Int32) (y3_25 * 1103515245) fun (v_20 : Int32) =>
      spl (α := Int32) (v_20 + 12345) fun (v_21 : Int32) =>
      spl (α := Int32) ((Int32.toUInt32 v_21 >>> (Int32.toUInt32 8 &&& Int32.toUInt32 31)).toInt32) fun (v_22 : Int32) =>
      spl (α := Int32) (v_22 - v_22 / 12 * 12) fun (v_23 : Int32) =>
      spl (sX0_numberOf v_16 7 fp_25 L) fun (r_28 : Int32) =>
      if v_23.toInt < r_28.toInt then (
        spl (α := Int32) (y4_25 + 1) fun (v_32 : Int32) =>
        sX4_drawWeeks_b91 rec_12 rec_25 x0 x1 v_21 v_32 y5_25 y6_25 (-1) fp_25 L) else (
        sX4_drawWeeks_b91 rec_12 rec_25 x0 x1 v_21 y4_25 y5_25 y6_25 v_16 fp_25 L))) else (
    spl (α := Int32) (y5_25 + 1) fun (v_14 : Int32) =>
    rec_12 y3_25 y4_25 v_14 fp_25 L)
set_option maxRecDepth 100000 in
noncomputable def sX4_drawWeeks_l25 (rec_12 : Int32 → Int32 → Int32 → sg_F → sg_L → Int32 × sg_F) (x0 : Int32) (x1 : Int32) (n : Nat) : Int32 → Int32 → Int32 → Int32 → sg_F → sg_L → Int32 × sg_F :=
  Nat.rec (motive := fun _ => Int32 → Int32 → Int32 → Int32 → sg_F → sg_L → Int32 × sg_F) (fun _ _ _ _ f L => ((0 : Int32), f)) (fun _ r => sX4_drawWeeks_h25 rec_12 x0 x1 r) n
set_option maxRecDepth 100000 in
noncomputable def sX4_drawWeeks_h12 (x0 : Int32) (x1 : Int32) (rec_12 : Int32 → Int32 → Int32 → sg_F → sg_L → Int32 × sg_F) (y3_12 : Int32) (y4_12 : Int32) (y5_12 : Int32) (fp_12 : sg_F) (L : sg_L) : Int32 × sg_F :=
  if y5_12.toInt < x1.toInt then (
    spl (sX4_standAsNow fp_12 L) fun (f_35 : sg_F) =>
    sX4_drawWeeks_l25 rec_12 x0 x1 22 y3_12 y4_12 y5_12 0 f_35 L) else (
    ((y4_12 : Int32), fp_12))
set_option maxRecDepth 100000 in
noncomputable def sX4_drawWeeks_l12 (x0 : Int32) (x1 : Int32) (n : Nat) : Int32 → Int32 → Int32 → sg_F → sg_L → Int32 × sg_F :=
  Nat.rec (motive := fun _ => Int32 → Int32 → Int32 → sg_F → sg_L → Int32 × sg_F) (fun _ _ _ f L => ((0 : Int32), f)) (fun _ r => sX4_drawWeeks_h12 x0 x1 r) n
set_option maxRecDepth 100000 in
noncomputable def sX4_drawWeeks (x0 : Int32) (x1 : Int32) (f : sg_F) (L : sg_L) : Int32 × sg_F :=
  spl (sX4_begin f L) fun (f_39 : sg_F) =>
  sX4_drawWeeks_l12 x0 x1 21 x0 0 0 f_39 L
set_option maxRecDepth 100000 in
noncomputable def sX11_drawn (x0 : Int32) (x1 : Int32) (x2 : Int32) (x3 : Int32) (f : sg_F) (L : sg_L) : Int32 × sg_F :=
  spl (sX11_isShelf x0 f L) fun (r_4 : Int32) =>
  if r_4 = 1 then (
    if x2.toInt < 1 then (
      (((-1) : Int32), f)) else (
      if 20 < x2.toInt then (
        (((-1) : Int32), f)) else (
        if x3.toInt < 0 then (
          (((-1) : Int32), f)) else (
          if 1 < x3.toInt then (
            (((-1) : Int32), f)) else (
            spl2 (sX11_readWeek x0 f L) fun (r_18 : Int32) (f_15 : sg_F) =>
            if r_18.toInt = 0 then (
              spl2 (sX4_drawWeeks x1 x2 f_15 L) fun (r_25 : Int32) (f_22 : sg_F) =>
              if x3.toInt = 0 then (
                spl (α := Int32) (f_22 13 6) fun (v_29 : Int32) =>
                ((v_29 : Int32), f_22)) else (
                ((r_25 : Int32), f_22))) else (
              ((r_18 : Int32), f_15))))))) else (
    (((-1) : Int32), f))
set_option maxRecDepth 100000 in
noncomputable def sX2_comes_b80 (x0 : Int32) (fp_80 : sg_F) (L : sg_L) : Int32 × sg_F :=
  spl (α := Int32) (fp_80 29 (Int32.toNatClampNeg 0)) fun (v_1 : Int32) =>
  spl (α := Int32) (v_1 + 1) fun (v_2 : Int32) =>
  spl (α := sg_F) (sg_up fp_80 29 (sgu (fp_80 29) (Int32.toNatClampNeg 0) v_2)) fun (f_3 : sg_F) =>
  spl (α := Int32) (f_3 29 (Int32.toNatClampNeg 1)) fun (v_4 : Int32) =>
  spl (sX4_allTurns f_3 L) fun (r_8 : Int32) =>
  spl (α := Int32) (v_4 + r_8) fun (v_10 : Int32) =>
  spl (α := sg_F) (sg_up f_3 29 (sgu (f_3 29) (Int32.toNatClampNeg 1) v_10)) fun (f_11 : sg_F) =>
  spl (α := Int32) (f_11 29 (Int32.toNatClampNeg 2)) fun (v_12 : Int32) =>
  spl (α := Int32) (f_11 13 5) fun (v_13 : Int32) =>
  spl (α := Int32) (v_12 + v_13) fun (v_14 : Int32) =>
  spl (α := sg_F) (sg_up f_11 29 (sgu (f_11 29) (Int32.toNatClampNeg 2) v_14)) fun (f_15 : sg_F) =>
  spl (α := Int32) (f_15 13 6) fun (v_16 : Int32) =>
  ((v_16 : Int32), f_15)
set_option maxRecDepth 100000 in
noncomputable def sX2_comes_b60 (x0 : Int32) (fp_60 : sg_F) (L : sg_L) : Int32 × sg_F :=
  spl (α := Int32) (fp_60 13 6) fun (v_17 : Int32) =>
  spl (α := sg_F) (sg_up fp_60 29 (sgu (fp_60 29) (Int32.toNatClampNeg 3) v_17)) fun (f_18 : sg_F) =>
  spl (α := sg_F) (sg_up f_18 29 (sgu (f_18 29) (Int32.toNatClampNeg 4) x0)) fun (f_19 : sg_F) =>
  sX2_comes_b80 x0 f_19 L
set_option maxRecDepth 100000 in
noncomputable def sX2_comes (x0 : Int32) (f : sg_F) (L : sg_L) : Int32 × sg_F :=
  spl (sX4_begin f L) fun (f_20 : sg_F) =>
  spl (sX4_comes x0 f_20 L) fun (f_24 : sg_F) =>
  spl (α := sg_F) (sg_up f_24 3 (va_cpy (f_24 14) (f_24 3) (Int32.toNatClampNeg 0) (Int32.toNatClampNeg 0) (Int32.toNatClampNeg 3))) fun (f_28 : sg_F) =>
  spl (α := Int32) (f_28 29 (Int32.toNatClampNeg 0)) fun (v_29 : Int32) =>
  if v_29.toInt = 0 then (
    sX2_comes_b60 x0 f_28 L) else (
    spl (α := Int32) (f_28 13 6) fun (v_32 : Int32) =>
    spl (α := Int32) (f_28 29 (Int32.toNatClampNeg 3)) fun (v_33 : Int32) =>
    if v_33.toInt < v_32.toInt then (
      sX2_comes_b60 x0 f_28 L) else (
      sX2_comes_b80 x0 f_28 L))
set_option maxRecDepth 100000 in
noncomputable def sX11_sit (x0 : Int32) (f : sg_F) (L : sg_L) : Int32 × sg_F :=
  spl (α := Int32) (f 1 3) fun (v_1 : Int32) =>
  spl (sX0_has x0 f L) fun (r_8 : Int32) =>
  if r_8 = 1 then (
    spl2 (sX2_comes x0 f L) fun (r_14 : Int32) (f_11 : sg_F) =>
    ((r_14 : Int32), f_11)) else (
    (((-1) : Int32), f))
set_option maxRecDepth 100000 in
noncomputable def sX2_turns (x0 : Int32) (x1 : Int32) (f : sg_F) (L : sg_L) : Int32 × sg_F :=
  spl (α := Int32) (f 3 (Int32.toNatClampNeg x0)) fun (v_1 : Int32) =>
  spl (α := Int32) (x1 - v_1) fun (v_3 : Int32) =>
  spl (α := Int32) (if (0 : Int32) ≤ v_3 then v_3 else 0 - v_3) fun (v_5 : Int32) =>
  spl (α := sg_F) (sg_up f 3 (sgu (f 3) (Int32.toNatClampNeg x0) x1)) fun (f_7 : sg_F) =>
  spl (α := Int32) (f_7 29 (Int32.toNatClampNeg 1)) fun (v_8 : Int32) =>
  spl (α := Int32) (v_8 + v_5) fun (v_9 : Int32) =>
  spl (α := sg_F) (sg_up f_7 29 (sgu (f_7 29) (Int32.toNatClampNeg 1) v_9)) fun (f_10 : sg_F) =>
  ((v_5 : Int32), f_10)
set_option maxRecDepth 100000 in
noncomputable def sX11_set (x0 : Int32) (x1 : Int32) (f : sg_F) (L : sg_L) : Int32 × sg_F :=
  spl (sX11_isPart x0 f L) fun (r_4 : Int32) =>
  if r_4 = 1 then (
    spl (sX11_isSetting x1 f L) fun (r_10 : Int32) =>
    if r_10 = 1 then (
      spl2 (sX2_turns x0 x1 f L) fun (r_16 : Int32) (f_13 : sg_F) =>
      ((r_16 : Int32), f_13)) else (
      (((-1) : Int32), f))) else (
    (((-1) : Int32), f))
set_option maxRecDepth 100000 in
noncomputable def sX2_allSlip_b43 (rec_4 : Int32 → Int32 → sg_F → sg_L → Int32 × sg_F) (y1_43 : Int32) (y2_43 : Int32) (y3_43 : Int32) (fp_43 : sg_F) (L : sg_L) : Int32 × sg_F :=
  spl (α := sg_F) (sg_up fp_43 3 (sgu (fp_43 3) (Int32.toNatClampNeg y2_43) y3_43)) fun (f_1 : sg_F) =>
  spl (α := Int32) (y2_43 + 1) fun (v_2 : Int32) =>
  rec_4 y1_43 v_2 f_1 L
set_option maxRecDepth 100000 in
noncomputable def sX2_allSlip_h4 (rec_4 : Int32 → Int32 → sg_F → sg_L → Int32 × sg_F) (y1_4 : Int32) (y2_4 : Int32) (fp_4 : sg_F) (L : sg_L) : Int32 × sg_F :=
  if y2_4.toInt < 3 then (
    spl (α := Int32) (fp_4 3 (Int32.toNatClampNeg y2_4)) fun (v_6 : Int32) =>
    spl (sX0_slipped y2_4 v_6 fp_4 L) fun (r_11 : Int32) =>
    if r_11.toInt = v_6.toInt then (
      sX2_allSlip_b43 rec_4 y1_4 y2_4 r_11 fp_4 L) else (
      spl (α := Int32) (y1_4 + 1) fun (v_15 : Int32) =>
      sX2_allSlip_b43 rec_4 v_15 y2_4 r_11 fp_4 L)) else (
    ((y1_4 : Int32), fp_4))
set_option maxRecDepth 100000 in
noncomputable def sX2_allSlip_l4 (n : Nat) : Int32 → Int32 → sg_F → sg_L → Int32 × sg_F :=
  Nat.rec (motive := fun _ => Int32 → Int32 → sg_F → sg_L → Int32 × sg_F) (fun _ _ f L => ((0 : Int32), f)) (fun _ r => sX2_allSlip_h4 r) n
set_option maxRecDepth 100000 in
noncomputable def sX2_allSlip (f : sg_F) (L : sg_L) : Int32 × sg_F :=
  sX2_allSlip_l4 4 0 0 f L
set_option maxRecDepth 100000 in
noncomputable def sX11_night (f : sg_F) (L : sg_L) : Int32 × sg_F :=
  spl2 (sX2_allSlip f L) fun (r_4 : Int32) (f_1 : sg_F) =>
  ((r_4 : Int32), f_1)
set_option maxRecDepth 100000 in
noncomputable def sX11_led (x0 : Int32) (f : sg_F) (L : sg_L) : Int32 :=
  if x0.toInt < 0 then (
    (((-1) : Int32))) else (
    if x0.toInt < 5 then (
      spl (α := Int32) (f 29 (Int32.toNatClampNeg x0)) fun (v_5 : Int32) =>
      ((v_5 : Int32))) else (
      (((-1) : Int32))))
set_option maxRecDepth 100000 in
noncomputable def sX2_keepImage (f : sg_F) (L : sg_L) : Int32 × sg_F :=
  spl (α := sg_F) (sg_up f 30 (va_cpy (f 29) (f 30) (Int32.toNatClampNeg 0) (Int32.toNatClampNeg 0) (Int32.toNatClampNeg 5))) fun (f_1 : sg_F) =>
  spl (α := sg_F) (sg_up f_1 31 (va_cpy (f_1 3) (f_1 31) (Int32.toNatClampNeg 0) (Int32.toNatClampNeg 0) (Int32.toNatClampNeg 3))) fun (f_2 : sg_F) =>
  spl (α := sg_F) (sg_up f_2 28 (sgu (f_2 28) 5 1)) fun (f_3 : sg_F) =>
  spl (α := Int32) (f_3 29 (Int32.toNatClampNeg 0)) fun (v_4 : Int32) =>
  ((v_4 : Int32), f_3)
set_option maxRecDepth 100000 in
noncomputable def sX11_image (f : sg_F) (L : sg_L) : Int32 × sg_F :=
  spl2 (sX2_keepImage f L) fun (r_4 : Int32) (f_1 : sg_F) =>
  ((r_4 : Int32), f_1)
set_option maxRecDepth 100000 in
noncomputable def sX2_layBack (f : sg_F) (L : sg_L) : Int32 × sg_F :=
  spl (α := Int32) (f 28 5) fun (v_1 : Int32) =>
  if v_1.toInt = 0 then (
    (((-5) : Int32), f)) else (
    spl (α := sg_F) (sg_up f 29 (va_cpy (f 30) (f 29) (Int32.toNatClampNeg 0) (Int32.toNatClampNeg 0) (Int32.toNatClampNeg 5))) fun (f_5 : sg_F) =>
    spl (α := sg_F) (sg_up f_5 3 (va_cpy (f_5 31) (f_5 3) (Int32.toNatClampNeg 0) (Int32.toNatClampNeg 0) (Int32.toNatClampNeg 3))) fun (f_6 : sg_F) =>
    spl (α := Int32) (f_6 29 (Int32.toNatClampNeg 0)) fun (v_7 : Int32) =>
    ((v_7 : Int32), f_6))
set_option maxRecDepth 100000 in
noncomputable def sX11_back (f : sg_F) (L : sg_L) : Int32 × sg_F :=
  spl2 (sX2_layBack f L) fun (r_4 : Int32) (f_1 : sg_F) =>
  ((r_4 : Int32), f_1)
set_option maxRecDepth 100000 in
noncomputable def sX11_undo (f : sg_F) (L : sg_L) : Int32 × sg_F :=
  spl (α := Int32) (f 32 3) fun (v_1 : Int32) =>
  if v_1.toInt = 0 then (
    (((-5) : Int32), f)) else (
    spl (α := Int32) (v_1 - 1) fun (v_5 : Int32) =>
    spl (α := sg_F) (sg_up f 32 (sgu (f 32) 3 v_5)) fun (f_7 : sg_F) =>
    spl (α := Int32) (f_7 33 (Int32.toNatClampNeg v_5)) fun (v_8 : Int32) =>
    spl (α := Int32) (f_7 34 (Int32.toNatClampNeg v_5)) fun (v_11 : Int32) =>
    spl (sX0_becomes v_8 v_11 f_7 L) fun (f_14 : sg_F) =>
    ((v_5 : Int32), f_14))
set_option maxRecDepth 100000 in
noncomputable def sX11_redo (f : sg_F) (L : sg_L) : Int32 × sg_F :=
  spl (α := Int32) (f 32 3) fun (v_1 : Int32) =>
  spl (α := Int32) (f 32 4) fun (v_3 : Int32) =>
  if v_1.toInt < v_3.toInt then (
    spl (α := Int32) (f 33 (Int32.toNatClampNeg v_1)) fun (v_7 : Int32) =>
    spl (α := Int32) (f 35 (Int32.toNatClampNeg v_1)) fun (v_10 : Int32) =>
    spl (sX0_becomes v_7 v_10 f L) fun (f_13 : sg_F) =>
    spl (α := Int32) (v_1 + 1) fun (v_17 : Int32) =>
    spl (α := sg_F) (sg_up f_13 32 (sgu (f_13 32) 3 v_17)) fun (f_19 : sg_F) =>
    spl (α := Int32) (v_3 - v_17) fun (v_20 : Int32) =>
    ((v_20 : Int32), f_19)) else (
    (((-5) : Int32), f))
set_option maxRecDepth 100000 in
noncomputable def sX11_isKind (x0 : Int32) (f : sg_F) (L : sg_L) : Int32 :=
  if x0.toInt < 0 then (
    ((0 : Int32))) else (
    if x0.toInt < 8 then (
      ((1 : Int32))) else (
      ((0 : Int32))))
set_option maxRecDepth 100000 in
noncomputable def sX3_comes (x0 : Int32) (f : sg_F) (L : sg_L) : Int32 × sg_F :=
  spl (α := Int32) (f 36 2) fun (v_1 : Int32) =>
  if v_1.toInt < 50 then (
    spl (α := sg_F) (sg_up f 37 (sgu (f 37) (Int32.toNatClampNeg v_1) x0)) fun (f_5 : sg_F) =>
    spl (α := Int32) (v_1 + 1) fun (v_6 : Int32) =>
    spl (α := sg_F) (sg_up f_5 36 (sgu (f_5 36) 2 v_6)) fun (f_8 : sg_F) =>
    spl (α := Int32) (v_6 - 1) fun (v_9 : Int32) =>
    ((v_9 : Int32), f_8)) else (
    (((-3) : Int32), f))
set_option maxRecDepth 100000 in
noncomputable def sX11_body (x0 : Int32) (f : sg_F) (L : sg_L) : Int32 × sg_F :=
  spl (sX11_isKind x0 f L) fun (r_4 : Int32) =>
  if r_4 = 1 then (
    spl2 (sX3_comes x0 f L) fun (r_10 : Int32) (f_7 : sg_F) =>
    ((r_10 : Int32), f_7)) else (
    (((-1) : Int32), f))
set_option maxRecDepth 100000 in
noncomputable def sX3_ownerOf_0_0 (f : sg_F) (L : sg_L) : Int32 :=
  ((0 : Int32))
set_option maxRecDepth 100000 in
noncomputable def sX3_runs_1_m1_1_f1_f0 (x2 : Int32) (f : sg_F) (L : sg_L) : Int32 :=
  spl (α := Int32) (f 36 5) fun (v_2 : Int32) =>
  spl (α := Int32) (x2 + v_2) fun (v_4 : Int32) =>
  ((v_4 : Int32))
set_option maxRecDepth 100000 in
noncomputable def sX3_does_0_0_0_f0_f0_b53 (x2 : Int32) (fp_53 : sg_F) (L : sg_L) : Int32 × sg_F :=
  spl (α := Int32) (fp_53 36 3) fun (v_2 : Int32) =>
  spl (α := Int32) (fp_53 36 4) fun (v_5 : Int32) =>
  spl (α := Int32) (v_2 + 1) fun (v_9 : Int32) =>
  spl (α := sg_F) (sg_up fp_53 36 (sgu (fp_53 36) 3 v_9)) fun (f_11 : sg_F) =>
  spl (sX3_runs_1_m1_1_f1_f0 x2 f_11 L) fun (r_18 : Int32) =>
  ((r_18 : Int32), f_11)
set_option maxRecDepth 100000 in
noncomputable def sX3_does_0_0_0_f0_f0 (x2 : Int32) (f : sg_F) (L : sg_L) : Int32 × sg_F :=
  spl (sX3_ownerOf_0_0 f L) fun (r_31 : Int32) =>
  spl (α := sg_F) (sg_up f 38 (sgu (f 38) 0 1)) fun (f_33 : sg_F) =>
  sX3_does_0_0_0_f0_f0_b53 x2 f_33 L
set_option maxRecDepth 100000 in
noncomputable def sX3_ownerOf_1_0 (f : sg_F) (L : sg_L) : Int32 :=
  ((1 : Int32))
set_option maxRecDepth 100000 in
noncomputable def sX3_runs_1_m1_2_f2_f1 (x2 : Int32) (f : sg_F) (L : sg_L) : Int32 :=
  spl (α := Int32) (f 36 5) fun (v_2 : Int32) =>
  spl (α := Int32) (x2 + v_2) fun (v_4 : Int32) =>
  ((v_4 : Int32))
set_option maxRecDepth 100000 in
noncomputable def sX3_does_0_0_1_f1_f1_b53 (x2 : Int32) (fp_53 : sg_F) (L : sg_L) : Int32 × sg_F :=
  spl (α := Int32) (fp_53 36 3) fun (v_2 : Int32) =>
  spl (α := Int32) (fp_53 36 4) fun (v_5 : Int32) =>
  spl (α := Int32) (v_2 + 1) fun (v_9 : Int32) =>
  spl (α := sg_F) (sg_up fp_53 36 (sgu (fp_53 36) 3 v_9)) fun (f_11 : sg_F) =>
  spl (sX3_runs_1_m1_2_f2_f1 x2 f_11 L) fun (r_18 : Int32) =>
  ((r_18 : Int32), f_11)
set_option maxRecDepth 100000 in
noncomputable def sX3_does_0_0_1_f1_f1 (x2 : Int32) (f : sg_F) (L : sg_L) : Int32 × sg_F :=
  spl (sX3_ownerOf_0_0 f L) fun (r_31 : Int32) =>
  spl (α := sg_F) (sg_up f 38 (sgu (f 38) 1 1)) fun (f_33 : sg_F) =>
  sX3_does_0_0_1_f1_f1_b53 x2 f_33 L
set_option maxRecDepth 100000 in
noncomputable def sX3_runs_20_0_1_f1_f1 (x2 : Int32) (f : sg_F) (L : sg_L) : Int32 × sg_F :=
  spl2 (sX3_does_0_0_1_f1_f1 x2 f L) fun (r_7 : Int32) (f_4 : sg_F) =>
  spl (α := Int32) (f_4 36 3) fun (v_10 : Int32) =>
  spl (α := Int32) (r_7 + 3) fun (v_17 : Int32) =>
  ((v_17 : Int32), f_4)
set_option maxRecDepth 100000 in
noncomputable def sX3_does_1_0_0_f0_f1_b53 (x2 : Int32) (fp_53 : sg_F) (L : sg_L) : Int32 × sg_F :=
  spl (α := Int32) (fp_53 36 3) fun (v_2 : Int32) =>
  spl (α := Int32) (fp_53 36 4) fun (v_5 : Int32) =>
  spl (α := Int32) (v_2 + 1) fun (v_9 : Int32) =>
  spl (α := sg_F) (sg_up fp_53 36 (sgu (fp_53 36) 3 v_9)) fun (f_11 : sg_F) =>
  spl2 (sX3_runs_20_0_1_f1_f1 x2 f_11 L) fun (r_18 : Int32) (f_15 : sg_F) =>
  spl (α := Int32) (f_15 36 3) fun (v_21 : Int32) =>
  ((r_18 : Int32), f_15)
set_option maxRecDepth 100000 in
noncomputable def sX3_does_1_0_0_f0_f1 (x2 : Int32) (f : sg_F) (L : sg_L) : Int32 × sg_F :=
  spl (sX3_ownerOf_1_0 f L) fun (r_33 : Int32) =>
  spl (α := sg_F) (sg_up f 38 (sgu (f 38) 0 20)) fun (f_35 : sg_F) =>
  sX3_does_1_0_0_f0_f1_b53 x2 f_35 L
set_option maxRecDepth 100000 in
noncomputable def sX3_ownerOf_2_0 (f : sg_F) (L : sg_L) : Int32 :=
  ((0 : Int32))
set_option maxRecDepth 100000 in
noncomputable def sX3_runs_1_m1_1_f1_f2 (x2 : Int32) (f : sg_F) (L : sg_L) : Int32 :=
  spl (α := Int32) (f 36 5) fun (v_2 : Int32) =>
  spl (α := Int32) (x2 + v_2) fun (v_4 : Int32) =>
  ((v_4 : Int32))
set_option maxRecDepth 100000 in
noncomputable def sX3_does_2_0_0_f0_f2_b53 (x2 : Int32) (fp_53 : sg_F) (L : sg_L) : Int32 × sg_F :=
  spl (α := Int32) (fp_53 36 3) fun (v_2 : Int32) =>
  spl (α := Int32) (fp_53 36 4) fun (v_5 : Int32) =>
  spl (α := Int32) (v_2 + 1) fun (v_9 : Int32) =>
  spl (α := sg_F) (sg_up fp_53 36 (sgu (fp_53 36) 3 v_9)) fun (f_11 : sg_F) =>
  spl (sX3_runs_1_m1_1_f1_f2 x2 f_11 L) fun (r_18 : Int32) =>
  ((r_18 : Int32), f_11)
set_option maxRecDepth 100000 in
noncomputable def sX3_does_2_0_0_f0_f2 (x2 : Int32) (f : sg_F) (L : sg_L) : Int32 × sg_F :=
  spl (sX3_ownerOf_2_0 f L) fun (r_31 : Int32) =>
  spl (α := sg_F) (sg_up f 38 (sgu (f 38) 0 1)) fun (f_33 : sg_F) =>
  sX3_does_2_0_0_f0_f2_b53 x2 f_33 L
set_option maxRecDepth 100000 in
noncomputable def sX3_ownerOf_3_0 (f : sg_F) (L : sg_L) : Int32 :=
  ((0 : Int32))
set_option maxRecDepth 100000 in
noncomputable def sX3_runs_1_m1_1_f1_f3 (x2 : Int32) (f : sg_F) (L : sg_L) : Int32 :=
  spl (α := Int32) (f 36 5) fun (v_2 : Int32) =>
  spl (α := Int32) (x2 + v_2) fun (v_4 : Int32) =>
  ((v_4 : Int32))
set_option maxRecDepth 100000 in
noncomputable def sX3_does_3_0_0_f0_f3_b53 (x2 : Int32) (fp_53 : sg_F) (L : sg_L) : Int32 × sg_F :=
  spl (α := Int32) (fp_53 36 3) fun (v_2 : Int32) =>
  spl (α := Int32) (fp_53 36 4) fun (v_5 : Int32) =>
  spl (α := Int32) (v_2 + 1) fun (v_9 : Int32) =>
  spl (α := sg_F) (sg_up fp_53 36 (sgu (fp_53 36) 3 v_9)) fun (f_11 : sg_F) =>
  spl (sX3_runs_1_m1_1_f1_f3 x2 f_11 L) fun (r_18 : Int32) =>
  ((r_18 : Int32), f_11)
set_option maxRecDepth 100000 in
noncomputable def sX3_does_3_0_0_f0_f3 (x2 : Int32) (f : sg_F) (L : sg_L) : Int32 × sg_F :=
  spl (sX3_ownerOf_3_0 f L) fun (r_31 : Int32) =>
  spl (α := sg_F) (sg_up f 38 (sgu (f 38) 0 1)) fun (f_33 : sg_F) =>
  sX3_does_3_0_0_f0_f3_b53 x2 f_33 L
set_option maxRecDepth 100000 in
noncomputable def sX3_ownerOf_4_0 (f : sg_F) (L : sg_L) : Int32 :=
  ((1 : Int32))
set_option maxRecDepth 100000 in
noncomputable def sX3_runs_1_m1_2_f2_f4 (x2 : Int32) (f : sg_F) (L : sg_L) : Int32 :=
  spl (α := Int32) (f 36 5) fun (v_2 : Int32) =>
  spl (α := Int32) (x2 + v_2) fun (v_4 : Int32) =>
  ((v_4 : Int32))
set_option maxRecDepth 100000 in
noncomputable def sX3_does_0_0_1_f1_f4_b53 (x2 : Int32) (fp_53 : sg_F) (L : sg_L) : Int32 × sg_F :=
  spl (α := Int32) (fp_53 36 3) fun (v_2 : Int32) =>
  spl (α := Int32) (fp_53 36 4) fun (v_5 : Int32) =>
  spl (α := Int32) (v_2 + 1) fun (v_9 : Int32) =>
  spl (α := sg_F) (sg_up fp_53 36 (sgu (fp_53 36) 3 v_9)) fun (f_11 : sg_F) =>
  spl (sX3_runs_1_m1_2_f2_f4 x2 f_11 L) fun (r_18 : Int32) =>
  ((r_18 : Int32), f_11)
set_option maxRecDepth 100000 in
noncomputable def sX3_does_0_0_1_f1_f4 (x2 : Int32) (f : sg_F) (L : sg_L) : Int32 × sg_F :=
  spl (sX3_ownerOf_0_0 f L) fun (r_31 : Int32) =>
  spl (α := sg_F) (sg_up f 38 (sgu (f 38) 1 1)) fun (f_33 : sg_F) =>
  sX3_does_0_0_1_f1_f4_b53 x2 f_33 L
set_option maxRecDepth 100000 in
noncomputable def sX3_runs_20_0_1_f1_f4 (x2 : Int32) (f : sg_F) (L : sg_L) : Int32 × sg_F :=
  spl2 (sX3_does_0_0_1_f1_f4 x2 f L) fun (r_7 : Int32) (f_4 : sg_F) =>
  spl (α := Int32) (f_4 36 3) fun (v_10 : Int32) =>
  spl (α := Int32) (r_7 + 3) fun (v_17 : Int32) =>
  ((v_17 : Int32), f_4)
set_option maxRecDepth 100000 in
noncomputable def sX3_does_4_0_0_f0_f4_b53 (x2 : Int32) (fp_53 : sg_F) (L : sg_L) : Int32 × sg_F :=
  spl (α := Int32) (fp_53 36 3) fun (v_2 : Int32) =>
  spl (α := Int32) (fp_53 36 4) fun (v_5 : Int32) =>
  spl (α := Int32) (v_2 + 1) fun (v_9 : Int32) =>
  spl (α := sg_F) (sg_up fp_53 36 (sgu (fp_53 36) 3 v_9)) fun (f_11 : sg_F) =>
  spl2 (sX3_runs_20_0_1_f1_f4 x2 f_11 L) fun (r_18 : Int32) (f_15 : sg_F) =>
  spl (α := Int32) (f_15 36 3) fun (v_21 : Int32) =>
  ((r_18 : Int32), f_15)
set_option maxRecDepth 100000 in
noncomputable def sX3_does_4_0_0_f0_f4 (x2 : Int32) (f : sg_F) (L : sg_L) : Int32 × sg_F :=
  spl (sX3_ownerOf_4_0 f L) fun (r_33 : Int32) =>
  spl (α := sg_F) (sg_up f 38 (sgu (f 38) 0 20)) fun (f_35 : sg_F) =>
  sX3_does_4_0_0_f0_f4_b53 x2 f_35 L
set_option maxRecDepth 100000 in
noncomputable def sX3_ownerOf_5_0 (f : sg_F) (L : sg_L) : Int32 :=
  ((0 : Int32))
set_option maxRecDepth 100000 in
noncomputable def sX3_runs_1_m1_1_f1_f5 (x2 : Int32) (f : sg_F) (L : sg_L) : Int32 :=
  spl (α := Int32) (f 36 5) fun (v_2 : Int32) =>
  spl (α := Int32) (x2 + v_2) fun (v_4 : Int32) =>
  ((v_4 : Int32))
set_option maxRecDepth 100000 in
noncomputable def sX3_does_5_0_0_f0_f5_b53 (x2 : Int32) (fp_53 : sg_F) (L : sg_L) : Int32 × sg_F :=
  spl (α := Int32) (fp_53 36 3) fun (v_2 : Int32) =>
  spl (α := Int32) (fp_53 36 4) fun (v_5 : Int32) =>
  spl (α := Int32) (v_2 + 1) fun (v_9 : Int32) =>
  spl (α := sg_F) (sg_up fp_53 36 (sgu (fp_53 36) 3 v_9)) fun (f_11 : sg_F) =>
  spl (sX3_runs_1_m1_1_f1_f5 x2 f_11 L) fun (r_18 : Int32) =>
  ((r_18 : Int32), f_11)
set_option maxRecDepth 100000 in
noncomputable def sX3_does_5_0_0_f0_f5 (x2 : Int32) (f : sg_F) (L : sg_L) : Int32 × sg_F :=
  spl (sX3_ownerOf_5_0 f L) fun (r_31 : Int32) =>
  spl (α := sg_F) (sg_up f 38 (sgu (f 38) 0 1)) fun (f_33 : sg_F) =>
  sX3_does_5_0_0_f0_f5_b53 x2 f_33 L
set_option maxRecDepth 100000 in
noncomputable def sX3_ownerOf_6_0 (f : sg_F) (L : sg_L) : Int32 :=
  ((6 : Int32))
set_option maxRecDepth 100000 in
noncomputable def sX3_runs_1_m1_2_f2_f6 (x2 : Int32) (f : sg_F) (L : sg_L) : Int32 :=
  spl (α := Int32) (f 36 5) fun (v_2 : Int32) =>
  spl (α := Int32) (x2 + v_2) fun (v_4 : Int32) =>
  ((v_4 : Int32))
set_option maxRecDepth 100000 in
noncomputable def sX3_does_0_0_1_f1_f6_b53 (x2 : Int32) (fp_53 : sg_F) (L : sg_L) : Int32 × sg_F :=
  spl (α := Int32) (fp_53 36 3) fun (v_2 : Int32) =>
  spl (α := Int32) (fp_53 36 4) fun (v_5 : Int32) =>
  spl (α := Int32) (v_2 + 1) fun (v_9 : Int32) =>
  spl (α := sg_F) (sg_up fp_53 36 (sgu (fp_53 36) 3 v_9)) fun (f_11 : sg_F) =>
  spl (sX3_runs_1_m1_2_f2_f6 x2 f_11 L) fun (r_18 : Int32) =>
  ((r_18 : Int32), f_11)
set_option maxRecDepth 100000 in
noncomputable def sX3_does_0_0_1_f1_f6 (x2 : Int32) (f : sg_F) (L : sg_L) : Int32 × sg_F :=
  spl (sX3_ownerOf_0_0 f L) fun (r_31 : Int32) =>
  spl (α := sg_F) (sg_up f 38 (sgu (f 38) 1 1)) fun (f_33 : sg_F) =>
  sX3_does_0_0_1_f1_f6_b53 x2 f_33 L
set_option maxRecDepth 100000 in
noncomputable def sX3_runs_70_0_1_f1_f6 (x2 : Int32) (f : sg_F) (L : sg_L) : Int32 × sg_F :=
  spl2 (sX3_does_0_0_1_f1_f6 x2 f L) fun (r_7 : Int32) (f_4 : sg_F) =>
  spl (α := Int32) (f_4 36 3) fun (v_10 : Int32) =>
  spl (α := Int32) (r_7 * 2) fun (v_17 : Int32) =>
  ((v_17 : Int32), f_4)
set_option maxRecDepth 100000 in
noncomputable def sX3_does_6_0_0_f0_f6_b53 (x2 : Int32) (fp_53 : sg_F) (L : sg_L) : Int32 × sg_F :=
  spl (α := Int32) (fp_53 36 3) fun (v_2 : Int32) =>
  spl (α := Int32) (fp_53 36 4) fun (v_5 : Int32) =>
  spl (α := Int32) (v_2 + 1) fun (v_9 : Int32) =>
  spl (α := sg_F) (sg_up fp_53 36 (sgu (fp_53 36) 3 v_9)) fun (f_11 : sg_F) =>
  spl2 (sX3_runs_70_0_1_f1_f6 x2 f_11 L) fun (r_18 : Int32) (f_15 : sg_F) =>
  spl (α := Int32) (f_15 36 3) fun (v_21 : Int32) =>
  ((r_18 : Int32), f_15)
set_option maxRecDepth 100000 in
noncomputable def sX3_does_6_0_0_f0_f6 (x2 : Int32) (f : sg_F) (L : sg_L) : Int32 × sg_F :=
  spl (sX3_ownerOf_6_0 f L) fun (r_33 : Int32) =>
  spl (α := sg_F) (sg_up f 38 (sgu (f 38) 0 70)) fun (f_35 : sg_F) =>
  sX3_does_6_0_0_f0_f6_b53 x2 f_35 L
set_option maxRecDepth 100000 in
noncomputable def sX3_ownerOf_7_0 (f : sg_F) (L : sg_L) : Int32 :=
  ((1 : Int32))
set_option maxRecDepth 100000 in
noncomputable def sX3_runs_1_m1_2_f2_f7 (x2 : Int32) (f : sg_F) (L : sg_L) : Int32 :=
  spl (α := Int32) (f 36 5) fun (v_2 : Int32) =>
  spl (α := Int32) (x2 + v_2) fun (v_4 : Int32) =>
  ((v_4 : Int32))
set_option maxRecDepth 100000 in
noncomputable def sX3_does_0_0_1_f1_f7_b53 (x2 : Int32) (fp_53 : sg_F) (L : sg_L) : Int32 × sg_F :=
  spl (α := Int32) (fp_53 36 3) fun (v_2 : Int32) =>
  spl (α := Int32) (fp_53 36 4) fun (v_5 : Int32) =>
  spl (α := Int32) (v_2 + 1) fun (v_9 : Int32) =>
  spl (α := sg_F) (sg_up fp_53 36 (sgu (fp_53 36) 3 v_9)) fun (f_11 : sg_F) =>
  spl (sX3_runs_1_m1_2_f2_f7 x2 f_11 L) fun (r_18 : Int32) =>
  ((r_18 : Int32), f_11)
set_option maxRecDepth 100000 in
noncomputable def sX3_does_0_0_1_f1_f7 (x2 : Int32) (f : sg_F) (L : sg_L) : Int32 × sg_F :=
  spl (sX3_ownerOf_0_0 f L) fun (r_31 : Int32) =>
  spl (α := sg_F) (sg_up f 38 (sgu (f 38) 1 1)) fun (f_33 : sg_F) =>
  sX3_does_0_0_1_f1_f7_b53 x2 f_33 L
set_option maxRecDepth 100000 in
noncomputable def sX3_runs_20_0_1_f1_f7 (x2 : Int32) (f : sg_F) (L : sg_L) : Int32 × sg_F :=
  spl2 (sX3_does_0_0_1_f1_f7 x2 f L) fun (r_7 : Int32) (f_4 : sg_F) =>
  spl (α := Int32) (f_4 36 3) fun (v_10 : Int32) =>
  spl (α := Int32) (r_7 + 3) fun (v_17 : Int32) =>
  ((v_17 : Int32), f_4)
set_option maxRecDepth 100000 in
noncomputable def sX3_does_7_0_0_f0_f7_b53 (x2 : Int32) (fp_53 : sg_F) (L : sg_L) : Int32 × sg_F :=
  spl (α := Int32) (fp_53 36 3) fun (v_2 : Int32) =>
  spl (α := Int32) (fp_53 36 4) fun (v_5 : Int32) =>
  spl (α := Int32) (v_2 + 1) fun (v_9 : Int32) =>
  spl (α := sg_F) (sg_up fp_53 36 (sgu (fp_53 36) 3 v_9)) fun (f_11 : sg_F) =>
  spl2 (sX3_runs_20_0_1_f1_f7 x2 f_11 L) fun (r_18 : Int32) (f_15 : sg_F) =>
  spl (α := Int32) (f_15 36 3) fun (v_21 : Int32) =>
  ((r_18 : Int32), f_15)
set_option maxRecDepth 100000 in
noncomputable def sX3_does_7_0_0_f0_f7 (x2 : Int32) (f : sg_F) (L : sg_L) : Int32 × sg_F :=
  spl (sX3_ownerOf_7_0 f L) fun (r_33 : Int32) =>
  spl (α := sg_F) (sg_up f 38 (sgu (f 38) 0 20)) fun (f_35 : sg_F) =>
  sX3_does_7_0_0_f0_f7_b53 x2 f_35 L
set_option maxRecDepth 100000 in
noncomputable def sX3_ownerOf_0_1 (f : sg_F) (L : sg_L) : Int32 :=
  ((0 : Int32))
set_option maxRecDepth 100000 in
noncomputable def sX3_runs_1_m1_2_f2_f0 (x2 : Int32) (f : sg_F) (L : sg_L) : Int32 :=
  spl (α := Int32) (f 36 5) fun (v_2 : Int32) =>
  spl (α := Int32) (x2 + v_2) fun (v_4 : Int32) =>
  ((v_4 : Int32))
set_option maxRecDepth 100000 in
noncomputable def sX3_does_0_0_1_f1_f0_b53 (x2 : Int32) (fp_53 : sg_F) (L : sg_L) : Int32 × sg_F :=
  spl (α := Int32) (fp_53 36 3) fun (v_2 : Int32) =>
  spl (α := Int32) (fp_53 36 4) fun (v_5 : Int32) =>
  spl (α := Int32) (v_2 + 1) fun (v_9 : Int32) =>
  spl (α := sg_F) (sg_up fp_53 36 (sgu (fp_53 36) 3 v_9)) fun (f_11 : sg_F) =>
  spl (sX3_runs_1_m1_2_f2_f0 x2 f_11 L) fun (r_18 : Int32) =>
  ((r_18 : Int32), f_11)
set_option maxRecDepth 100000 in
noncomputable def sX3_does_0_0_1_f1_f0 (x2 : Int32) (f : sg_F) (L : sg_L) : Int32 × sg_F :=
  spl (sX3_ownerOf_0_0 f L) fun (r_31 : Int32) =>
  spl (α := sg_F) (sg_up f 38 (sgu (f 38) 1 1)) fun (f_33 : sg_F) =>
  sX3_does_0_0_1_f1_f0_b53 x2 f_33 L
set_option maxRecDepth 100000 in
noncomputable def sX3_runs_10_m1_1_f1_f0 (x2 : Int32) (f : sg_F) (L : sg_L) : Int32 × sg_F :=
  spl2 (sX3_does_0_0_1_f1_f0 x2 f L) fun (r_7 : Int32) (f_4 : sg_F) =>
  spl (α := Int32) (f_4 36 3) fun (v_10 : Int32) =>
  spl (α := Int32) (r_7 * 2) fun (v_17 : Int32) =>
  ((v_17 : Int32), f_4)
set_option maxRecDepth 100000 in
noncomputable def sX3_does_0_1_0_f0_f0_b53 (x2 : Int32) (fp_53 : sg_F) (L : sg_L) : Int32 × sg_F :=
  spl (α := Int32) (fp_53 36 3) fun (v_2 : Int32) =>
  spl (α := Int32) (fp_53 36 4) fun (v_5 : Int32) =>
  spl (α := Int32) (v_2 + 1) fun (v_9 : Int32) =>
  spl (α := sg_F) (sg_up fp_53 36 (sgu (fp_53 36) 3 v_9)) fun (f_11 : sg_F) =>
  spl2 (sX3_runs_10_m1_1_f1_f0 x2 f_11 L) fun (r_18 : Int32) (f_15 : sg_F) =>
  spl (α := Int32) (f_15 36 3) fun (v_21 : Int32) =>
  ((r_18 : Int32), f_15)
set_option maxRecDepth 100000 in
noncomputable def sX3_does_0_1_0_f0_f0 (x2 : Int32) (f : sg_F) (L : sg_L) : Int32 × sg_F :=
  spl (sX3_ownerOf_0_1 f L) fun (r_33 : Int32) =>
  spl (α := sg_F) (sg_up f 38 (sgu (f 38) 0 10)) fun (f_35 : sg_F) =>
  sX3_does_0_1_0_f0_f0_b53 x2 f_35 L
set_option maxRecDepth 100000 in
noncomputable def sX3_ownerOf_1_1 (f : sg_F) (L : sg_L) : Int32 :=
  ((0 : Int32))
set_option maxRecDepth 100000 in
noncomputable def sX3_runs_1_m1_3_f3_f1 (x2 : Int32) (f : sg_F) (L : sg_L) : Int32 :=
  spl (α := Int32) (f 36 5) fun (v_2 : Int32) =>
  spl (α := Int32) (x2 + v_2) fun (v_4 : Int32) =>
  ((v_4 : Int32))
set_option maxRecDepth 100000 in
noncomputable def sX3_does_0_0_2_f2_f1_b53 (x2 : Int32) (fp_53 : sg_F) (L : sg_L) : Int32 × sg_F :=
  spl (α := Int32) (fp_53 36 3) fun (v_2 : Int32) =>
  spl (α := Int32) (fp_53 36 4) fun (v_5 : Int32) =>
  spl (α := Int32) (v_2 + 1) fun (v_9 : Int32) =>
  spl (α := sg_F) (sg_up fp_53 36 (sgu (fp_53 36) 3 v_9)) fun (f_11 : sg_F) =>
  spl (sX3_runs_1_m1_3_f3_f1 x2 f_11 L) fun (r_18 : Int32) =>
  ((r_18 : Int32), f_11)
set_option maxRecDepth 100000 in
noncomputable def sX3_does_0_0_2_f2_f1 (x2 : Int32) (f : sg_F) (L : sg_L) : Int32 × sg_F :=
  spl (sX3_ownerOf_0_0 f L) fun (r_31 : Int32) =>
  spl (α := sg_F) (sg_up f 38 (sgu (f 38) 2 1)) fun (f_33 : sg_F) =>
  sX3_does_0_0_2_f2_f1_b53 x2 f_33 L
set_option maxRecDepth 100000 in
noncomputable def sX3_runs_20_0_2_f2_f1 (x2 : Int32) (f : sg_F) (L : sg_L) : Int32 × sg_F :=
  spl2 (sX3_does_0_0_2_f2_f1 x2 f L) fun (r_7 : Int32) (f_4 : sg_F) =>
  spl (α := Int32) (f_4 36 3) fun (v_10 : Int32) =>
  spl (α := Int32) (r_7 + 3) fun (v_17 : Int32) =>
  ((v_17 : Int32), f_4)
set_option maxRecDepth 100000 in
noncomputable def sX3_does_1_0_1_f1_f1_b53 (x2 : Int32) (fp_53 : sg_F) (L : sg_L) : Int32 × sg_F :=
  spl (α := Int32) (fp_53 36 3) fun (v_2 : Int32) =>
  spl (α := Int32) (fp_53 36 4) fun (v_5 : Int32) =>
  spl (α := Int32) (v_2 + 1) fun (v_9 : Int32) =>
  spl (α := sg_F) (sg_up fp_53 36 (sgu (fp_53 36) 3 v_9)) fun (f_11 : sg_F) =>
  spl2 (sX3_runs_20_0_2_f2_f1 x2 f_11 L) fun (r_18 : Int32) (f_15 : sg_F) =>
  spl (α := Int32) (f_15 36 3) fun (v_21 : Int32) =>
  ((r_18 : Int32), f_15)
set_option maxRecDepth 100000 in
noncomputable def sX3_does_1_0_1_f1_f1 (x2 : Int32) (f : sg_F) (L : sg_L) : Int32 × sg_F :=
  spl (sX3_ownerOf_1_0 f L) fun (r_33 : Int32) =>
  spl (α := sg_F) (sg_up f 38 (sgu (f 38) 1 20)) fun (f_35 : sg_F) =>
  sX3_does_1_0_1_f1_f1_b53 x2 f_35 L
set_option maxRecDepth 100000 in
noncomputable def sX3_runs_10_m1_1_f1_f1 (x2 : Int32) (f : sg_F) (L : sg_L) : Int32 × sg_F :=
  spl2 (sX3_does_1_0_1_f1_f1 x2 f L) fun (r_7 : Int32) (f_4 : sg_F) =>
  spl (α := Int32) (f_4 36 3) fun (v_10 : Int32) =>
  spl (α := Int32) (r_7 * 2) fun (v_17 : Int32) =>
  ((v_17 : Int32), f_4)
set_option maxRecDepth 100000 in
noncomputable def sX3_does_1_1_0_f0_f1_b53 (x2 : Int32) (fp_53 : sg_F) (L : sg_L) : Int32 × sg_F :=
  spl (α := Int32) (fp_53 36 3) fun (v_2 : Int32) =>
  spl (α := Int32) (fp_53 36 4) fun (v_5 : Int32) =>
  spl (α := Int32) (v_2 + 1) fun (v_9 : Int32) =>
  spl (α := sg_F) (sg_up fp_53 36 (sgu (fp_53 36) 3 v_9)) fun (f_11 : sg_F) =>
  spl2 (sX3_runs_10_m1_1_f1_f1 x2 f_11 L) fun (r_18 : Int32) (f_15 : sg_F) =>
  spl (α := Int32) (f_15 36 3) fun (v_21 : Int32) =>
  ((r_18 : Int32), f_15)
set_option maxRecDepth 100000 in
noncomputable def sX3_does_1_1_0_f0_f1 (x2 : Int32) (f : sg_F) (L : sg_L) : Int32 × sg_F :=
  spl (sX3_ownerOf_1_1 f L) fun (r_33 : Int32) =>
  spl (α := sg_F) (sg_up f 38 (sgu (f 38) 0 10)) fun (f_35 : sg_F) =>
  sX3_does_1_1_0_f0_f1_b53 x2 f_35 L
set_option maxRecDepth 100000 in
noncomputable def sX3_ownerOf_2_1 (f : sg_F) (L : sg_L) : Int32 :=
  ((2 : Int32))
set_option maxRecDepth 100000 in
noncomputable def sX3_runs_1_m1_3_f3_f2 (x2 : Int32) (f : sg_F) (L : sg_L) : Int32 :=
  spl (α := Int32) (f 36 5) fun (v_2 : Int32) =>
  spl (α := Int32) (x2 + v_2) fun (v_4 : Int32) =>
  ((v_4 : Int32))
set_option maxRecDepth 100000 in
noncomputable def sX3_does_2_0_2_f2_f2_b53 (x2 : Int32) (fp_53 : sg_F) (L : sg_L) : Int32 × sg_F :=
  spl (α := Int32) (fp_53 36 3) fun (v_2 : Int32) =>
  spl (α := Int32) (fp_53 36 4) fun (v_5 : Int32) =>
  spl (α := Int32) (v_2 + 1) fun (v_9 : Int32) =>
  spl (α := sg_F) (sg_up fp_53 36 (sgu (fp_53 36) 3 v_9)) fun (f_11 : sg_F) =>
  spl (sX3_runs_1_m1_3_f3_f2 x2 f_11 L) fun (r_18 : Int32) =>
  ((r_18 : Int32), f_11)
set_option maxRecDepth 100000 in
noncomputable def sX3_does_2_0_2_f2_f2 (x2 : Int32) (f : sg_F) (L : sg_L) : Int32 × sg_F :=
  spl (sX3_ownerOf_2_0 f L) fun (r_31 : Int32) =>
  spl (α := sg_F) (sg_up f 38 (sgu (f 38) 2 1)) fun (f_33 : sg_F) =>
  sX3_does_2_0_2_f2_f2_b53 x2 f_33 L
set_option maxRecDepth 100000 in
noncomputable def sX3_runs_10_m1_2_f2_f2 (x2 : Int32) (f : sg_F) (L : sg_L) : Int32 × sg_F :=
  spl2 (sX3_does_2_0_2_f2_f2 x2 f L) fun (r_7 : Int32) (f_4 : sg_F) =>
  spl (α := Int32) (f_4 36 3) fun (v_10 : Int32) =>
  spl (α := Int32) (r_7 * 2) fun (v_17 : Int32) =>
  ((v_17 : Int32), f_4)
set_option maxRecDepth 100000 in
noncomputable def sX3_does_0_1_1_f1_f2_b53 (x2 : Int32) (fp_53 : sg_F) (L : sg_L) : Int32 × sg_F :=
  spl (α := Int32) (fp_53 36 3) fun (v_2 : Int32) =>
  spl (α := Int32) (fp_53 36 4) fun (v_5 : Int32) =>
  spl (α := Int32) (v_2 + 1) fun (v_9 : Int32) =>
  spl (α := sg_F) (sg_up fp_53 36 (sgu (fp_53 36) 3 v_9)) fun (f_11 : sg_F) =>
  spl2 (sX3_runs_10_m1_2_f2_f2 x2 f_11 L) fun (r_18 : Int32) (f_15 : sg_F) =>
  spl (α := Int32) (f_15 36 3) fun (v_21 : Int32) =>
  ((r_18 : Int32), f_15)
set_option maxRecDepth 100000 in
noncomputable def sX3_does_0_1_1_f1_f2 (x2 : Int32) (f : sg_F) (L : sg_L) : Int32 × sg_F :=
  spl (sX3_ownerOf_0_1 f L) fun (r_33 : Int32) =>
  spl (α := sg_F) (sg_up f 38 (sgu (f 38) 1 10)) fun (f_35 : sg_F) =>
  sX3_does_0_1_1_f1_f2_b53 x2 f_35 L
set_option maxRecDepth 100000 in
noncomputable def sX3_runs_30_0_1_f1_f2 (x2 : Int32) (f : sg_F) (L : sg_L) : Int32 × sg_F :=
  spl2 (sX3_does_0_1_1_f1_f2 x2 f L) fun (r_7 : Int32) (f_4 : sg_F) =>
  spl (α := Int32) (f_4 36 3) fun (v_10 : Int32) =>
  spl (α := Int32) ((-r_7)) fun (v_17 : Int32) =>
  ((v_17 : Int32), f_4)
set_option maxRecDepth 100000 in
noncomputable def sX3_does_2_1_0_f0_f2_b53 (x2 : Int32) (fp_53 : sg_F) (L : sg_L) : Int32 × sg_F :=
  spl (α := Int32) (fp_53 36 3) fun (v_2 : Int32) =>
  spl (α := Int32) (fp_53 36 4) fun (v_5 : Int32) =>
  spl (α := Int32) (v_2 + 1) fun (v_9 : Int32) =>
  spl (α := sg_F) (sg_up fp_53 36 (sgu (fp_53 36) 3 v_9)) fun (f_11 : sg_F) =>
  spl2 (sX3_runs_30_0_1_f1_f2 x2 f_11 L) fun (r_18 : Int32) (f_15 : sg_F) =>
  spl (α := Int32) (f_15 36 3) fun (v_21 : Int32) =>
  ((r_18 : Int32), f_15)
set_option maxRecDepth 100000 in
noncomputable def sX3_does_2_1_0_f0_f2 (x2 : Int32) (f : sg_F) (L : sg_L) : Int32 × sg_F :=
  spl (sX3_ownerOf_2_1 f L) fun (r_33 : Int32) =>
  spl (α := sg_F) (sg_up f 38 (sgu (f 38) 0 30)) fun (f_35 : sg_F) =>
  sX3_does_2_1_0_f0_f2_b53 x2 f_35 L
set_option maxRecDepth 100000 in
noncomputable def sX3_ownerOf_3_1 (f : sg_F) (L : sg_L) : Int32 :=
  ((3 : Int32))
set_option maxRecDepth 100000 in
noncomputable def sX3_runs_1_m1_4_f4_f3 (x2 : Int32) (f : sg_F) (L : sg_L) : Int32 :=
  spl (α := Int32) (f 36 5) fun (v_2 : Int32) =>
  spl (α := Int32) (x2 + v_2) fun (v_4 : Int32) =>
  ((v_4 : Int32))
set_option maxRecDepth 100000 in
noncomputable def sX3_does_3_0_3_f3_f3_b53 (x2 : Int32) (fp_53 : sg_F) (L : sg_L) : Int32 × sg_F :=
  spl (α := Int32) (fp_53 36 3) fun (v_2 : Int32) =>
  spl (α := Int32) (fp_53 36 4) fun (v_5 : Int32) =>
  spl (α := Int32) (v_2 + 1) fun (v_9 : Int32) =>
  spl (α := sg_F) (sg_up fp_53 36 (sgu (fp_53 36) 3 v_9)) fun (f_11 : sg_F) =>
  spl (sX3_runs_1_m1_4_f4_f3 x2 f_11 L) fun (r_18 : Int32) =>
  ((r_18 : Int32), f_11)
set_option maxRecDepth 100000 in
noncomputable def sX3_does_3_0_3_f3_f3 (x2 : Int32) (f : sg_F) (L : sg_L) : Int32 × sg_F :=
  spl (sX3_ownerOf_3_0 f L) fun (r_31 : Int32) =>
  spl (α := sg_F) (sg_up f 38 (sgu (f 38) 3 1)) fun (f_33 : sg_F) =>
  sX3_does_3_0_3_f3_f3_b53 x2 f_33 L
set_option maxRecDepth 100000 in
noncomputable def sX3_runs_10_m1_3_f3_f3 (x2 : Int32) (f : sg_F) (L : sg_L) : Int32 × sg_F :=
  spl2 (sX3_does_3_0_3_f3_f3 x2 f L) fun (r_7 : Int32) (f_4 : sg_F) =>
  spl (α := Int32) (f_4 36 3) fun (v_10 : Int32) =>
  spl (α := Int32) (r_7 * 2) fun (v_17 : Int32) =>
  ((v_17 : Int32), f_4)
set_option maxRecDepth 100000 in
noncomputable def sX3_does_0_1_2_f2_f3_b53 (x2 : Int32) (fp_53 : sg_F) (L : sg_L) : Int32 × sg_F :=
  spl (α := Int32) (fp_53 36 3) fun (v_2 : Int32) =>
  spl (α := Int32) (fp_53 36 4) fun (v_5 : Int32) =>
  spl (α := Int32) (v_2 + 1) fun (v_9 : Int32) =>
  spl (α := sg_F) (sg_up fp_53 36 (sgu (fp_53 36) 3 v_9)) fun (f_11 : sg_F) =>
  spl2 (sX3_runs_10_m1_3_f3_f3 x2 f_11 L) fun (r_18 : Int32) (f_15 : sg_F) =>
  spl (α := Int32) (f_15 36 3) fun (v_21 : Int32) =>
  ((r_18 : Int32), f_15)
set_option maxRecDepth 100000 in
noncomputable def sX3_does_0_1_2_f2_f3 (x2 : Int32) (f : sg_F) (L : sg_L) : Int32 × sg_F :=
  spl (sX3_ownerOf_0_1 f L) fun (r_33 : Int32) =>
  spl (α := sg_F) (sg_up f 38 (sgu (f 38) 2 10)) fun (f_35 : sg_F) =>
  sX3_does_0_1_2_f2_f3_b53 x2 f_35 L
set_option maxRecDepth 100000 in
noncomputable def sX3_runs_30_0_2_f2_f3 (x2 : Int32) (f : sg_F) (L : sg_L) : Int32 × sg_F :=
  spl2 (sX3_does_0_1_2_f2_f3 x2 f L) fun (r_7 : Int32) (f_4 : sg_F) =>
  spl (α := Int32) (f_4 36 3) fun (v_10 : Int32) =>
  spl (α := Int32) ((-r_7)) fun (v_17 : Int32) =>
  ((v_17 : Int32), f_4)
set_option maxRecDepth 100000 in
noncomputable def sX3_does_2_1_1_f1_f3_b53 (x2 : Int32) (fp_53 : sg_F) (L : sg_L) : Int32 × sg_F :=
  spl (α := Int32) (fp_53 36 3) fun (v_2 : Int32) =>
  spl (α := Int32) (fp_53 36 4) fun (v_5 : Int32) =>
  spl (α := Int32) (v_2 + 1) fun (v_9 : Int32) =>
  spl (α := sg_F) (sg_up fp_53 36 (sgu (fp_53 36) 3 v_9)) fun (f_11 : sg_F) =>
  spl2 (sX3_runs_30_0_2_f2_f3 x2 f_11 L) fun (r_18 : Int32) (f_15 : sg_F) =>
  spl (α := Int32) (f_15 36 3) fun (v_21 : Int32) =>
  ((r_18 : Int32), f_15)
set_option maxRecDepth 100000 in
noncomputable def sX3_does_2_1_1_f1_f3 (x2 : Int32) (f : sg_F) (L : sg_L) : Int32 × sg_F :=
  spl (sX3_ownerOf_2_1 f L) fun (r_33 : Int32) =>
  spl (α := sg_F) (sg_up f 38 (sgu (f 38) 1 30)) fun (f_35 : sg_F) =>
  sX3_does_2_1_1_f1_f3_b53 x2 f_35 L
set_option maxRecDepth 100000 in
noncomputable def sX3_runs_41_2_1_f1_f3 (x2 : Int32) (f : sg_F) (L : sg_L) : Int32 × sg_F :=
  spl (α := Int32) (x2 + 1) fun (v_2 : Int32) =>
  spl2 (sX3_does_2_1_1_f1_f3 v_2 f L) fun (r_8 : Int32) (f_5 : sg_F) =>
  spl (α := Int32) (f_5 36 3) fun (v_11 : Int32) =>
  ((r_8 : Int32), f_5)
set_option maxRecDepth 100000 in
noncomputable def sX3_does_3_1_0_f0_f3_b53 (x2 : Int32) (fp_53 : sg_F) (L : sg_L) : Int32 × sg_F :=
  spl (α := Int32) (fp_53 36 3) fun (v_2 : Int32) =>
  spl (α := Int32) (fp_53 36 4) fun (v_5 : Int32) =>
  spl (α := Int32) (v_2 + 1) fun (v_9 : Int32) =>
  spl (α := sg_F) (sg_up fp_53 36 (sgu (fp_53 36) 3 v_9)) fun (f_11 : sg_F) =>
  spl2 (sX3_runs_41_2_1_f1_f3 x2 f_11 L) fun (r_18 : Int32) (f_15 : sg_F) =>
  spl (α := Int32) (f_15 36 3) fun (v_21 : Int32) =>
  ((r_18 : Int32), f_15)
set_option maxRecDepth 100000 in
noncomputable def sX3_does_3_1_0_f0_f3 (x2 : Int32) (f : sg_F) (L : sg_L) : Int32 × sg_F :=
  spl (sX3_ownerOf_3_1 f L) fun (r_33 : Int32) =>
  spl (α := sg_F) (sg_up f 38 (sgu (f 38) 0 41)) fun (f_35 : sg_F) =>
  sX3_does_3_1_0_f0_f3_b53 x2 f_35 L
set_option maxRecDepth 100000 in
noncomputable def sX3_ownerOf_4_1 (f : sg_F) (L : sg_L) : Int32 :=
  ((0 : Int32))
set_option maxRecDepth 100000 in
noncomputable def sX3_runs_1_m1_3_f3_f4 (x2 : Int32) (f : sg_F) (L : sg_L) : Int32 :=
  spl (α := Int32) (f 36 5) fun (v_2 : Int32) =>
  spl (α := Int32) (x2 + v_2) fun (v_4 : Int32) =>
  ((v_4 : Int32))
set_option maxRecDepth 100000 in
noncomputable def sX3_does_0_0_2_f2_f4_b53 (x2 : Int32) (fp_53 : sg_F) (L : sg_L) : Int32 × sg_F :=
  spl (α := Int32) (fp_53 36 3) fun (v_2 : Int32) =>
  spl (α := Int32) (fp_53 36 4) fun (v_5 : Int32) =>
  spl (α := Int32) (v_2 + 1) fun (v_9 : Int32) =>
  spl (α := sg_F) (sg_up fp_53 36 (sgu (fp_53 36) 3 v_9)) fun (f_11 : sg_F) =>
  spl (sX3_runs_1_m1_3_f3_f4 x2 f_11 L) fun (r_18 : Int32) =>
  ((r_18 : Int32), f_11)
set_option maxRecDepth 100000 in
noncomputable def sX3_does_0_0_2_f2_f4 (x2 : Int32) (f : sg_F) (L : sg_L) : Int32 × sg_F :=
  spl (sX3_ownerOf_0_0 f L) fun (r_31 : Int32) =>
  spl (α := sg_F) (sg_up f 38 (sgu (f 38) 2 1)) fun (f_33 : sg_F) =>
  sX3_does_0_0_2_f2_f4_b53 x2 f_33 L
set_option maxRecDepth 100000 in
noncomputable def sX3_runs_20_0_2_f2_f4 (x2 : Int32) (f : sg_F) (L : sg_L) : Int32 × sg_F :=
  spl2 (sX3_does_0_0_2_f2_f4 x2 f L) fun (r_7 : Int32) (f_4 : sg_F) =>
  spl (α := Int32) (f_4 36 3) fun (v_10 : Int32) =>
  spl (α := Int32) (r_7 + 3) fun (v_17 : Int32) =>
  ((v_17 : Int32), f_4)
set_option maxRecDepth 100000 in
noncomputable def sX3_does_4_0_1_f1_f4_b53 (x2 : Int32) (fp_53 : sg_F) (L : sg_L) : Int32 × sg_F :=
  spl (α := Int32) (fp_53 36 3) fun (v_2 : Int32) =>
  spl (α := Int32) (fp_53 36 4) fun (v_5 : Int32) =>
  spl (α := Int32) (v_2 + 1) fun (v_9 : Int32) =>
  spl (α := sg_F) (sg_up fp_53 36 (sgu (fp_53 36) 3 v_9)) fun (f_11 : sg_F) =>
  spl2 (sX3_runs_20_0_2_f2_f4 x2 f_11 L) fun (r_18 : Int32) (f_15 : sg_F) =>
  spl (α := Int32) (f_15 36 3) fun (v_21 : Int32) =>
  ((r_18 : Int32), f_15)
set_option maxRecDepth 100000 in
noncomputable def sX3_does_4_0_1_f1_f4 (x2 : Int32) (f : sg_F) (L : sg_L) : Int32 × sg_F :=
  spl (sX3_ownerOf_4_0 f L) fun (r_33 : Int32) =>
  spl (α := sg_F) (sg_up f 38 (sgu (f 38) 1 20)) fun (f_35 : sg_F) =>
  sX3_does_4_0_1_f1_f4_b53 x2 f_35 L
set_option maxRecDepth 100000 in
noncomputable def sX3_runs_10_m1_1_f1_f4 (x2 : Int32) (f : sg_F) (L : sg_L) : Int32 × sg_F :=
  spl2 (sX3_does_4_0_1_f1_f4 x2 f L) fun (r_7 : Int32) (f_4 : sg_F) =>
  spl (α := Int32) (f_4 36 3) fun (v_10 : Int32) =>
  spl (α := Int32) (r_7 * 2) fun (v_17 : Int32) =>
  ((v_17 : Int32), f_4)
set_option maxRecDepth 100000 in
noncomputable def sX3_does_4_1_0_f0_f4_b53 (x2 : Int32) (fp_53 : sg_F) (L : sg_L) : Int32 × sg_F :=
  spl (α := Int32) (fp_53 36 3) fun (v_2 : Int32) =>
  spl (α := Int32) (fp_53 36 4) fun (v_5 : Int32) =>
  spl (α := Int32) (v_2 + 1) fun (v_9 : Int32) =>
  spl (α := sg_F) (sg_up fp_53 36 (sgu (fp_53 36) 3 v_9)) fun (f_11 : sg_F) =>
  spl2 (sX3_runs_10_m1_1_f1_f4 x2 f_11 L) fun (r_18 : Int32) (f_15 : sg_F) =>
  spl (α := Int32) (f_15 36 3) fun (v_21 : Int32) =>
  ((r_18 : Int32), f_15)
set_option maxRecDepth 100000 in
noncomputable def sX3_does_4_1_0_f0_f4 (x2 : Int32) (f : sg_F) (L : sg_L) : Int32 × sg_F :=
  spl (sX3_ownerOf_4_1 f L) fun (r_33 : Int32) =>
  spl (α := sg_F) (sg_up f 38 (sgu (f 38) 0 10)) fun (f_35 : sg_F) =>
  sX3_does_4_1_0_f0_f4_b53 x2 f_35 L
set_option maxRecDepth 100000 in
noncomputable def sX3_ownerOf_5_1 (f : sg_F) (L : sg_L) : Int32 :=
  ((3 : Int32))
set_option maxRecDepth 100000 in
noncomputable def sX3_runs_1_m1_4_f4_f5 (x2 : Int32) (f : sg_F) (L : sg_L) : Int32 :=
  spl (α := Int32) (f 36 5) fun (v_2 : Int32) =>
  spl (α := Int32) (x2 + v_2) fun (v_4 : Int32) =>
  ((v_4 : Int32))
set_option maxRecDepth 100000 in
noncomputable def sX3_does_5_0_3_f3_f5_b53 (x2 : Int32) (fp_53 : sg_F) (L : sg_L) : Int32 × sg_F :=
  spl (α := Int32) (fp_53 36 3) fun (v_2 : Int32) =>
  spl (α := Int32) (fp_53 36 4) fun (v_5 : Int32) =>
  spl (α := Int32) (v_2 + 1) fun (v_9 : Int32) =>
  spl (α := sg_F) (sg_up fp_53 36 (sgu (fp_53 36) 3 v_9)) fun (f_11 : sg_F) =>
  spl (sX3_runs_1_m1_4_f4_f5 x2 f_11 L) fun (r_18 : Int32) =>
  ((r_18 : Int32), f_11)
set_option maxRecDepth 100000 in
noncomputable def sX3_does_5_0_3_f3_f5 (x2 : Int32) (f : sg_F) (L : sg_L) : Int32 × sg_F :=
  spl (sX3_ownerOf_5_0 f L) fun (r_31 : Int32) =>
  spl (α := sg_F) (sg_up f 38 (sgu (f 38) 3 1)) fun (f_33 : sg_F) =>
  sX3_does_5_0_3_f3_f5_b53 x2 f_33 L
set_option maxRecDepth 100000 in
noncomputable def sX3_runs_10_m1_3_f3_f5 (x2 : Int32) (f : sg_F) (L : sg_L) : Int32 × sg_F :=
  spl2 (sX3_does_5_0_3_f3_f5 x2 f L) fun (r_7 : Int32) (f_4 : sg_F) =>
  spl (α := Int32) (f_4 36 3) fun (v_10 : Int32) =>
  spl (α := Int32) (r_7 * 2) fun (v_17 : Int32) =>
  ((v_17 : Int32), f_4)
set_option maxRecDepth 100000 in
noncomputable def sX3_does_0_1_2_f2_f5_b53 (x2 : Int32) (fp_53 : sg_F) (L : sg_L) : Int32 × sg_F :=
  spl (α := Int32) (fp_53 36 3) fun (v_2 : Int32) =>
  spl (α := Int32) (fp_53 36 4) fun (v_5 : Int32) =>
  spl (α := Int32) (v_2 + 1) fun (v_9 : Int32) =>
  spl (α := sg_F) (sg_up fp_53 36 (sgu (fp_53 36) 3 v_9)) fun (f_11 : sg_F) =>
  spl2 (sX3_runs_10_m1_3_f3_f5 x2 f_11 L) fun (r_18 : Int32) (f_15 : sg_F) =>
  spl (α := Int32) (f_15 36 3) fun (v_21 : Int32) =>
  ((r_18 : Int32), f_15)
set_option maxRecDepth 100000 in
noncomputable def sX3_does_0_1_2_f2_f5 (x2 : Int32) (f : sg_F) (L : sg_L) : Int32 × sg_F :=
  spl (sX3_ownerOf_0_1 f L) fun (r_33 : Int32) =>
  spl (α := sg_F) (sg_up f 38 (sgu (f 38) 2 10)) fun (f_35 : sg_F) =>
  sX3_does_0_1_2_f2_f5_b53 x2 f_35 L
set_option maxRecDepth 100000 in
noncomputable def sX3_runs_30_0_2_f2_f5 (x2 : Int32) (f : sg_F) (L : sg_L) : Int32 × sg_F :=
  spl2 (sX3_does_0_1_2_f2_f5 x2 f L) fun (r_7 : Int32) (f_4 : sg_F) =>
  spl (α := Int32) (f_4 36 3) fun (v_10 : Int32) =>
  spl (α := Int32) ((-r_7)) fun (v_17 : Int32) =>
  ((v_17 : Int32), f_4)
set_option maxRecDepth 100000 in
noncomputable def sX3_does_2_1_1_f1_f5_b53 (x2 : Int32) (fp_53 : sg_F) (L : sg_L) : Int32 × sg_F :=
  spl (α := Int32) (fp_53 36 3) fun (v_2 : Int32) =>
  spl (α := Int32) (fp_53 36 4) fun (v_5 : Int32) =>
  spl (α := Int32) (v_2 + 1) fun (v_9 : Int32) =>
  spl (α := sg_F) (sg_up fp_53 36 (sgu (fp_53 36) 3 v_9)) fun (f_11 : sg_F) =>
  spl2 (sX3_runs_30_0_2_f2_f5 x2 f_11 L) fun (r_18 : Int32) (f_15 : sg_F) =>
  spl (α := Int32) (f_15 36 3) fun (v_21 : Int32) =>
  ((r_18 : Int32), f_15)
set_option maxRecDepth 100000 in
noncomputable def sX3_does_2_1_1_f1_f5 (x2 : Int32) (f : sg_F) (L : sg_L) : Int32 × sg_F :=
  spl (sX3_ownerOf_2_1 f L) fun (r_33 : Int32) =>
  spl (α := sg_F) (sg_up f 38 (sgu (f 38) 1 30)) fun (f_35 : sg_F) =>
  sX3_does_2_1_1_f1_f5_b53 x2 f_35 L
set_option maxRecDepth 100000 in
noncomputable def sX3_runs_41_2_1_f1_f5 (x2 : Int32) (f : sg_F) (L : sg_L) : Int32 × sg_F :=
  spl (α := Int32) (x2 + 1) fun (v_2 : Int32) =>
  spl2 (sX3_does_2_1_1_f1_f5 v_2 f L) fun (r_8 : Int32) (f_5 : sg_F) =>
  spl (α := Int32) (f_5 36 3) fun (v_11 : Int32) =>
  ((r_8 : Int32), f_5)
set_option maxRecDepth 100000 in
noncomputable def sX3_does_5_1_0_f0_f5_b53 (x2 : Int32) (fp_53 : sg_F) (L : sg_L) : Int32 × sg_F :=
  spl (α := Int32) (fp_53 36 3) fun (v_2 : Int32) =>
  spl (α := Int32) (fp_53 36 4) fun (v_5 : Int32) =>
  spl (α := Int32) (v_2 + 1) fun (v_9 : Int32) =>
  spl (α := sg_F) (sg_up fp_53 36 (sgu (fp_53 36) 3 v_9)) fun (f_11 : sg_F) =>
  spl2 (sX3_runs_41_2_1_f1_f5 x2 f_11 L) fun (r_18 : Int32) (f_15 : sg_F) =>
  spl (α := Int32) (f_15 36 3) fun (v_21 : Int32) =>
  ((r_18 : Int32), f_15)
set_option maxRecDepth 100000 in
noncomputable def sX3_does_5_1_0_f0_f5 (x2 : Int32) (f : sg_F) (L : sg_L) : Int32 × sg_F :=
  spl (sX3_ownerOf_5_1 f L) fun (r_33 : Int32) =>
  spl (α := sg_F) (sg_up f 38 (sgu (f 38) 0 41)) fun (f_35 : sg_F) =>
  sX3_does_5_1_0_f0_f5_b53 x2 f_35 L
set_option maxRecDepth 100000 in
noncomputable def sX3_ownerOf_6_1 (f : sg_F) (L : sg_L) : Int32 :=
  ((0 : Int32))
set_option maxRecDepth 100000 in
noncomputable def sX3_runs_1_m1_3_f3_f6 (x2 : Int32) (f : sg_F) (L : sg_L) : Int32 :=
  spl (α := Int32) (f 36 5) fun (v_2 : Int32) =>
  spl (α := Int32) (x2 + v_2) fun (v_4 : Int32) =>
  ((v_4 : Int32))
set_option maxRecDepth 100000 in
noncomputable def sX3_does_0_0_2_f2_f6_b53 (x2 : Int32) (fp_53 : sg_F) (L : sg_L) : Int32 × sg_F :=
  spl (α := Int32) (fp_53 36 3) fun (v_2 : Int32) =>
  spl (α := Int32) (fp_53 36 4) fun (v_5 : Int32) =>
  spl (α := Int32) (v_2 + 1) fun (v_9 : Int32) =>
  spl (α := sg_F) (sg_up fp_53 36 (sgu (fp_53 36) 3 v_9)) fun (f_11 : sg_F) =>
  spl (sX3_runs_1_m1_3_f3_f6 x2 f_11 L) fun (r_18 : Int32) =>
  ((r_18 : Int32), f_11)
set_option maxRecDepth 100000 in
noncomputable def sX3_does_0_0_2_f2_f6 (x2 : Int32) (f : sg_F) (L : sg_L) : Int32 × sg_F :=
  spl (sX3_ownerOf_0_0 f L) fun (r_31 : Int32) =>
  spl (α := sg_F) (sg_up f 38 (sgu (f 38) 2 1)) fun (f_33 : sg_F) =>
  sX3_does_0_0_2_f2_f6_b53 x2 f_33 L
set_option maxRecDepth 100000 in
noncomputable def sX3_runs_70_0_2_f2_f6 (x2 : Int32) (f : sg_F) (L : sg_L) : Int32 × sg_F :=
  spl2 (sX3_does_0_0_2_f2_f6 x2 f L) fun (r_7 : Int32) (f_4 : sg_F) =>
  spl (α := Int32) (f_4 36 3) fun (v_10 : Int32) =>
  spl (α := Int32) (r_7 * 2) fun (v_17 : Int32) =>
  ((v_17 : Int32), f_4)
set_option maxRecDepth 100000 in
noncomputable def sX3_does_6_0_1_f1_f6_b53 (x2 : Int32) (fp_53 : sg_F) (L : sg_L) : Int32 × sg_F :=
  spl (α := Int32) (fp_53 36 3) fun (v_2 : Int32) =>
  spl (α := Int32) (fp_53 36 4) fun (v_5 : Int32) =>
  spl (α := Int32) (v_2 + 1) fun (v_9 : Int32) =>
  spl (α := sg_F) (sg_up fp_53 36 (sgu (fp_53 36) 3 v_9)) fun (f_11 : sg_F) =>
  spl2 (sX3_runs_70_0_2_f2_f6 x2 f_11 L) fun (r_18 : Int32) (f_15 : sg_F) =>
  spl (α := Int32) (f_15 36 3) fun (v_21 : Int32) =>
  ((r_18 : Int32), f_15)
set_option maxRecDepth 100000 in
noncomputable def sX3_does_6_0_1_f1_f6 (x2 : Int32) (f : sg_F) (L : sg_L) : Int32 × sg_F :=
  spl (sX3_ownerOf_6_0 f L) fun (r_33 : Int32) =>
  spl (α := sg_F) (sg_up f 38 (sgu (f 38) 1 70)) fun (f_35 : sg_F) =>
  sX3_does_6_0_1_f1_f6_b53 x2 f_35 L
set_option maxRecDepth 100000 in
noncomputable def sX3_runs_10_m1_1_f1_f6 (x2 : Int32) (f : sg_F) (L : sg_L) : Int32 × sg_F :=
  spl2 (sX3_does_6_0_1_f1_f6 x2 f L) fun (r_7 : Int32) (f_4 : sg_F) =>
  spl (α := Int32) (f_4 36 3) fun (v_10 : Int32) =>
  spl (α := Int32) (r_7 * 2) fun (v_17 : Int32) =>
  ((v_17 : Int32), f_4)
set_option maxRecDepth 100000 in
noncomputable def sX3_does_6_1_0_f0_f6_b53 (x2 : Int32) (fp_53 : sg_F) (L : sg_L) : Int32 × sg_F :=
  spl (α := Int32) (fp_53 36 3) fun (v_2 : Int32) =>
  spl (α := Int32) (fp_53 36 4) fun (v_5 : Int32) =>
  spl (α := Int32) (v_2 + 1) fun (v_9 : Int32) =>
  spl (α := sg_F) (sg_up fp_53 36 (sgu (fp_53 36) 3 v_9)) fun (f_11 : sg_F) =>
  spl2 (sX3_runs_10_m1_1_f1_f6 x2 f_11 L) fun (r_18 : Int32) (f_15 : sg_F) =>
  spl (α := Int32) (f_15 36 3) fun (v_21 : Int32) =>
  ((r_18 : Int32), f_15)
set_option maxRecDepth 100000 in
noncomputable def sX3_does_6_1_0_f0_f6 (x2 : Int32) (f : sg_F) (L : sg_L) : Int32 × sg_F :=
  spl (sX3_ownerOf_6_1 f L) fun (r_33 : Int32) =>
  spl (α := sg_F) (sg_up f 38 (sgu (f 38) 0 10)) fun (f_35 : sg_F) =>
  sX3_does_6_1_0_f0_f6_b53 x2 f_35 L
set_option maxRecDepth 100000 in
noncomputable def sX3_ownerOf_7_1 (f : sg_F) (L : sg_L) : Int32 :=
  ((7 : Int32))
set_option maxRecDepth 100000 in
noncomputable def sX3_runs_1_m1_4_f4_f7 (x2 : Int32) (f : sg_F) (L : sg_L) : Int32 :=
  spl (α := Int32) (f 36 5) fun (v_2 : Int32) =>
  spl (α := Int32) (x2 + v_2) fun (v_4 : Int32) =>
  ((v_4 : Int32))
set_option maxRecDepth 100000 in
noncomputable def sX3_does_0_0_3_f3_f7_b53 (x2 : Int32) (fp_53 : sg_F) (L : sg_L) : Int32 × sg_F :=
  spl (α := Int32) (fp_53 36 3) fun (v_2 : Int32) =>
  spl (α := Int32) (fp_53 36 4) fun (v_5 : Int32) =>
  spl (α := Int32) (v_2 + 1) fun (v_9 : Int32) =>
  spl (α := sg_F) (sg_up fp_53 36 (sgu (fp_53 36) 3 v_9)) fun (f_11 : sg_F) =>
  spl (sX3_runs_1_m1_4_f4_f7 x2 f_11 L) fun (r_18 : Int32) =>
  ((r_18 : Int32), f_11)
set_option maxRecDepth 100000 in
noncomputable def sX3_does_0_0_3_f3_f7 (x2 : Int32) (f : sg_F) (L : sg_L) : Int32 × sg_F :=
  spl (sX3_ownerOf_0_0 f L) fun (r_31 : Int32) =>
  spl (α := sg_F) (sg_up f 38 (sgu (f 38) 3 1)) fun (f_33 : sg_F) =>
  sX3_does_0_0_3_f3_f7_b53 x2 f_33 L
set_option maxRecDepth 100000 in
noncomputable def sX3_runs_20_0_3_f3_f7 (x2 : Int32) (f : sg_F) (L : sg_L) : Int32 × sg_F :=
  spl2 (sX3_does_0_0_3_f3_f7 x2 f L) fun (r_7 : Int32) (f_4 : sg_F) =>
  spl (α := Int32) (f_4 36 3) fun (v_10 : Int32) =>
  spl (α := Int32) (r_7 + 3) fun (v_17 : Int32) =>
  ((v_17 : Int32), f_4)
set_option maxRecDepth 100000 in
noncomputable def sX3_does_7_0_2_f2_f7_b53 (x2 : Int32) (fp_53 : sg_F) (L : sg_L) : Int32 × sg_F :=
  spl (α := Int32) (fp_53 36 3) fun (v_2 : Int32) =>
  spl (α := Int32) (fp_53 36 4) fun (v_5 : Int32) =>
  spl (α := Int32) (v_2 + 1) fun (v_9 : Int32) =>
  spl (α := sg_F) (sg_up fp_53 36 (sgu (fp_53 36) 3 v_9)) fun (f_11 : sg_F) =>
  spl2 (sX3_runs_20_0_3_f3_f7 x2 f_11 L) fun (r_18 : Int32) (f_15 : sg_F) =>
  spl (α := Int32) (f_15 36 3) fun (v_21 : Int32) =>
  ((r_18 : Int32), f_15)
set_option maxRecDepth 100000 in
noncomputable def sX3_does_7_0_2_f2_f7 (x2 : Int32) (f : sg_F) (L : sg_L) : Int32 × sg_F :=
  spl (sX3_ownerOf_7_0 f L) fun (r_33 : Int32) =>
  spl (α := sg_F) (sg_up f 38 (sgu (f 38) 2 20)) fun (f_35 : sg_F) =>
  sX3_does_7_0_2_f2_f7_b53 x2 f_35 L
set_option maxRecDepth 100000 in
noncomputable def sX3_runs_10_m1_2_f2_f7 (x2 : Int32) (f : sg_F) (L : sg_L) : Int32 × sg_F :=
  spl2 (sX3_does_7_0_2_f2_f7 x2 f L) fun (r_7 : Int32) (f_4 : sg_F) =>
  spl (α := Int32) (f_4 36 3) fun (v_10 : Int32) =>
  spl (α := Int32) (r_7 * 2) fun (v_17 : Int32) =>
  ((v_17 : Int32), f_4)
set_option maxRecDepth 100000 in
noncomputable def sX3_does_4_1_1_f1_f7_b53 (x2 : Int32) (fp_53 : sg_F) (L : sg_L) : Int32 × sg_F :=
  spl (α := Int32) (fp_53 36 3) fun (v_2 : Int32) =>
  spl (α := Int32) (fp_53 36 4) fun (v_5 : Int32) =>
  spl (α := Int32) (v_2 + 1) fun (v_9 : Int32) =>
  spl (α := sg_F) (sg_up fp_53 36 (sgu (fp_53 36) 3 v_9)) fun (f_11 : sg_F) =>
  spl2 (sX3_runs_10_m1_2_f2_f7 x2 f_11 L) fun (r_18 : Int32) (f_15 : sg_F) =>
  spl (α := Int32) (f_15 36 3) fun (v_21 : Int32) =>
  ((r_18 : Int32), f_15)
set_option maxRecDepth 100000 in
noncomputable def sX3_does_4_1_1_f1_f7 (x2 : Int32) (f : sg_F) (L : sg_L) : Int32 × sg_F :=
  spl (sX3_ownerOf_4_1 f L) fun (r_33 : Int32) =>
  spl (α := sg_F) (sg_up f 38 (sgu (f 38) 1 10)) fun (f_35 : sg_F) =>
  sX3_does_4_1_1_f1_f7_b53 x2 f_35 L
set_option maxRecDepth 100000 in
noncomputable def sX3_ownerOf_7_2 (f : sg_F) (L : sg_L) : Int32 :=
  ((4 : Int32))
set_option maxRecDepth 100000 in
noncomputable def sX3_ownerOf_1_2 (f : sg_F) (L : sg_L) : Int32 :=
  ((0 : Int32))
set_option maxRecDepth 100000 in
noncomputable def sX3_runs_11_m1_3_f6_f7 (x2 : Int32) (f : sg_F) (L : sg_L) : Int32 :=
  spl (α := Int32) (f 36 5) fun (v_2 : Int32) =>
  spl (α := Int32) (x2 ^^^ v_2) fun (v_4 : Int32) =>
  ((v_4 : Int32))
set_option maxRecDepth 100000 in
noncomputable def sX3_does_1_2_2_f5_f7_b53 (x2 : Int32) (fp_53 : sg_F) (L : sg_L) : Int32 × sg_F :=
  spl (α := Int32) (fp_53 36 3) fun (v_2 : Int32) =>
  spl (α := Int32) (fp_53 36 4) fun (v_5 : Int32) =>
  spl (α := Int32) (v_2 + 1) fun (v_9 : Int32) =>
  spl (α := sg_F) (sg_up fp_53 36 (sgu (fp_53 36) 3 v_9)) fun (f_11 : sg_F) =>
  spl (sX3_runs_11_m1_3_f6_f7 x2 f_11 L) fun (r_18 : Int32) =>
  ((r_18 : Int32), f_11)
set_option maxRecDepth 100000 in
noncomputable def sX3_does_1_2_2_f5_f7 (x2 : Int32) (f : sg_F) (L : sg_L) : Int32 × sg_F :=
  spl (sX3_ownerOf_1_2 f L) fun (r_31 : Int32) =>
  spl (α := sg_F) (sg_up f 38 (sgu (f 38) 5 11)) fun (f_33 : sg_F) =>
  sX3_does_1_2_2_f5_f7_b53 x2 f_33 L
set_option maxRecDepth 100000 in
noncomputable def sX3_runs_1_m1_4_f8_f7 (x2 : Int32) (f : sg_F) (L : sg_L) : Int32 :=
  spl (α := Int32) (f 36 5) fun (v_2 : Int32) =>
  spl (α := Int32) (x2 + v_2) fun (v_4 : Int32) =>
  ((v_4 : Int32))
set_option maxRecDepth 100000 in
noncomputable def sX3_does_0_0_3_f7_f7_b53 (x2 : Int32) (fp_53 : sg_F) (L : sg_L) : Int32 × sg_F :=
  spl (α := Int32) (fp_53 36 3) fun (v_2 : Int32) =>
  spl (α := Int32) (fp_53 36 4) fun (v_5 : Int32) =>
  spl (α := Int32) (v_2 + 1) fun (v_9 : Int32) =>
  spl (α := sg_F) (sg_up fp_53 36 (sgu (fp_53 36) 3 v_9)) fun (f_11 : sg_F) =>
  spl (sX3_runs_1_m1_4_f8_f7 x2 f_11 L) fun (r_18 : Int32) =>
  ((r_18 : Int32), f_11)
set_option maxRecDepth 100000 in
noncomputable def sX3_does_0_0_3_f7_f7 (x2 : Int32) (f : sg_F) (L : sg_L) : Int32 × sg_F :=
  spl (sX3_ownerOf_0_0 f L) fun (r_31 : Int32) =>
  spl (α := sg_F) (sg_up f 38 (sgu (f 38) 7 1)) fun (f_33 : sg_F) =>
  sX3_does_0_0_3_f7_f7_b53 x2 f_33 L
set_option maxRecDepth 100000 in
noncomputable def sX3_runs_20_0_3_f7_f7 (x2 : Int32) (f : sg_F) (L : sg_L) : Int32 × sg_F :=
  spl2 (sX3_does_0_0_3_f7_f7 x2 f L) fun (r_7 : Int32) (f_4 : sg_F) =>
  spl (α := Int32) (f_4 36 3) fun (v_10 : Int32) =>
  spl (α := Int32) (r_7 + 3) fun (v_17 : Int32) =>
  ((v_17 : Int32), f_4)
set_option maxRecDepth 100000 in
noncomputable def sX3_does_7_0_2_f6_f7_b53 (x2 : Int32) (fp_53 : sg_F) (L : sg_L) : Int32 × sg_F :=
  spl (α := Int32) (fp_53 36 3) fun (v_2 : Int32) =>
  spl (α := Int32) (fp_53 36 4) fun (v_5 : Int32) =>
  spl (α := Int32) (v_2 + 1) fun (v_9 : Int32) =>
  spl (α := sg_F) (sg_up fp_53 36 (sgu (fp_53 36) 3 v_9)) fun (f_11 : sg_F) =>
  spl2 (sX3_runs_20_0_3_f7_f7 x2 f_11 L) fun (r_18 : Int32) (f_15 : sg_F) =>
  spl (α := Int32) (f_15 36 3) fun (v_21 : Int32) =>
  ((r_18 : Int32), f_15)
set_option maxRecDepth 100000 in
noncomputable def sX3_does_7_0_2_f6_f7 (x2 : Int32) (f : sg_F) (L : sg_L) : Int32 × sg_F :=
  spl (sX3_ownerOf_7_0 f L) fun (r_33 : Int32) =>
  spl (α := sg_F) (sg_up f 38 (sgu (f 38) 6 20)) fun (f_35 : sg_F) =>
  sX3_does_7_0_2_f6_f7_b53 x2 f_35 L
set_option maxRecDepth 100000 in
noncomputable def sX3_runs_50_1_2_f5_f7 (x2 : Int32) (f : sg_F) (L : sg_L) : Int32 × sg_F :=
  spl2 (sX3_does_1_2_2_f5_f7 x2 f L) fun (r_7 : Int32) (f_4 : sg_F) =>
  spl (α := Int32) (f_4 36 3) fun (v_10 : Int32) =>
  spl2 (sX3_does_7_0_2_f6_f7 2 f_4 L) fun (r_23 : Int32) (f_20 : sg_F) =>
  spl (α := Int32) (f_20 36 3) fun (v_26 : Int32) =>
  spl (α := Int32) (r_7 - r_23) fun (v_34 : Int32) =>
  ((v_34 : Int32), f_20)
set_option maxRecDepth 100000 in
noncomputable def sX3_does_7_2_1_f4_f7_b53 (x2 : Int32) (fp_53 : sg_F) (L : sg_L) : Int32 × sg_F :=
  spl (α := Int32) (fp_53 36 3) fun (v_2 : Int32) =>
  spl (α := Int32) (fp_53 36 4) fun (v_5 : Int32) =>
  spl (α := Int32) (v_2 + 1) fun (v_9 : Int32) =>
  spl (α := sg_F) (sg_up fp_53 36 (sgu (fp_53 36) 3 v_9)) fun (f_11 : sg_F) =>
  spl2 (sX3_runs_50_1_2_f5_f7 x2 f_11 L) fun (r_18 : Int32) (f_15 : sg_F) =>
  spl (α := Int32) (f_15 36 3) fun (v_21 : Int32) =>
  ((r_18 : Int32), f_15)
set_option maxRecDepth 100000 in
noncomputable def sX3_does_7_2_1_f4_f7 (x2 : Int32) (f : sg_F) (L : sg_L) : Int32 × sg_F :=
  spl (sX3_ownerOf_7_2 f L) fun (r_33 : Int32) =>
  spl (α := sg_F) (sg_up f 38 (sgu (f 38) 4 50)) fun (f_35 : sg_F) =>
  sX3_does_7_2_1_f4_f7_b53 x2 f_35 L
set_option maxRecDepth 100000 in
noncomputable def sX3_runs_80_4_1_f1_f7 (x2 : Int32) (f : sg_F) (L : sg_L) : Int32 × sg_F :=
  spl2 (sX3_does_4_1_1_f1_f7 x2 f L) fun (r_7 : Int32) (f_4 : sg_F) =>
  spl (α := Int32) (f_4 36 3) fun (v_10 : Int32) =>
  spl2 (sX3_does_7_2_1_f4_f7 2 f_4 L) fun (r_23 : Int32) (f_20 : sg_F) =>
  spl (α := Int32) (f_20 36 3) fun (v_26 : Int32) =>
  spl (α := Int32) (r_7 + r_23) fun (v_34 : Int32) =>
  ((v_34 : Int32), f_20)
set_option maxRecDepth 100000 in
noncomputable def sX3_does_7_1_0_f0_f7_b53 (x2 : Int32) (fp_53 : sg_F) (L : sg_L) : Int32 × sg_F :=
  spl (α := Int32) (fp_53 36 3) fun (v_2 : Int32) =>
  spl (α := Int32) (fp_53 36 4) fun (v_5 : Int32) =>
  spl (α := Int32) (v_2 + 1) fun (v_9 : Int32) =>
  spl (α := sg_F) (sg_up fp_53 36 (sgu (fp_53 36) 3 v_9)) fun (f_11 : sg_F) =>
  spl2 (sX3_runs_80_4_1_f1_f7 x2 f_11 L) fun (r_18 : Int32) (f_15 : sg_F) =>
  spl (α := Int32) (f_15 36 3) fun (v_21 : Int32) =>
  ((r_18 : Int32), f_15)
set_option maxRecDepth 100000 in
noncomputable def sX3_does_7_1_0_f0_f7 (x2 : Int32) (f : sg_F) (L : sg_L) : Int32 × sg_F :=
  spl (sX3_ownerOf_7_1 f L) fun (r_33 : Int32) =>
  spl (α := sg_F) (sg_up f 38 (sgu (f 38) 0 80)) fun (f_35 : sg_F) =>
  sX3_does_7_1_0_f0_f7_b53 x2 f_35 L
set_option maxRecDepth 100000 in
noncomputable def sX3_ownerOf_0_2 (f : sg_F) (L : sg_L) : Int32 :=
  ((0 : Int32))
set_option maxRecDepth 100000 in
noncomputable def sX3_runs_11_m1_1_f1_f0 (x2 : Int32) (f : sg_F) (L : sg_L) : Int32 :=
  spl (α := Int32) (f 36 5) fun (v_2 : Int32) =>
  spl (α := Int32) (x2 ^^^ v_2) fun (v_4 : Int32) =>
  ((v_4 : Int32))
set_option maxRecDepth 100000 in
noncomputable def sX3_does_0_2_0_f0_f0_b53 (x2 : Int32) (fp_53 : sg_F) (L : sg_L) : Int32 × sg_F :=
  spl (α := Int32) (fp_53 36 3) fun (v_2 : Int32) =>
  spl (α := Int32) (fp_53 36 4) fun (v_5 : Int32) =>
  spl (α := Int32) (v_2 + 1) fun (v_9 : Int32) =>
  spl (α := sg_F) (sg_up fp_53 36 (sgu (fp_53 36) 3 v_9)) fun (f_11 : sg_F) =>
  spl (sX3_runs_11_m1_1_f1_f0 x2 f_11 L) fun (r_18 : Int32) =>
  ((r_18 : Int32), f_11)
set_option maxRecDepth 100000 in
noncomputable def sX3_does_0_2_0_f0_f0 (x2 : Int32) (f : sg_F) (L : sg_L) : Int32 × sg_F :=
  spl (sX3_ownerOf_0_2 f L) fun (r_31 : Int32) =>
  spl (α := sg_F) (sg_up f 38 (sgu (f 38) 0 11)) fun (f_33 : sg_F) =>
  sX3_does_0_2_0_f0_f0_b53 x2 f_33 L
set_option maxRecDepth 100000 in
noncomputable def sX3_runs_11_m1_1_f1_f1 (x2 : Int32) (f : sg_F) (L : sg_L) : Int32 :=
  spl (α := Int32) (f 36 5) fun (v_2 : Int32) =>
  spl (α := Int32) (x2 ^^^ v_2) fun (v_4 : Int32) =>
  ((v_4 : Int32))
set_option maxRecDepth 100000 in
noncomputable def sX3_does_1_2_0_f0_f1_b53 (x2 : Int32) (fp_53 : sg_F) (L : sg_L) : Int32 × sg_F :=
  spl (α := Int32) (fp_53 36 3) fun (v_2 : Int32) =>
  spl (α := Int32) (fp_53 36 4) fun (v_5 : Int32) =>
  spl (α := Int32) (v_2 + 1) fun (v_9 : Int32) =>
  spl (α := sg_F) (sg_up fp_53 36 (sgu (fp_53 36) 3 v_9)) fun (f_11 : sg_F) =>
  spl (sX3_runs_11_m1_1_f1_f1 x2 f_11 L) fun (r_18 : Int32) =>
  ((r_18 : Int32), f_11)
set_option maxRecDepth 100000 in
noncomputable def sX3_does_1_2_0_f0_f1 (x2 : Int32) (f : sg_F) (L : sg_L) : Int32 × sg_F :=
  spl (sX3_ownerOf_1_2 f L) fun (r_31 : Int32) =>
  spl (α := sg_F) (sg_up f 38 (sgu (f 38) 0 11)) fun (f_33 : sg_F) =>
  sX3_does_1_2_0_f0_f1_b53 x2 f_33 L
set_option maxRecDepth 100000 in
noncomputable def sX3_ownerOf_2_2 (f : sg_F) (L : sg_L) : Int32 :=
  ((0 : Int32))
set_option maxRecDepth 100000 in
noncomputable def sX3_runs_11_m1_1_f1_f2 (x2 : Int32) (f : sg_F) (L : sg_L) : Int32 :=
  spl (α := Int32) (f 36 5) fun (v_2 : Int32) =>
  spl (α := Int32) (x2 ^^^ v_2) fun (v_4 : Int32) =>
  ((v_4 : Int32))
set_option maxRecDepth 100000 in
noncomputable def sX3_does_2_2_0_f0_f2_b53 (x2 : Int32) (fp_53 : sg_F) (L : sg_L) : Int32 × sg_F :=
  spl (α := Int32) (fp_53 36 3) fun (v_2 : Int32) =>
  spl (α := Int32) (fp_53 36 4) fun (v_5 : Int32) =>
  spl (α := Int32) (v_2 + 1) fun (v_9 : Int32) =>
  spl (α := sg_F) (sg_up fp_53 36 (sgu (fp_53 36) 3 v_9)) fun (f_11 : sg_F) =>
  spl (sX3_runs_11_m1_1_f1_f2 x2 f_11 L) fun (r_18 : Int32) =>
  ((r_18 : Int32), f_11)
set_option maxRecDepth 100000 in
noncomputable def sX3_does_2_2_0_f0_f2 (x2 : Int32) (f : sg_F) (L : sg_L) : Int32 × sg_F :=
  spl (sX3_ownerOf_2_2 f L) fun (r_31 : Int32) =>
  spl (α := sg_F) (sg_up f 38 (sgu (f 38) 0 11)) fun (f_33 : sg_F) =>
  sX3_does_2_2_0_f0_f2_b53 x2 f_33 L
set_option maxRecDepth 100000 in
noncomputable def sX3_ownerOf_3_2 (f : sg_F) (L : sg_L) : Int32 :=
  ((3 : Int32))
set_option maxRecDepth 100000 in
noncomputable def sX3_runs_11_m1_2_f2_f3 (x2 : Int32) (f : sg_F) (L : sg_L) : Int32 :=
  spl (α := Int32) (f 36 5) fun (v_2 : Int32) =>
  spl (α := Int32) (x2 ^^^ v_2) fun (v_4 : Int32) =>
  ((v_4 : Int32))
set_option maxRecDepth 100000 in
noncomputable def sX3_does_2_2_1_f1_f3_b53 (x2 : Int32) (fp_53 : sg_F) (L : sg_L) : Int32 × sg_F :=
  spl (α := Int32) (fp_53 36 3) fun (v_2 : Int32) =>
  spl (α := Int32) (fp_53 36 4) fun (v_5 : Int32) =>
  spl (α := Int32) (v_2 + 1) fun (v_9 : Int32) =>
  spl (α := sg_F) (sg_up fp_53 36 (sgu (fp_53 36) 3 v_9)) fun (f_11 : sg_F) =>
  spl (sX3_runs_11_m1_2_f2_f3 x2 f_11 L) fun (r_18 : Int32) =>
  ((r_18 : Int32), f_11)
set_option maxRecDepth 100000 in
noncomputable def sX3_does_2_2_1_f1_f3 (x2 : Int32) (f : sg_F) (L : sg_L) : Int32 × sg_F :=
  spl (sX3_ownerOf_2_2 f L) fun (r_31 : Int32) =>
  spl (α := sg_F) (sg_up f 38 (sgu (f 38) 1 11)) fun (f_33 : sg_F) =>
  sX3_does_2_2_1_f1_f3_b53 x2 f_33 L
set_option maxRecDepth 100000 in
noncomputable def sX3_runs_40_2_1_f1_f3 (x2 : Int32) (f : sg_F) (L : sg_L) : Int32 × sg_F :=
  spl2 (sX3_does_2_2_1_f1_f3 x2 f L) fun (r_7 : Int32) (f_4 : sg_F) =>
  spl (α := Int32) (f_4 36 3) fun (v_10 : Int32) =>
  spl (α := Int32) (r_7 * 3) fun (v_17 : Int32) =>
  ((v_17 : Int32), f_4)
set_option maxRecDepth 100000 in
noncomputable def sX3_does_3_2_0_f0_f3_b53 (x2 : Int32) (fp_53 : sg_F) (L : sg_L) : Int32 × sg_F :=
  spl (α := Int32) (fp_53 36 3) fun (v_2 : Int32) =>
  spl (α := Int32) (fp_53 36 4) fun (v_5 : Int32) =>
  spl (α := Int32) (v_2 + 1) fun (v_9 : Int32) =>
  spl (α := sg_F) (sg_up fp_53 36 (sgu (fp_53 36) 3 v_9)) fun (f_11 : sg_F) =>
  spl2 (sX3_runs_40_2_1_f1_f3 x2 f_11 L) fun (r_18 : Int32) (f_15 : sg_F) =>
  spl (α := Int32) (f_15 36 3) fun (v_21 : Int32) =>
  ((r_18 : Int32), f_15)
set_option maxRecDepth 100000 in
noncomputable def sX3_does_3_2_0_f0_f3 (x2 : Int32) (f : sg_F) (L : sg_L) : Int32 × sg_F :=
  spl (sX3_ownerOf_3_2 f L) fun (r_33 : Int32) =>
  spl (α := sg_F) (sg_up f 38 (sgu (f 38) 0 40)) fun (f_35 : sg_F) =>
  sX3_does_3_2_0_f0_f3_b53 x2 f_35 L
set_option maxRecDepth 100000 in
noncomputable def sX3_ownerOf_4_2 (f : sg_F) (L : sg_L) : Int32 :=
  ((4 : Int32))
set_option maxRecDepth 100000 in
noncomputable def sX3_runs_11_m1_2_f2_f4 (x2 : Int32) (f : sg_F) (L : sg_L) : Int32 :=
  spl (α := Int32) (f 36 5) fun (v_2 : Int32) =>
  spl (α := Int32) (x2 ^^^ v_2) fun (v_4 : Int32) =>
  ((v_4 : Int32))
set_option maxRecDepth 100000 in
noncomputable def sX3_does_1_2_1_f1_f4_b53 (x2 : Int32) (fp_53 : sg_F) (L : sg_L) : Int32 × sg_F :=
  spl (α := Int32) (fp_53 36 3) fun (v_2 : Int32) =>
  spl (α := Int32) (fp_53 36 4) fun (v_5 : Int32) =>
  spl (α := Int32) (v_2 + 1) fun (v_9 : Int32) =>
  spl (α := sg_F) (sg_up fp_53 36 (sgu (fp_53 36) 3 v_9)) fun (f_11 : sg_F) =>
  spl (sX3_runs_11_m1_2_f2_f4 x2 f_11 L) fun (r_18 : Int32) =>
  ((r_18 : Int32), f_11)
set_option maxRecDepth 100000 in
noncomputable def sX3_does_1_2_1_f1_f4 (x2 : Int32) (f : sg_F) (L : sg_L) : Int32 × sg_F :=
  spl (sX3_ownerOf_1_2 f L) fun (r_31 : Int32) =>
  spl (α := sg_F) (sg_up f 38 (sgu (f 38) 1 11)) fun (f_33 : sg_F) =>
  sX3_does_1_2_1_f1_f4_b53 x2 f_33 L
set_option maxRecDepth 100000 in
noncomputable def sX3_runs_1_m1_3_f4_f4 (x2 : Int32) (f : sg_F) (L : sg_L) : Int32 :=
  spl (α := Int32) (f 36 5) fun (v_2 : Int32) =>
  spl (α := Int32) (x2 + v_2) fun (v_4 : Int32) =>
  ((v_4 : Int32))
set_option maxRecDepth 100000 in
noncomputable def sX3_does_0_0_2_f3_f4_b53 (x2 : Int32) (fp_53 : sg_F) (L : sg_L) : Int32 × sg_F :=
  spl (α := Int32) (fp_53 36 3) fun (v_2 : Int32) =>
  spl (α := Int32) (fp_53 36 4) fun (v_5 : Int32) =>
  spl (α := Int32) (v_2 + 1) fun (v_9 : Int32) =>
  spl (α := sg_F) (sg_up fp_53 36 (sgu (fp_53 36) 3 v_9)) fun (f_11 : sg_F) =>
  spl (sX3_runs_1_m1_3_f4_f4 x2 f_11 L) fun (r_18 : Int32) =>
  ((r_18 : Int32), f_11)
set_option maxRecDepth 100000 in
noncomputable def sX3_does_0_0_2_f3_f4 (x2 : Int32) (f : sg_F) (L : sg_L) : Int32 × sg_F :=
  spl (sX3_ownerOf_0_0 f L) fun (r_31 : Int32) =>
  spl (α := sg_F) (sg_up f 38 (sgu (f 38) 3 1)) fun (f_33 : sg_F) =>
  sX3_does_0_0_2_f3_f4_b53 x2 f_33 L
set_option maxRecDepth 100000 in
noncomputable def sX3_runs_20_0_2_f3_f4 (x2 : Int32) (f : sg_F) (L : sg_L) : Int32 × sg_F :=
  spl2 (sX3_does_0_0_2_f3_f4 x2 f L) fun (r_7 : Int32) (f_4 : sg_F) =>
  spl (α := Int32) (f_4 36 3) fun (v_10 : Int32) =>
  spl (α := Int32) (r_7 + 3) fun (v_17 : Int32) =>
  ((v_17 : Int32), f_4)
set_option maxRecDepth 100000 in
noncomputable def sX3_does_4_0_1_f2_f4_b53 (x2 : Int32) (fp_53 : sg_F) (L : sg_L) : Int32 × sg_F :=
  spl (α := Int32) (fp_53 36 3) fun (v_2 : Int32) =>
  spl (α := Int32) (fp_53 36 4) fun (v_5 : Int32) =>
  spl (α := Int32) (v_2 + 1) fun (v_9 : Int32) =>
  spl (α := sg_F) (sg_up fp_53 36 (sgu (fp_53 36) 3 v_9)) fun (f_11 : sg_F) =>
  spl2 (sX3_runs_20_0_2_f3_f4 x2 f_11 L) fun (r_18 : Int32) (f_15 : sg_F) =>
  spl (α := Int32) (f_15 36 3) fun (v_21 : Int32) =>
  ((r_18 : Int32), f_15)
set_option maxRecDepth 100000 in
noncomputable def sX3_does_4_0_1_f2_f4 (x2 : Int32) (f : sg_F) (L : sg_L) : Int32 × sg_F :=
  spl (sX3_ownerOf_4_0 f L) fun (r_33 : Int32) =>
  spl (α := sg_F) (sg_up f 38 (sgu (f 38) 2 20)) fun (f_35 : sg_F) =>
  sX3_does_4_0_1_f2_f4_b53 x2 f_35 L
set_option maxRecDepth 100000 in
noncomputable def sX3_runs_50_1_1_f1_f4 (x2 : Int32) (f : sg_F) (L : sg_L) : Int32 × sg_F :=
  spl2 (sX3_does_1_2_1_f1_f4 x2 f L) fun (r_7 : Int32) (f_4 : sg_F) =>
  spl (α := Int32) (f_4 36 3) fun (v_10 : Int32) =>
  spl2 (sX3_does_4_0_1_f2_f4 2 f_4 L) fun (r_23 : Int32) (f_20 : sg_F) =>
  spl (α := Int32) (f_20 36 3) fun (v_26 : Int32) =>
  spl (α := Int32) (r_7 - r_23) fun (v_34 : Int32) =>
  ((v_34 : Int32), f_20)
set_option maxRecDepth 100000 in
noncomputable def sX3_does_4_2_0_f0_f4_b53 (x2 : Int32) (fp_53 : sg_F) (L : sg_L) : Int32 × sg_F :=
  spl (α := Int32) (fp_53 36 3) fun (v_2 : Int32) =>
  spl (α := Int32) (fp_53 36 4) fun (v_5 : Int32) =>
  spl (α := Int32) (v_2 + 1) fun (v_9 : Int32) =>
  spl (α := sg_F) (sg_up fp_53 36 (sgu (fp_53 36) 3 v_9)) fun (f_11 : sg_F) =>
  spl2 (sX3_runs_50_1_1_f1_f4 x2 f_11 L) fun (r_18 : Int32) (f_15 : sg_F) =>
  spl (α := Int32) (f_15 36 3) fun (v_21 : Int32) =>
  ((r_18 : Int32), f_15)
set_option maxRecDepth 100000 in
noncomputable def sX3_does_4_2_0_f0_f4 (x2 : Int32) (f : sg_F) (L : sg_L) : Int32 × sg_F :=
  spl (sX3_ownerOf_4_2 f L) fun (r_33 : Int32) =>
  spl (α := sg_F) (sg_up f 38 (sgu (f 38) 0 50)) fun (f_35 : sg_F) =>
  sX3_does_4_2_0_f0_f4_b53 x2 f_35 L
set_option maxRecDepth 100000 in
noncomputable def sX3_ownerOf_5_2 (f : sg_F) (L : sg_L) : Int32 :=
  ((3 : Int32))
set_option maxRecDepth 100000 in
noncomputable def sX3_runs_11_m1_2_f2_f5 (x2 : Int32) (f : sg_F) (L : sg_L) : Int32 :=
  spl (α := Int32) (f 36 5) fun (v_2 : Int32) =>
  spl (α := Int32) (x2 ^^^ v_2) fun (v_4 : Int32) =>
  ((v_4 : Int32))
set_option maxRecDepth 100000 in
noncomputable def sX3_does_2_2_1_f1_f5_b53 (x2 : Int32) (fp_53 : sg_F) (L : sg_L) : Int32 × sg_F :=
  spl (α := Int32) (fp_53 36 3) fun (v_2 : Int32) =>
  spl (α := Int32) (fp_53 36 4) fun (v_5 : Int32) =>
  spl (α := Int32) (v_2 + 1) fun (v_9 : Int32) =>
  spl (α := sg_F) (sg_up fp_53 36 (sgu (fp_53 36) 3 v_9)) fun (f_11 : sg_F) =>
  spl (sX3_runs_11_m1_2_f2_f5 x2 f_11 L) fun (r_18 : Int32) =>
  ((r_18 : Int32), f_11)
set_option maxRecDepth 100000 in
noncomputable def sX3_does_2_2_1_f1_f5 (x2 : Int32) (f : sg_F) (L : sg_L) : Int32 × sg_F :=
  spl (sX3_ownerOf_2_2 f L) fun (r_31 : Int32) =>
  spl (α := sg_F) (sg_up f 38 (sgu (f 38) 1 11)) fun (f_33 : sg_F) =>
  sX3_does_2_2_1_f1_f5_b53 x2 f_33 L
set_option maxRecDepth 100000 in
noncomputable def sX3_runs_40_2_1_f1_f5 (x2 : Int32) (f : sg_F) (L : sg_L) : Int32 × sg_F :=
  spl2 (sX3_does_2_2_1_f1_f5 x2 f L) fun (r_7 : Int32) (f_4 : sg_F) =>
  spl (α := Int32) (f_4 36 3) fun (v_10 : Int32) =>
  spl (α := Int32) (r_7 * 3) fun (v_17 : Int32) =>
  ((v_17 : Int32), f_4)
set_option maxRecDepth 100000 in
noncomputable def sX3_does_5_2_0_f0_f5_b53 (x2 : Int32) (fp_53 : sg_F) (L : sg_L) : Int32 × sg_F :=
  spl (α := Int32) (fp_53 36 3) fun (v_2 : Int32) =>
  spl (α := Int32) (fp_53 36 4) fun (v_5 : Int32) =>
  spl (α := Int32) (v_2 + 1) fun (v_9 : Int32) =>
  spl (α := sg_F) (sg_up fp_53 36 (sgu (fp_53 36) 3 v_9)) fun (f_11 : sg_F) =>
  spl2 (sX3_runs_40_2_1_f1_f5 x2 f_11 L) fun (r_18 : Int32) (f_15 : sg_F) =>
  spl (α := Int32) (f_15 36 3) fun (v_21 : Int32) =>
  ((r_18 : Int32), f_15)
set_option maxRecDepth 100000 in
noncomputable def sX3_does_5_2_0_f0_f5 (x2 : Int32) (f : sg_F) (L : sg_L) : Int32 × sg_F :=
  spl (sX3_ownerOf_5_2 f L) fun (r_33 : Int32) =>
  spl (α := sg_F) (sg_up f 38 (sgu (f 38) 0 40)) fun (f_35 : sg_F) =>
  sX3_does_5_2_0_f0_f5_b53 x2 f_35 L
set_option maxRecDepth 100000 in
noncomputable def sX3_ownerOf_6_2 (f : sg_F) (L : sg_L) : Int32 :=
  ((0 : Int32))
set_option maxRecDepth 100000 in
noncomputable def sX3_runs_11_m1_1_f1_f6 (x2 : Int32) (f : sg_F) (L : sg_L) : Int32 :=
  spl (α := Int32) (f 36 5) fun (v_2 : Int32) =>
  spl (α := Int32) (x2 ^^^ v_2) fun (v_4 : Int32) =>
  ((v_4 : Int32))
set_option maxRecDepth 100000 in
noncomputable def sX3_does_6_2_0_f0_f6_b53 (x2 : Int32) (fp_53 : sg_F) (L : sg_L) : Int32 × sg_F :=
  spl (α := Int32) (fp_53 36 3) fun (v_2 : Int32) =>
  spl (α := Int32) (fp_53 36 4) fun (v_5 : Int32) =>
  spl (α := Int32) (v_2 + 1) fun (v_9 : Int32) =>
  spl (α := sg_F) (sg_up fp_53 36 (sgu (fp_53 36) 3 v_9)) fun (f_11 : sg_F) =>
  spl (sX3_runs_11_m1_1_f1_f6 x2 f_11 L) fun (r_18 : Int32) =>
  ((r_18 : Int32), f_11)
set_option maxRecDepth 100000 in
noncomputable def sX3_does_6_2_0_f0_f6 (x2 : Int32) (f : sg_F) (L : sg_L) : Int32 × sg_F :=
  spl (sX3_ownerOf_6_2 f L) fun (r_31 : Int32) =>
  spl (α := sg_F) (sg_up f 38 (sgu (f 38) 0 11)) fun (f_33 : sg_F) =>
  sX3_does_6_2_0_f0_f6_b53 x2 f_33 L
set_option maxRecDepth 100000 in
noncomputable def sX3_runs_11_m1_2_f2_f7 (x2 : Int32) (f : sg_F) (L : sg_L) : Int32 :=
  spl (α := Int32) (f 36 5) fun (v_2 : Int32) =>
  spl (α := Int32) (x2 ^^^ v_2) fun (v_4 : Int32) =>
  ((v_4 : Int32))
set_option maxRecDepth 100000 in
noncomputable def sX3_does_1_2_1_f1_f7_b53 (x2 : Int32) (fp_53 : sg_F) (L : sg_L) : Int32 × sg_F :=
  spl (α := Int32) (fp_53 36 3) fun (v_2 : Int32) =>
  spl (α := Int32) (fp_53 36 4) fun (v_5 : Int32) =>
  spl (α := Int32) (v_2 + 1) fun (v_9 : Int32) =>
  spl (α := sg_F) (sg_up fp_53 36 (sgu (fp_53 36) 3 v_9)) fun (f_11 : sg_F) =>
  spl (sX3_runs_11_m1_2_f2_f7 x2 f_11 L) fun (r_18 : Int32) =>
  ((r_18 : Int32), f_11)
set_option maxRecDepth 100000 in
noncomputable def sX3_does_1_2_1_f1_f7 (x2 : Int32) (f : sg_F) (L : sg_L) : Int32 × sg_F :=
  spl (sX3_ownerOf_1_2 f L) fun (r_31 : Int32) =>
  spl (α := sg_F) (sg_up f 38 (sgu (f 38) 1 11)) fun (f_33 : sg_F) =>
  sX3_does_1_2_1_f1_f7_b53 x2 f_33 L
set_option maxRecDepth 100000 in
noncomputable def sX3_runs_1_m1_3_f4_f7 (x2 : Int32) (f : sg_F) (L : sg_L) : Int32 :=
  spl (α := Int32) (f 36 5) fun (v_2 : Int32) =>
  spl (α := Int32) (x2 + v_2) fun (v_4 : Int32) =>
  ((v_4 : Int32))
set_option maxRecDepth 100000 in
noncomputable def sX3_does_0_0_2_f3_f7_b53 (x2 : Int32) (fp_53 : sg_F) (L : sg_L) : Int32 × sg_F :=
  spl (α := Int32) (fp_53 36 3) fun (v_2 : Int32) =>
  spl (α := Int32) (fp_53 36 4) fun (v_5 : Int32) =>
  spl (α := Int32) (v_2 + 1) fun (v_9 : Int32) =>
  spl (α := sg_F) (sg_up fp_53 36 (sgu (fp_53 36) 3 v_9)) fun (f_11 : sg_F) =>
  spl (sX3_runs_1_m1_3_f4_f7 x2 f_11 L) fun (r_18 : Int32) =>
  ((r_18 : Int32), f_11)
set_option maxRecDepth 100000 in
noncomputable def sX3_does_0_0_2_f3_f7 (x2 : Int32) (f : sg_F) (L : sg_L) : Int32 × sg_F :=
  spl (sX3_ownerOf_0_0 f L) fun (r_31 : Int32) =>
  spl (α := sg_F) (sg_up f 38 (sgu (f 38) 3 1)) fun (f_33 : sg_F) =>
  sX3_does_0_0_2_f3_f7_b53 x2 f_33 L
set_option maxRecDepth 100000 in
noncomputable def sX3_runs_20_0_2_f3_f7 (x2 : Int32) (f : sg_F) (L : sg_L) : Int32 × sg_F :=
  spl2 (sX3_does_0_0_2_f3_f7 x2 f L) fun (r_7 : Int32) (f_4 : sg_F) =>
  spl (α := Int32) (f_4 36 3) fun (v_10 : Int32) =>
  spl (α := Int32) (r_7 + 3) fun (v_17 : Int32) =>
  ((v_17 : Int32), f_4)
set_option maxRecDepth 100000 in
noncomputable def sX3_does_7_0_1_f2_f7_b53 (x2 : Int32) (fp_53 : sg_F) (L : sg_L) : Int32 × sg_F :=
  spl (α := Int32) (fp_53 36 3) fun (v_2 : Int32) =>
  spl (α := Int32) (fp_53 36 4) fun (v_5 : Int32) =>
  spl (α := Int32) (v_2 + 1) fun (v_9 : Int32) =>
  spl (α := sg_F) (sg_up fp_53 36 (sgu (fp_53 36) 3 v_9)) fun (f_11 : sg_F) =>
  spl2 (sX3_runs_20_0_2_f3_f7 x2 f_11 L) fun (r_18 : Int32) (f_15 : sg_F) =>
  spl (α := Int32) (f_15 36 3) fun (v_21 : Int32) =>
  ((r_18 : Int32), f_15)
set_option maxRecDepth 100000 in
noncomputable def sX3_does_7_0_1_f2_f7 (x2 : Int32) (f : sg_F) (L : sg_L) : Int32 × sg_F :=
  spl (sX3_ownerOf_7_0 f L) fun (r_33 : Int32) =>
  spl (α := sg_F) (sg_up f 38 (sgu (f 38) 2 20)) fun (f_35 : sg_F) =>
  sX3_does_7_0_1_f2_f7_b53 x2 f_35 L
set_option maxRecDepth 100000 in
noncomputable def sX3_runs_50_1_1_f1_f7 (x2 : Int32) (f : sg_F) (L : sg_L) : Int32 × sg_F :=
  spl2 (sX3_does_1_2_1_f1_f7 x2 f L) fun (r_7 : Int32) (f_4 : sg_F) =>
  spl (α := Int32) (f_4 36 3) fun (v_10 : Int32) =>
  spl2 (sX3_does_7_0_1_f2_f7 2 f_4 L) fun (r_23 : Int32) (f_20 : sg_F) =>
  spl (α := Int32) (f_20 36 3) fun (v_26 : Int32) =>
  spl (α := Int32) (r_7 - r_23) fun (v_34 : Int32) =>
  ((v_34 : Int32), f_20)
set_option maxRecDepth 100000 in
noncomputable def sX3_does_7_2_0_f0_f7_b53 (x2 : Int32) (fp_53 : sg_F) (L : sg_L) : Int32 × sg_F :=
  spl (α := Int32) (fp_53 36 3) fun (v_2 : Int32) =>
  spl (α := Int32) (fp_53 36 4) fun (v_5 : Int32) =>
  spl (α := Int32) (v_2 + 1) fun (v_9 : Int32) =>
  spl (α := sg_F) (sg_up fp_53 36 (sgu (fp_53 36) 3 v_9)) fun (f_11 : sg_F) =>
  spl2 (sX3_runs_50_1_1_f1_f7 x2 f_11 L) fun (r_18 : Int32) (f_15 : sg_F) =>
  spl (α := Int32) (f_15 36 3) fun (v_21 : Int32) =>
  ((r_18 : Int32), f_15)
set_option maxRecDepth 100000 in
noncomputable def sX3_does_7_2_0_f0_f7 (x2 : Int32) (f : sg_F) (L : sg_L) : Int32 × sg_F :=
  spl (sX3_ownerOf_7_2 f L) fun (r_33 : Int32) =>
  spl (α := sg_F) (sg_up f 38 (sgu (f 38) 0 50)) fun (f_35 : sg_F) =>
  sX3_does_7_2_0_f0_f7_b53 x2 f_35 L
set_option maxRecDepth 100000 in
noncomputable def sX3_ownerOf_0_3 (f : sg_F) (L : sg_L) : Int32 :=
  ((0 : Int32))
set_option maxRecDepth 100000 in
noncomputable def sX3_runs_1_m1_3_f3_f0 (x2 : Int32) (f : sg_F) (L : sg_L) : Int32 :=
  spl (α := Int32) (f 36 5) fun (v_2 : Int32) =>
  spl (α := Int32) (x2 + v_2) fun (v_4 : Int32) =>
  ((v_4 : Int32))
set_option maxRecDepth 100000 in
noncomputable def sX3_does_0_0_2_f2_f0_b53 (x2 : Int32) (fp_53 : sg_F) (L : sg_L) : Int32 × sg_F :=
  spl (α := Int32) (fp_53 36 3) fun (v_2 : Int32) =>
  spl (α := Int32) (fp_53 36 4) fun (v_5 : Int32) =>
  spl (α := Int32) (v_2 + 1) fun (v_9 : Int32) =>
  spl (α := sg_F) (sg_up fp_53 36 (sgu (fp_53 36) 3 v_9)) fun (f_11 : sg_F) =>
  spl (sX3_runs_1_m1_3_f3_f0 x2 f_11 L) fun (r_18 : Int32) =>
  ((r_18 : Int32), f_11)
set_option maxRecDepth 100000 in
noncomputable def sX3_does_0_0_2_f2_f0 (x2 : Int32) (f : sg_F) (L : sg_L) : Int32 × sg_F :=
  spl (sX3_ownerOf_0_0 f L) fun (r_31 : Int32) =>
  spl (α := sg_F) (sg_up f 38 (sgu (f 38) 2 1)) fun (f_33 : sg_F) =>
  sX3_does_0_0_2_f2_f0_b53 x2 f_33 L
set_option maxRecDepth 100000 in
noncomputable def sX3_runs_10_m1_2_f2_f0 (x2 : Int32) (f : sg_F) (L : sg_L) : Int32 × sg_F :=
  spl2 (sX3_does_0_0_2_f2_f0 x2 f L) fun (r_7 : Int32) (f_4 : sg_F) =>
  spl (α := Int32) (f_4 36 3) fun (v_10 : Int32) =>
  spl (α := Int32) (r_7 * 2) fun (v_17 : Int32) =>
  ((v_17 : Int32), f_4)
set_option maxRecDepth 100000 in
noncomputable def sX3_does_0_1_1_f1_f0_b53 (x2 : Int32) (fp_53 : sg_F) (L : sg_L) : Int32 × sg_F :=
  spl (α := Int32) (fp_53 36 3) fun (v_2 : Int32) =>
  spl (α := Int32) (fp_53 36 4) fun (v_5 : Int32) =>
  spl (α := Int32) (v_2 + 1) fun (v_9 : Int32) =>
  spl (α := sg_F) (sg_up fp_53 36 (sgu (fp_53 36) 3 v_9)) fun (f_11 : sg_F) =>
  spl2 (sX3_runs_10_m1_2_f2_f0 x2 f_11 L) fun (r_18 : Int32) (f_15 : sg_F) =>
  spl (α := Int32) (f_15 36 3) fun (v_21 : Int32) =>
  ((r_18 : Int32), f_15)
set_option maxRecDepth 100000 in
noncomputable def sX3_does_0_1_1_f1_f0 (x2 : Int32) (f : sg_F) (L : sg_L) : Int32 × sg_F :=
  spl (sX3_ownerOf_0_1 f L) fun (r_33 : Int32) =>
  spl (α := sg_F) (sg_up f 38 (sgu (f 38) 1 10)) fun (f_35 : sg_F) =>
  sX3_does_0_1_1_f1_f0_b53 x2 f_35 L
set_option maxRecDepth 100000 in
noncomputable def sX3_runs_11_m1_2_f4_f0 (x2 : Int32) (f : sg_F) (L : sg_L) : Int32 :=
  spl (α := Int32) (f 36 5) fun (v_2 : Int32) =>
  spl (α := Int32) (x2 ^^^ v_2) fun (v_4 : Int32) =>
  ((v_4 : Int32))
set_option maxRecDepth 100000 in
noncomputable def sX3_does_0_2_1_f3_f0_b53 (x2 : Int32) (fp_53 : sg_F) (L : sg_L) : Int32 × sg_F :=
  spl (α := Int32) (fp_53 36 3) fun (v_2 : Int32) =>
  spl (α := Int32) (fp_53 36 4) fun (v_5 : Int32) =>
  spl (α := Int32) (v_2 + 1) fun (v_9 : Int32) =>
  spl (α := sg_F) (sg_up fp_53 36 (sgu (fp_53 36) 3 v_9)) fun (f_11 : sg_F) =>
  spl (sX3_runs_11_m1_2_f4_f0 x2 f_11 L) fun (r_18 : Int32) =>
  ((r_18 : Int32), f_11)
set_option maxRecDepth 100000 in
noncomputable def sX3_does_0_2_1_f3_f0 (x2 : Int32) (f : sg_F) (L : sg_L) : Int32 × sg_F :=
  spl (sX3_ownerOf_0_2 f L) fun (r_31 : Int32) =>
  spl (α := sg_F) (sg_up f 38 (sgu (f 38) 3 11)) fun (f_33 : sg_F) =>
  sX3_does_0_2_1_f3_f0_b53 x2 f_33 L
set_option maxRecDepth 100000 in
noncomputable def sX3_runs_2_m1_1_f1_f0 (x2 : Int32) (f : sg_F) (L : sg_L) : Int32 × sg_F :=
  spl2 (sX3_does_0_1_1_f1_f0 x2 f L) fun (r_7 : Int32) (f_4 : sg_F) =>
  spl (α := Int32) (f_4 36 3) fun (v_10 : Int32) =>
  spl2 (sX3_does_0_2_1_f3_f0 1 f_4 L) fun (r_23 : Int32) (f_20 : sg_F) =>
  spl (α := Int32) (f_20 36 3) fun (v_26 : Int32) =>
  spl (α := Int32) (r_7 - r_23) fun (v_34 : Int32) =>
  ((v_34 : Int32), f_20)
set_option maxRecDepth 100000 in
noncomputable def sX3_does_0_3_0_f0_f0_b53 (x2 : Int32) (fp_53 : sg_F) (L : sg_L) : Int32 × sg_F :=
  spl (α := Int32) (fp_53 36 3) fun (v_2 : Int32) =>
  spl (α := Int32) (fp_53 36 4) fun (v_5 : Int32) =>
  spl (α := Int32) (v_2 + 1) fun (v_9 : Int32) =>
  spl (α := sg_F) (sg_up fp_53 36 (sgu (fp_53 36) 3 v_9)) fun (f_11 : sg_F) =>
  spl2 (sX3_runs_2_m1_1_f1_f0 x2 f_11 L) fun (r_18 : Int32) (f_15 : sg_F) =>
  spl (α := Int32) (f_15 36 3) fun (v_21 : Int32) =>
  ((r_18 : Int32), f_15)
set_option maxRecDepth 100000 in
noncomputable def sX3_does_0_3_0_f0_f0 (x2 : Int32) (f : sg_F) (L : sg_L) : Int32 × sg_F :=
  spl (sX3_ownerOf_0_3 f L) fun (r_33 : Int32) =>
  spl (α := sg_F) (sg_up f 38 (sgu (f 38) 0 2)) fun (f_35 : sg_F) =>
  sX3_does_0_3_0_f0_f0_b53 x2 f_35 L
set_option maxRecDepth 100000 in
noncomputable def sX3_ownerOf_1_3 (f : sg_F) (L : sg_L) : Int32 :=
  ((0 : Int32))
set_option maxRecDepth 100000 in
noncomputable def sX3_runs_1_m1_4_f4_f1 (x2 : Int32) (f : sg_F) (L : sg_L) : Int32 :=
  spl (α := Int32) (f 36 5) fun (v_2 : Int32) =>
  spl (α := Int32) (x2 + v_2) fun (v_4 : Int32) =>
  ((v_4 : Int32))
set_option maxRecDepth 100000 in
noncomputable def sX3_does_0_0_3_f3_f1_b53 (x2 : Int32) (fp_53 : sg_F) (L : sg_L) : Int32 × sg_F :=
  spl (α := Int32) (fp_53 36 3) fun (v_2 : Int32) =>
  spl (α := Int32) (fp_53 36 4) fun (v_5 : Int32) =>
  spl (α := Int32) (v_2 + 1) fun (v_9 : Int32) =>
  spl (α := sg_F) (sg_up fp_53 36 (sgu (fp_53 36) 3 v_9)) fun (f_11 : sg_F) =>
  spl (sX3_runs_1_m1_4_f4_f1 x2 f_11 L) fun (r_18 : Int32) =>
  ((r_18 : Int32), f_11)
set_option maxRecDepth 100000 in
noncomputable def sX3_does_0_0_3_f3_f1 (x2 : Int32) (f : sg_F) (L : sg_L) : Int32 × sg_F :=
  spl (sX3_ownerOf_0_0 f L) fun (r_31 : Int32) =>
  spl (α := sg_F) (sg_up f 38 (sgu (f 38) 3 1)) fun (f_33 : sg_F) =>
  sX3_does_0_0_3_f3_f1_b53 x2 f_33 L
set_option maxRecDepth 100000 in
noncomputable def sX3_runs_20_0_3_f3_f1 (x2 : Int32) (f : sg_F) (L : sg_L) : Int32 × sg_F :=
  spl2 (sX3_does_0_0_3_f3_f1 x2 f L) fun (r_7 : Int32) (f_4 : sg_F) =>
  spl (α := Int32) (f_4 36 3) fun (v_10 : Int32) =>
  spl (α := Int32) (r_7 + 3) fun (v_17 : Int32) =>
  ((v_17 : Int32), f_4)
set_option maxRecDepth 100000 in
noncomputable def sX3_does_1_0_2_f2_f1_b53 (x2 : Int32) (fp_53 : sg_F) (L : sg_L) : Int32 × sg_F :=
  spl (α := Int32) (fp_53 36 3) fun (v_2 : Int32) =>
  spl (α := Int32) (fp_53 36 4) fun (v_5 : Int32) =>
  spl (α := Int32) (v_2 + 1) fun (v_9 : Int32) =>
  spl (α := sg_F) (sg_up fp_53 36 (sgu (fp_53 36) 3 v_9)) fun (f_11 : sg_F) =>
  spl2 (sX3_runs_20_0_3_f3_f1 x2 f_11 L) fun (r_18 : Int32) (f_15 : sg_F) =>
  spl (α := Int32) (f_15 36 3) fun (v_21 : Int32) =>
  ((r_18 : Int32), f_15)
set_option maxRecDepth 100000 in
noncomputable def sX3_does_1_0_2_f2_f1 (x2 : Int32) (f : sg_F) (L : sg_L) : Int32 × sg_F :=
  spl (sX3_ownerOf_1_0 f L) fun (r_33 : Int32) =>
  spl (α := sg_F) (sg_up f 38 (sgu (f 38) 2 20)) fun (f_35 : sg_F) =>
  sX3_does_1_0_2_f2_f1_b53 x2 f_35 L
set_option maxRecDepth 100000 in
noncomputable def sX3_runs_10_m1_2_f2_f1 (x2 : Int32) (f : sg_F) (L : sg_L) : Int32 × sg_F :=
  spl2 (sX3_does_1_0_2_f2_f1 x2 f L) fun (r_7 : Int32) (f_4 : sg_F) =>
  spl (α := Int32) (f_4 36 3) fun (v_10 : Int32) =>
  spl (α := Int32) (r_7 * 2) fun (v_17 : Int32) =>
  ((v_17 : Int32), f_4)
set_option maxRecDepth 100000 in
noncomputable def sX3_does_1_1_1_f1_f1_b53 (x2 : Int32) (fp_53 : sg_F) (L : sg_L) : Int32 × sg_F :=
  spl (α := Int32) (fp_53 36 3) fun (v_2 : Int32) =>
  spl (α := Int32) (fp_53 36 4) fun (v_5 : Int32) =>
  spl (α := Int32) (v_2 + 1) fun (v_9 : Int32) =>
  spl (α := sg_F) (sg_up fp_53 36 (sgu (fp_53 36) 3 v_9)) fun (f_11 : sg_F) =>
  spl2 (sX3_runs_10_m1_2_f2_f1 x2 f_11 L) fun (r_18 : Int32) (f_15 : sg_F) =>
  spl (α := Int32) (f_15 36 3) fun (v_21 : Int32) =>
  ((r_18 : Int32), f_15)
set_option maxRecDepth 100000 in
noncomputable def sX3_does_1_1_1_f1_f1 (x2 : Int32) (f : sg_F) (L : sg_L) : Int32 × sg_F :=
  spl (sX3_ownerOf_1_1 f L) fun (r_33 : Int32) =>
  spl (α := sg_F) (sg_up f 38 (sgu (f 38) 1 10)) fun (f_35 : sg_F) =>
  sX3_does_1_1_1_f1_f1_b53 x2 f_35 L
set_option maxRecDepth 100000 in
noncomputable def sX3_runs_11_m1_2_f5_f1 (x2 : Int32) (f : sg_F) (L : sg_L) : Int32 :=
  spl (α := Int32) (f 36 5) fun (v_2 : Int32) =>
  spl (α := Int32) (x2 ^^^ v_2) fun (v_4 : Int32) =>
  ((v_4 : Int32))
set_option maxRecDepth 100000 in
noncomputable def sX3_does_1_2_1_f4_f1_b53 (x2 : Int32) (fp_53 : sg_F) (L : sg_L) : Int32 × sg_F :=
  spl (α := Int32) (fp_53 36 3) fun (v_2 : Int32) =>
  spl (α := Int32) (fp_53 36 4) fun (v_5 : Int32) =>
  spl (α := Int32) (v_2 + 1) fun (v_9 : Int32) =>
  spl (α := sg_F) (sg_up fp_53 36 (sgu (fp_53 36) 3 v_9)) fun (f_11 : sg_F) =>
  spl (sX3_runs_11_m1_2_f5_f1 x2 f_11 L) fun (r_18 : Int32) =>
  ((r_18 : Int32), f_11)
set_option maxRecDepth 100000 in
noncomputable def sX3_does_1_2_1_f4_f1 (x2 : Int32) (f : sg_F) (L : sg_L) : Int32 × sg_F :=
  spl (sX3_ownerOf_1_2 f L) fun (r_31 : Int32) =>
  spl (α := sg_F) (sg_up f 38 (sgu (f 38) 4 11)) fun (f_33 : sg_F) =>
  sX3_does_1_2_1_f4_f1_b53 x2 f_33 L
set_option maxRecDepth 100000 in
noncomputable def sX3_runs_2_m1_1_f1_f1 (x2 : Int32) (f : sg_F) (L : sg_L) : Int32 × sg_F :=
  spl2 (sX3_does_1_1_1_f1_f1 x2 f L) fun (r_7 : Int32) (f_4 : sg_F) =>
  spl (α := Int32) (f_4 36 3) fun (v_10 : Int32) =>
  spl2 (sX3_does_1_2_1_f4_f1 1 f_4 L) fun (r_23 : Int32) (f_20 : sg_F) =>
  spl (α := Int32) (f_20 36 3) fun (v_26 : Int32) =>
  spl (α := Int32) (r_7 - r_23) fun (v_34 : Int32) =>
  ((v_34 : Int32), f_20)
set_option maxRecDepth 100000 in
noncomputable def sX3_does_1_3_0_f0_f1_b53 (x2 : Int32) (fp_53 : sg_F) (L : sg_L) : Int32 × sg_F :=
  spl (α := Int32) (fp_53 36 3) fun (v_2 : Int32) =>
  spl (α := Int32) (fp_53 36 4) fun (v_5 : Int32) =>
  spl (α := Int32) (v_2 + 1) fun (v_9 : Int32) =>
  spl (α := sg_F) (sg_up fp_53 36 (sgu (fp_53 36) 3 v_9)) fun (f_11 : sg_F) =>
  spl2 (sX3_runs_2_m1_1_f1_f1 x2 f_11 L) fun (r_18 : Int32) (f_15 : sg_F) =>
  spl (α := Int32) (f_15 36 3) fun (v_21 : Int32) =>
  ((r_18 : Int32), f_15)
set_option maxRecDepth 100000 in
noncomputable def sX3_does_1_3_0_f0_f1 (x2 : Int32) (f : sg_F) (L : sg_L) : Int32 × sg_F :=
  spl (sX3_ownerOf_1_3 f L) fun (r_33 : Int32) =>
  spl (α := sg_F) (sg_up f 38 (sgu (f 38) 0 2)) fun (f_35 : sg_F) =>
  sX3_does_1_3_0_f0_f1_b53 x2 f_35 L
set_option maxRecDepth 100000 in
noncomputable def sX3_ownerOf_2_3 (f : sg_F) (L : sg_L) : Int32 :=
  ((0 : Int32))
set_option maxRecDepth 100000 in
noncomputable def sX3_runs_1_m1_4_f4_f2 (x2 : Int32) (f : sg_F) (L : sg_L) : Int32 :=
  spl (α := Int32) (f 36 5) fun (v_2 : Int32) =>
  spl (α := Int32) (x2 + v_2) fun (v_4 : Int32) =>
  ((v_4 : Int32))
set_option maxRecDepth 100000 in
noncomputable def sX3_does_2_0_3_f3_f2_b53 (x2 : Int32) (fp_53 : sg_F) (L : sg_L) : Int32 × sg_F :=
  spl (α := Int32) (fp_53 36 3) fun (v_2 : Int32) =>
  spl (α := Int32) (fp_53 36 4) fun (v_5 : Int32) =>
  spl (α := Int32) (v_2 + 1) fun (v_9 : Int32) =>
  spl (α := sg_F) (sg_up fp_53 36 (sgu (fp_53 36) 3 v_9)) fun (f_11 : sg_F) =>
  spl (sX3_runs_1_m1_4_f4_f2 x2 f_11 L) fun (r_18 : Int32) =>
  ((r_18 : Int32), f_11)
set_option maxRecDepth 100000 in
noncomputable def sX3_does_2_0_3_f3_f2 (x2 : Int32) (f : sg_F) (L : sg_L) : Int32 × sg_F :=
  spl (sX3_ownerOf_2_0 f L) fun (r_31 : Int32) =>
  spl (α := sg_F) (sg_up f 38 (sgu (f 38) 3 1)) fun (f_33 : sg_F) =>
  sX3_does_2_0_3_f3_f2_b53 x2 f_33 L
set_option maxRecDepth 100000 in
noncomputable def sX3_runs_10_m1_3_f3_f2 (x2 : Int32) (f : sg_F) (L : sg_L) : Int32 × sg_F :=
  spl2 (sX3_does_2_0_3_f3_f2 x2 f L) fun (r_7 : Int32) (f_4 : sg_F) =>
  spl (α := Int32) (f_4 36 3) fun (v_10 : Int32) =>
  spl (α := Int32) (r_7 * 2) fun (v_17 : Int32) =>
  ((v_17 : Int32), f_4)
set_option maxRecDepth 100000 in
noncomputable def sX3_does_0_1_2_f2_f2_b53 (x2 : Int32) (fp_53 : sg_F) (L : sg_L) : Int32 × sg_F :=
  spl (α := Int32) (fp_53 36 3) fun (v_2 : Int32) =>
  spl (α := Int32) (fp_53 36 4) fun (v_5 : Int32) =>
  spl (α := Int32) (v_2 + 1) fun (v_9 : Int32) =>
  spl (α := sg_F) (sg_up fp_53 36 (sgu (fp_53 36) 3 v_9)) fun (f_11 : sg_F) =>
  spl2 (sX3_runs_10_m1_3_f3_f2 x2 f_11 L) fun (r_18 : Int32) (f_15 : sg_F) =>
  spl (α := Int32) (f_15 36 3) fun (v_21 : Int32) =>
  ((r_18 : Int32), f_15)
set_option maxRecDepth 100000 in
noncomputable def sX3_does_0_1_2_f2_f2 (x2 : Int32) (f : sg_F) (L : sg_L) : Int32 × sg_F :=
  spl (sX3_ownerOf_0_1 f L) fun (r_33 : Int32) =>
  spl (α := sg_F) (sg_up f 38 (sgu (f 38) 2 10)) fun (f_35 : sg_F) =>
  sX3_does_0_1_2_f2_f2_b53 x2 f_35 L
set_option maxRecDepth 100000 in
noncomputable def sX3_runs_30_0_2_f2_f2 (x2 : Int32) (f : sg_F) (L : sg_L) : Int32 × sg_F :=
  spl2 (sX3_does_0_1_2_f2_f2 x2 f L) fun (r_7 : Int32) (f_4 : sg_F) =>
  spl (α := Int32) (f_4 36 3) fun (v_10 : Int32) =>
  spl (α := Int32) ((-r_7)) fun (v_17 : Int32) =>
  ((v_17 : Int32), f_4)
set_option maxRecDepth 100000 in
noncomputable def sX3_does_2_1_1_f1_f2_b53 (x2 : Int32) (fp_53 : sg_F) (L : sg_L) : Int32 × sg_F :=
  spl (α := Int32) (fp_53 36 3) fun (v_2 : Int32) =>
  spl (α := Int32) (fp_53 36 4) fun (v_5 : Int32) =>
  spl (α := Int32) (v_2 + 1) fun (v_9 : Int32) =>
  spl (α := sg_F) (sg_up fp_53 36 (sgu (fp_53 36) 3 v_9)) fun (f_11 : sg_F) =>
  spl2 (sX3_runs_30_0_2_f2_f2 x2 f_11 L) fun (r_18 : Int32) (f_15 : sg_F) =>
  spl (α := Int32) (f_15 36 3) fun (v_21 : Int32) =>
  ((r_18 : Int32), f_15)
set_option maxRecDepth 100000 in
noncomputable def sX3_does_2_1_1_f1_f2 (x2 : Int32) (f : sg_F) (L : sg_L) : Int32 × sg_F :=
  spl (sX3_ownerOf_2_1 f L) fun (r_33 : Int32) =>
  spl (α := sg_F) (sg_up f 38 (sgu (f 38) 1 30)) fun (f_35 : sg_F) =>
  sX3_does_2_1_1_f1_f2_b53 x2 f_35 L
set_option maxRecDepth 100000 in
noncomputable def sX3_runs_11_m1_2_f5_f2 (x2 : Int32) (f : sg_F) (L : sg_L) : Int32 :=
  spl (α := Int32) (f 36 5) fun (v_2 : Int32) =>
  spl (α := Int32) (x2 ^^^ v_2) fun (v_4 : Int32) =>
  ((v_4 : Int32))
set_option maxRecDepth 100000 in
noncomputable def sX3_does_2_2_1_f4_f2_b53 (x2 : Int32) (fp_53 : sg_F) (L : sg_L) : Int32 × sg_F :=
  spl (α := Int32) (fp_53 36 3) fun (v_2 : Int32) =>
  spl (α := Int32) (fp_53 36 4) fun (v_5 : Int32) =>
  spl (α := Int32) (v_2 + 1) fun (v_9 : Int32) =>
  spl (α := sg_F) (sg_up fp_53 36 (sgu (fp_53 36) 3 v_9)) fun (f_11 : sg_F) =>
  spl (sX3_runs_11_m1_2_f5_f2 x2 f_11 L) fun (r_18 : Int32) =>
  ((r_18 : Int32), f_11)
set_option maxRecDepth 100000 in
noncomputable def sX3_does_2_2_1_f4_f2 (x2 : Int32) (f : sg_F) (L : sg_L) : Int32 × sg_F :=
  spl (sX3_ownerOf_2_2 f L) fun (r_31 : Int32) =>
  spl (α := sg_F) (sg_up f 38 (sgu (f 38) 4 11)) fun (f_33 : sg_F) =>
  sX3_does_2_2_1_f4_f2_b53 x2 f_33 L
set_option maxRecDepth 100000 in
noncomputable def sX3_runs_2_m1_1_f1_f2 (x2 : Int32) (f : sg_F) (L : sg_L) : Int32 × sg_F :=
  spl2 (sX3_does_2_1_1_f1_f2 x2 f L) fun (r_7 : Int32) (f_4 : sg_F) =>
  spl (α := Int32) (f_4 36 3) fun (v_10 : Int32) =>
  spl2 (sX3_does_2_2_1_f4_f2 1 f_4 L) fun (r_23 : Int32) (f_20 : sg_F) =>
  spl (α := Int32) (f_20 36 3) fun (v_26 : Int32) =>
  spl (α := Int32) (r_7 - r_23) fun (v_34 : Int32) =>
  ((v_34 : Int32), f_20)
set_option maxRecDepth 100000 in
noncomputable def sX3_does_2_3_0_f0_f2_b53 (x2 : Int32) (fp_53 : sg_F) (L : sg_L) : Int32 × sg_F :=
  spl (α := Int32) (fp_53 36 3) fun (v_2 : Int32) =>
  spl (α := Int32) (fp_53 36 4) fun (v_5 : Int32) =>
  spl (α := Int32) (v_2 + 1) fun (v_9 : Int32) =>
  spl (α := sg_F) (sg_up fp_53 36 (sgu (fp_53 36) 3 v_9)) fun (f_11 : sg_F) =>
  spl2 (sX3_runs_2_m1_1_f1_f2 x2 f_11 L) fun (r_18 : Int32) (f_15 : sg_F) =>
  spl (α := Int32) (f_15 36 3) fun (v_21 : Int32) =>
  ((r_18 : Int32), f_15)
set_option maxRecDepth 100000 in
noncomputable def sX3_does_2_3_0_f0_f2 (x2 : Int32) (f : sg_F) (L : sg_L) : Int32 × sg_F :=
  spl (sX3_ownerOf_2_3 f L) fun (r_33 : Int32) =>
  spl (α := sg_F) (sg_up f 38 (sgu (f 38) 0 2)) fun (f_35 : sg_F) =>
  sX3_does_2_3_0_f0_f2_b53 x2 f_35 L
set_option maxRecDepth 100000 in
noncomputable def sX3_ownerOf_3_3 (f : sg_F) (L : sg_L) : Int32 :=
  ((0 : Int32))
set_option maxRecDepth 100000 in
noncomputable def sX3_runs_1_m1_5_f5_f3 (x2 : Int32) (f : sg_F) (L : sg_L) : Int32 :=
  spl (α := Int32) (f 36 5) fun (v_2 : Int32) =>
  spl (α := Int32) (x2 + v_2) fun (v_4 : Int32) =>
  ((v_4 : Int32))
set_option maxRecDepth 100000 in
noncomputable def sX3_does_3_0_4_f4_f3_b53 (x2 : Int32) (fp_53 : sg_F) (L : sg_L) : Int32 × sg_F :=
  spl (α := Int32) (fp_53 36 3) fun (v_2 : Int32) =>
  spl (α := Int32) (fp_53 36 4) fun (v_5 : Int32) =>
  spl (α := Int32) (v_2 + 1) fun (v_9 : Int32) =>
  spl (α := sg_F) (sg_up fp_53 36 (sgu (fp_53 36) 3 v_9)) fun (f_11 : sg_F) =>
  spl (sX3_runs_1_m1_5_f5_f3 x2 f_11 L) fun (r_18 : Int32) =>
  ((r_18 : Int32), f_11)
set_option maxRecDepth 100000 in
noncomputable def sX3_does_3_0_4_f4_f3 (x2 : Int32) (f : sg_F) (L : sg_L) : Int32 × sg_F :=
  spl (sX3_ownerOf_3_0 f L) fun (r_31 : Int32) =>
  spl (α := sg_F) (sg_up f 38 (sgu (f 38) 4 1)) fun (f_33 : sg_F) =>
  sX3_does_3_0_4_f4_f3_b53 x2 f_33 L
set_option maxRecDepth 100000 in
noncomputable def sX3_runs_10_m1_4_f4_f3 (x2 : Int32) (f : sg_F) (L : sg_L) : Int32 × sg_F :=
  spl2 (sX3_does_3_0_4_f4_f3 x2 f L) fun (r_7 : Int32) (f_4 : sg_F) =>
  spl (α := Int32) (f_4 36 3) fun (v_10 : Int32) =>
  spl (α := Int32) (r_7 * 2) fun (v_17 : Int32) =>
  ((v_17 : Int32), f_4)
set_option maxRecDepth 100000 in
noncomputable def sX3_does_0_1_3_f3_f3_b53 (x2 : Int32) (fp_53 : sg_F) (L : sg_L) : Int32 × sg_F :=
  spl (α := Int32) (fp_53 36 3) fun (v_2 : Int32) =>
  spl (α := Int32) (fp_53 36 4) fun (v_5 : Int32) =>
  spl (α := Int32) (v_2 + 1) fun (v_9 : Int32) =>
  spl (α := sg_F) (sg_up fp_53 36 (sgu (fp_53 36) 3 v_9)) fun (f_11 : sg_F) =>
  spl2 (sX3_runs_10_m1_4_f4_f3 x2 f_11 L) fun (r_18 : Int32) (f_15 : sg_F) =>
  spl (α := Int32) (f_15 36 3) fun (v_21 : Int32) =>
  ((r_18 : Int32), f_15)
set_option maxRecDepth 100000 in
noncomputable def sX3_does_0_1_3_f3_f3 (x2 : Int32) (f : sg_F) (L : sg_L) : Int32 × sg_F :=
  spl (sX3_ownerOf_0_1 f L) fun (r_33 : Int32) =>
  spl (α := sg_F) (sg_up f 38 (sgu (f 38) 3 10)) fun (f_35 : sg_F) =>
  sX3_does_0_1_3_f3_f3_b53 x2 f_35 L
set_option maxRecDepth 100000 in
noncomputable def sX3_runs_30_0_3_f3_f3 (x2 : Int32) (f : sg_F) (L : sg_L) : Int32 × sg_F :=
  spl2 (sX3_does_0_1_3_f3_f3 x2 f L) fun (r_7 : Int32) (f_4 : sg_F) =>
  spl (α := Int32) (f_4 36 3) fun (v_10 : Int32) =>
  spl (α := Int32) ((-r_7)) fun (v_17 : Int32) =>
  ((v_17 : Int32), f_4)
set_option maxRecDepth 100000 in
noncomputable def sX3_does_2_1_2_f2_f3_b53 (x2 : Int32) (fp_53 : sg_F) (L : sg_L) : Int32 × sg_F :=
  spl (α := Int32) (fp_53 36 3) fun (v_2 : Int32) =>
  spl (α := Int32) (fp_53 36 4) fun (v_5 : Int32) =>
  spl (α := Int32) (v_2 + 1) fun (v_9 : Int32) =>
  spl (α := sg_F) (sg_up fp_53 36 (sgu (fp_53 36) 3 v_9)) fun (f_11 : sg_F) =>
  spl2 (sX3_runs_30_0_3_f3_f3 x2 f_11 L) fun (r_18 : Int32) (f_15 : sg_F) =>
  spl (α := Int32) (f_15 36 3) fun (v_21 : Int32) =>
  ((r_18 : Int32), f_15)
set_option maxRecDepth 100000 in
noncomputable def sX3_does_2_1_2_f2_f3 (x2 : Int32) (f : sg_F) (L : sg_L) : Int32 × sg_F :=
  spl (sX3_ownerOf_2_1 f L) fun (r_33 : Int32) =>
  spl (α := sg_F) (sg_up f 38 (sgu (f 38) 2 30)) fun (f_35 : sg_F) =>
  sX3_does_2_1_2_f2_f3_b53 x2 f_35 L
set_option maxRecDepth 100000 in
noncomputable def sX3_runs_41_2_2_f2_f3 (x2 : Int32) (f : sg_F) (L : sg_L) : Int32 × sg_F :=
  spl (α := Int32) (x2 + 1) fun (v_2 : Int32) =>
  spl2 (sX3_does_2_1_2_f2_f3 v_2 f L) fun (r_8 : Int32) (f_5 : sg_F) =>
  spl (α := Int32) (f_5 36 3) fun (v_11 : Int32) =>
  ((r_8 : Int32), f_5)
set_option maxRecDepth 100000 in
noncomputable def sX3_does_3_1_1_f1_f3_b53 (x2 : Int32) (fp_53 : sg_F) (L : sg_L) : Int32 × sg_F :=
  spl (α := Int32) (fp_53 36 3) fun (v_2 : Int32) =>
  spl (α := Int32) (fp_53 36 4) fun (v_5 : Int32) =>
  spl (α := Int32) (v_2 + 1) fun (v_9 : Int32) =>
  spl (α := sg_F) (sg_up fp_53 36 (sgu (fp_53 36) 3 v_9)) fun (f_11 : sg_F) =>
  spl2 (sX3_runs_41_2_2_f2_f3 x2 f_11 L) fun (r_18 : Int32) (f_15 : sg_F) =>
  spl (α := Int32) (f_15 36 3) fun (v_21 : Int32) =>
  ((r_18 : Int32), f_15)
set_option maxRecDepth 100000 in
noncomputable def sX3_does_3_1_1_f1_f3 (x2 : Int32) (f : sg_F) (L : sg_L) : Int32 × sg_F :=
  spl (sX3_ownerOf_3_1 f L) fun (r_33 : Int32) =>
  spl (α := sg_F) (sg_up f 38 (sgu (f 38) 1 41)) fun (f_35 : sg_F) =>
  sX3_does_3_1_1_f1_f3_b53 x2 f_35 L
set_option maxRecDepth 100000 in
noncomputable def sX3_runs_11_m1_3_f7_f3 (x2 : Int32) (f : sg_F) (L : sg_L) : Int32 :=
  spl (α := Int32) (f 36 5) fun (v_2 : Int32) =>
  spl (α := Int32) (x2 ^^^ v_2) fun (v_4 : Int32) =>
  ((v_4 : Int32))
set_option maxRecDepth 100000 in
noncomputable def sX3_does_2_2_2_f6_f3_b53 (x2 : Int32) (fp_53 : sg_F) (L : sg_L) : Int32 × sg_F :=
  spl (α := Int32) (fp_53 36 3) fun (v_2 : Int32) =>
  spl (α := Int32) (fp_53 36 4) fun (v_5 : Int32) =>
  spl (α := Int32) (v_2 + 1) fun (v_9 : Int32) =>
  spl (α := sg_F) (sg_up fp_53 36 (sgu (fp_53 36) 3 v_9)) fun (f_11 : sg_F) =>
  spl (sX3_runs_11_m1_3_f7_f3 x2 f_11 L) fun (r_18 : Int32) =>
  ((r_18 : Int32), f_11)
set_option maxRecDepth 100000 in
noncomputable def sX3_does_2_2_2_f6_f3 (x2 : Int32) (f : sg_F) (L : sg_L) : Int32 × sg_F :=
  spl (sX3_ownerOf_2_2 f L) fun (r_31 : Int32) =>
  spl (α := sg_F) (sg_up f 38 (sgu (f 38) 6 11)) fun (f_33 : sg_F) =>
  sX3_does_2_2_2_f6_f3_b53 x2 f_33 L
set_option maxRecDepth 100000 in
noncomputable def sX3_runs_40_2_2_f6_f3 (x2 : Int32) (f : sg_F) (L : sg_L) : Int32 × sg_F :=
  spl2 (sX3_does_2_2_2_f6_f3 x2 f L) fun (r_7 : Int32) (f_4 : sg_F) =>
  spl (α := Int32) (f_4 36 3) fun (v_10 : Int32) =>
  spl (α := Int32) (r_7 * 3) fun (v_17 : Int32) =>
  ((v_17 : Int32), f_4)
set_option maxRecDepth 100000 in
noncomputable def sX3_does_3_2_1_f5_f3_b53 (x2 : Int32) (fp_53 : sg_F) (L : sg_L) : Int32 × sg_F :=
  spl (α := Int32) (fp_53 36 3) fun (v_2 : Int32) =>
  spl (α := Int32) (fp_53 36 4) fun (v_5 : Int32) =>
  spl (α := Int32) (v_2 + 1) fun (v_9 : Int32) =>
  spl (α := sg_F) (sg_up fp_53 36 (sgu (fp_53 36) 3 v_9)) fun (f_11 : sg_F) =>
  spl2 (sX3_runs_40_2_2_f6_f3 x2 f_11 L) fun (r_18 : Int32) (f_15 : sg_F) =>
  spl (α := Int32) (f_15 36 3) fun (v_21 : Int32) =>
  ((r_18 : Int32), f_15)
set_option maxRecDepth 100000 in
noncomputable def sX3_does_3_2_1_f5_f3 (x2 : Int32) (f : sg_F) (L : sg_L) : Int32 × sg_F :=
  spl (sX3_ownerOf_3_2 f L) fun (r_33 : Int32) =>
  spl (α := sg_F) (sg_up f 38 (sgu (f 38) 5 40)) fun (f_35 : sg_F) =>
  sX3_does_3_2_1_f5_f3_b53 x2 f_35 L
set_option maxRecDepth 100000 in
noncomputable def sX3_runs_2_m1_1_f1_f3 (x2 : Int32) (f : sg_F) (L : sg_L) : Int32 × sg_F :=
  spl2 (sX3_does_3_1_1_f1_f3 x2 f L) fun (r_7 : Int32) (f_4 : sg_F) =>
  spl (α := Int32) (f_4 36 3) fun (v_10 : Int32) =>
  spl2 (sX3_does_3_2_1_f5_f3 1 f_4 L) fun (r_23 : Int32) (f_20 : sg_F) =>
  spl (α := Int32) (f_20 36 3) fun (v_26 : Int32) =>
  spl (α := Int32) (r_7 - r_23) fun (v_34 : Int32) =>
  ((v_34 : Int32), f_20)
set_option maxRecDepth 100000 in
noncomputable def sX3_does_3_3_0_f0_f3_b53 (x2 : Int32) (fp_53 : sg_F) (L : sg_L) : Int32 × sg_F :=
  spl (α := Int32) (fp_53 36 3) fun (v_2 : Int32) =>
  spl (α := Int32) (fp_53 36 4) fun (v_5 : Int32) =>
  spl (α := Int32) (v_2 + 1) fun (v_9 : Int32) =>
  spl (α := sg_F) (sg_up fp_53 36 (sgu (fp_53 36) 3 v_9)) fun (f_11 : sg_F) =>
  spl2 (sX3_runs_2_m1_1_f1_f3 x2 f_11 L) fun (r_18 : Int32) (f_15 : sg_F) =>
  spl (α := Int32) (f_15 36 3) fun (v_21 : Int32) =>
  ((r_18 : Int32), f_15)
set_option maxRecDepth 100000 in
noncomputable def sX3_does_3_3_0_f0_f3 (x2 : Int32) (f : sg_F) (L : sg_L) : Int32 × sg_F :=
  spl (sX3_ownerOf_3_3 f L) fun (r_33 : Int32) =>
  spl (α := sg_F) (sg_up f 38 (sgu (f 38) 0 2)) fun (f_35 : sg_F) =>
  sX3_does_3_3_0_f0_f3_b53 x2 f_35 L
set_option maxRecDepth 100000 in
noncomputable def sX3_ownerOf_4_3 (f : sg_F) (L : sg_L) : Int32 :=
  ((0 : Int32))
set_option maxRecDepth 100000 in
noncomputable def sX3_runs_1_m1_4_f4_f4 (x2 : Int32) (f : sg_F) (L : sg_L) : Int32 :=
  spl (α := Int32) (f 36 5) fun (v_2 : Int32) =>
  spl (α := Int32) (x2 + v_2) fun (v_4 : Int32) =>
  ((v_4 : Int32))
set_option maxRecDepth 100000 in
noncomputable def sX3_does_0_0_3_f3_f4_b53 (x2 : Int32) (fp_53 : sg_F) (L : sg_L) : Int32 × sg_F :=
  spl (α := Int32) (fp_53 36 3) fun (v_2 : Int32) =>
  spl (α := Int32) (fp_53 36 4) fun (v_5 : Int32) =>
  spl (α := Int32) (v_2 + 1) fun (v_9 : Int32) =>
  spl (α := sg_F) (sg_up fp_53 36 (sgu (fp_53 36) 3 v_9)) fun (f_11 : sg_F) =>
  spl (sX3_runs_1_m1_4_f4_f4 x2 f_11 L) fun (r_18 : Int32) =>
  ((r_18 : Int32), f_11)
set_option maxRecDepth 100000 in
noncomputable def sX3_does_0_0_3_f3_f4 (x2 : Int32) (f : sg_F) (L : sg_L) : Int32 × sg_F :=
  spl (sX3_ownerOf_0_0 f L) fun (r_31 : Int32) =>
  spl (α := sg_F) (sg_up f 38 (sgu (f 38) 3 1)) fun (f_33 : sg_F) =>
  sX3_does_0_0_3_f3_f4_b53 x2 f_33 L
set_option maxRecDepth 100000 in
noncomputable def sX3_runs_20_0_3_f3_f4 (x2 : Int32) (f : sg_F) (L : sg_L) : Int32 × sg_F :=
  spl2 (sX3_does_0_0_3_f3_f4 x2 f L) fun (r_7 : Int32) (f_4 : sg_F) =>
  spl (α := Int32) (f_4 36 3) fun (v_10 : Int32) =>
  spl (α := Int32) (r_7 + 3) fun (v_17 : Int32) =>
  ((v_17 : Int32), f_4)
set_option maxRecDepth 100000 in
noncomputable def sX3_does_4_0_2_f2_f4_b53 (x2 : Int32) (fp_53 : sg_F) (L : sg_L) : Int32 × sg_F :=
  spl (α := Int32) (fp_53 36 3) fun (v_2 : Int32) =>
  spl (α := Int32) (fp_53 36 4) fun (v_5 : Int32) =>
  spl (α := Int32) (v_2 + 1) fun (v_9 : Int32) =>
  spl (α := sg_F) (sg_up fp_53 36 (sgu (fp_53 36) 3 v_9)) fun (f_11 : sg_F) =>
  spl2 (sX3_runs_20_0_3_f3_f4 x2 f_11 L) fun (r_18 : Int32) (f_15 : sg_F) =>
  spl (α := Int32) (f_15 36 3) fun (v_21 : Int32) =>
  ((r_18 : Int32), f_15)
set_option maxRecDepth 100000 in
noncomputable def sX3_does_4_0_2_f2_f4 (x2 : Int32) (f : sg_F) (L : sg_L) : Int32 × sg_F :=
  spl (sX3_ownerOf_4_0 f L) fun (r_33 : Int32) =>
  spl (α := sg_F) (sg_up f 38 (sgu (f 38) 2 20)) fun (f_35 : sg_F) =>
  sX3_does_4_0_2_f2_f4_b53 x2 f_35 L
set_option maxRecDepth 100000 in
noncomputable def sX3_runs_10_m1_2_f2_f4 (x2 : Int32) (f : sg_F) (L : sg_L) : Int32 × sg_F :=
  spl2 (sX3_does_4_0_2_f2_f4 x2 f L) fun (r_7 : Int32) (f_4 : sg_F) =>
  spl (α := Int32) (f_4 36 3) fun (v_10 : Int32) =>
  spl (α := Int32) (r_7 * 2) fun (v_17 : Int32) =>
  ((v_17 : Int32), f_4)
set_option maxRecDepth 100000 in
noncomputable def sX3_does_4_1_1_f1_f4_b53 (x2 : Int32) (fp_53 : sg_F) (L : sg_L) : Int32 × sg_F :=
  spl (α := Int32) (fp_53 36 3) fun (v_2 : Int32) =>
  spl (α := Int32) (fp_53 36 4) fun (v_5 : Int32) =>
  spl (α := Int32) (v_2 + 1) fun (v_9 : Int32) =>
  spl (α := sg_F) (sg_up fp_53 36 (sgu (fp_53 36) 3 v_9)) fun (f_11 : sg_F) =>
  spl2 (sX3_runs_10_m1_2_f2_f4 x2 f_11 L) fun (r_18 : Int32) (f_15 : sg_F) =>
  spl (α := Int32) (f_15 36 3) fun (v_21 : Int32) =>
  ((r_18 : Int32), f_15)
set_option maxRecDepth 100000 in
noncomputable def sX3_does_4_1_1_f1_f4 (x2 : Int32) (f : sg_F) (L : sg_L) : Int32 × sg_F :=
  spl (sX3_ownerOf_4_1 f L) fun (r_33 : Int32) =>
  spl (α := sg_F) (sg_up f 38 (sgu (f 38) 1 10)) fun (f_35 : sg_F) =>
  sX3_does_4_1_1_f1_f4_b53 x2 f_35 L
set_option maxRecDepth 100000 in
noncomputable def sX3_runs_11_m1_3_f6_f4 (x2 : Int32) (f : sg_F) (L : sg_L) : Int32 :=
  spl (α := Int32) (f 36 5) fun (v_2 : Int32) =>
  spl (α := Int32) (x2 ^^^ v_2) fun (v_4 : Int32) =>
  ((v_4 : Int32))
set_option maxRecDepth 100000 in
noncomputable def sX3_does_1_2_2_f5_f4_b53 (x2 : Int32) (fp_53 : sg_F) (L : sg_L) : Int32 × sg_F :=
  spl (α := Int32) (fp_53 36 3) fun (v_2 : Int32) =>
  spl (α := Int32) (fp_53 36 4) fun (v_5 : Int32) =>
  spl (α := Int32) (v_2 + 1) fun (v_9 : Int32) =>
  spl (α := sg_F) (sg_up fp_53 36 (sgu (fp_53 36) 3 v_9)) fun (f_11 : sg_F) =>
  spl (sX3_runs_11_m1_3_f6_f4 x2 f_11 L) fun (r_18 : Int32) =>
  ((r_18 : Int32), f_11)
set_option maxRecDepth 100000 in
noncomputable def sX3_does_1_2_2_f5_f4 (x2 : Int32) (f : sg_F) (L : sg_L) : Int32 × sg_F :=
  spl (sX3_ownerOf_1_2 f L) fun (r_31 : Int32) =>
  spl (α := sg_F) (sg_up f 38 (sgu (f 38) 5 11)) fun (f_33 : sg_F) =>
  sX3_does_1_2_2_f5_f4_b53 x2 f_33 L
set_option maxRecDepth 100000 in
noncomputable def sX3_runs_1_m1_4_f8_f4 (x2 : Int32) (f : sg_F) (L : sg_L) : Int32 :=
  spl (α := Int32) (f 36 5) fun (v_2 : Int32) =>
  spl (α := Int32) (x2 + v_2) fun (v_4 : Int32) =>
  ((v_4 : Int32))
set_option maxRecDepth 100000 in
noncomputable def sX3_does_0_0_3_f7_f4_b53 (x2 : Int32) (fp_53 : sg_F) (L : sg_L) : Int32 × sg_F :=
  spl (α := Int32) (fp_53 36 3) fun (v_2 : Int32) =>
  spl (α := Int32) (fp_53 36 4) fun (v_5 : Int32) =>
  spl (α := Int32) (v_2 + 1) fun (v_9 : Int32) =>
  spl (α := sg_F) (sg_up fp_53 36 (sgu (fp_53 36) 3 v_9)) fun (f_11 : sg_F) =>
  spl (sX3_runs_1_m1_4_f8_f4 x2 f_11 L) fun (r_18 : Int32) =>
  ((r_18 : Int32), f_11)
set_option maxRecDepth 100000 in
noncomputable def sX3_does_0_0_3_f7_f4 (x2 : Int32) (f : sg_F) (L : sg_L) : Int32 × sg_F :=
  spl (sX3_ownerOf_0_0 f L) fun (r_31 : Int32) =>
  spl (α := sg_F) (sg_up f 38 (sgu (f 38) 7 1)) fun (f_33 : sg_F) =>
  sX3_does_0_0_3_f7_f4_b53 x2 f_33 L
set_option maxRecDepth 100000 in
noncomputable def sX3_runs_20_0_3_f7_f4 (x2 : Int32) (f : sg_F) (L : sg_L) : Int32 × sg_F :=
  spl2 (sX3_does_0_0_3_f7_f4 x2 f L) fun (r_7 : Int32) (f_4 : sg_F) =>
  spl (α := Int32) (f_4 36 3) fun (v_10 : Int32) =>
  spl (α := Int32) (r_7 + 3) fun (v_17 : Int32) =>
  ((v_17 : Int32), f_4)
set_option maxRecDepth 100000 in
noncomputable def sX3_does_4_0_2_f6_f4_b53 (x2 : Int32) (fp_53 : sg_F) (L : sg_L) : Int32 × sg_F :=
  spl (α := Int32) (fp_53 36 3) fun (v_2 : Int32) =>
  spl (α := Int32) (fp_53 36 4) fun (v_5 : Int32) =>
  spl (α := Int32) (v_2 + 1) fun (v_9 : Int32) =>
  spl (α := sg_F) (sg_up fp_53 36 (sgu (fp_53 36) 3 v_9)) fun (f_11 : sg_F) =>
  spl2 (sX3_runs_20_0_3_f7_f4 x2 f_11 L) fun (r_18 : Int32) (f_15 : sg_F) =>
  spl (α := Int32) (f_15 36 3) fun (v_21 : Int32) =>
  ((r_18 : Int32), f_15)
set_option maxRecDepth 100000 in
noncomputable def sX3_does_4_0_2_f6_f4 (x2 : Int32) (f : sg_F) (L : sg_L) : Int32 × sg_F :=
  spl (sX3_ownerOf_4_0 f L) fun (r_33 : Int32) =>
  spl (α := sg_F) (sg_up f 38 (sgu (f 38) 6 20)) fun (f_35 : sg_F) =>
  sX3_does_4_0_2_f6_f4_b53 x2 f_35 L
set_option maxRecDepth 100000 in
noncomputable def sX3_runs_50_1_2_f5_f4 (x2 : Int32) (f : sg_F) (L : sg_L) : Int32 × sg_F :=
  spl2 (sX3_does_1_2_2_f5_f4 x2 f L) fun (r_7 : Int32) (f_4 : sg_F) =>
  spl (α := Int32) (f_4 36 3) fun (v_10 : Int32) =>
  spl2 (sX3_does_4_0_2_f6_f4 2 f_4 L) fun (r_23 : Int32) (f_20 : sg_F) =>
  spl (α := Int32) (f_20 36 3) fun (v_26 : Int32) =>
  spl (α := Int32) (r_7 - r_23) fun (v_34 : Int32) =>
  ((v_34 : Int32), f_20)
set_option maxRecDepth 100000 in
noncomputable def sX3_does_4_2_1_f4_f4_b53 (x2 : Int32) (fp_53 : sg_F) (L : sg_L) : Int32 × sg_F :=
  spl (α := Int32) (fp_53 36 3) fun (v_2 : Int32) =>
  spl (α := Int32) (fp_53 36 4) fun (v_5 : Int32) =>
  spl (α := Int32) (v_2 + 1) fun (v_9 : Int32) =>
  spl (α := sg_F) (sg_up fp_53 36 (sgu (fp_53 36) 3 v_9)) fun (f_11 : sg_F) =>
  spl2 (sX3_runs_50_1_2_f5_f4 x2 f_11 L) fun (r_18 : Int32) (f_15 : sg_F) =>
  spl (α := Int32) (f_15 36 3) fun (v_21 : Int32) =>
  ((r_18 : Int32), f_15)
set_option maxRecDepth 100000 in
noncomputable def sX3_does_4_2_1_f4_f4 (x2 : Int32) (f : sg_F) (L : sg_L) : Int32 × sg_F :=
  spl (sX3_ownerOf_4_2 f L) fun (r_33 : Int32) =>
  spl (α := sg_F) (sg_up f 38 (sgu (f 38) 4 50)) fun (f_35 : sg_F) =>
  sX3_does_4_2_1_f4_f4_b53 x2 f_35 L
set_option maxRecDepth 100000 in
noncomputable def sX3_runs_2_m1_1_f1_f4 (x2 : Int32) (f : sg_F) (L : sg_L) : Int32 × sg_F :=
  spl2 (sX3_does_4_1_1_f1_f4 x2 f L) fun (r_7 : Int32) (f_4 : sg_F) =>
  spl (α := Int32) (f_4 36 3) fun (v_10 : Int32) =>
  spl2 (sX3_does_4_2_1_f4_f4 1 f_4 L) fun (r_23 : Int32) (f_20 : sg_F) =>
  spl (α := Int32) (f_20 36 3) fun (v_26 : Int32) =>
  spl (α := Int32) (r_7 - r_23) fun (v_34 : Int32) =>
  ((v_34 : Int32), f_20)
set_option maxRecDepth 100000 in
noncomputable def sX3_does_4_3_0_f0_f4_b53 (x2 : Int32) (fp_53 : sg_F) (L : sg_L) : Int32 × sg_F :=
  spl (α := Int32) (fp_53 36 3) fun (v_2 : Int32) =>
  spl (α := Int32) (fp_53 36 4) fun (v_5 : Int32) =>
  spl (α := Int32) (v_2 + 1) fun (v_9 : Int32) =>
  spl (α := sg_F) (sg_up fp_53 36 (sgu (fp_53 36) 3 v_9)) fun (f_11 : sg_F) =>
  spl2 (sX3_runs_2_m1_1_f1_f4 x2 f_11 L) fun (r_18 : Int32) (f_15 : sg_F) =>
  spl (α := Int32) (f_15 36 3) fun (v_21 : Int32) =>
  ((r_18 : Int32), f_15)
set_option maxRecDepth 100000 in
noncomputable def sX3_does_4_3_0_f0_f4 (x2 : Int32) (f : sg_F) (L : sg_L) : Int32 × sg_F :=
  spl (sX3_ownerOf_4_3 f L) fun (r_33 : Int32) =>
  spl (α := sg_F) (sg_up f 38 (sgu (f 38) 0 2)) fun (f_35 : sg_F) =>
  sX3_does_4_3_0_f0_f4_b53 x2 f_35 L
set_option maxRecDepth 100000 in
noncomputable def sX3_ownerOf_5_3 (f : sg_F) (L : sg_L) : Int32 :=
  ((5 : Int32))
set_option maxRecDepth 100000 in
noncomputable def sX3_runs_1_m1_6_f6_f5 (x2 : Int32) (f : sg_F) (L : sg_L) : Int32 :=
  spl (α := Int32) (f 36 5) fun (v_2 : Int32) =>
  spl (α := Int32) (x2 + v_2) fun (v_4 : Int32) =>
  ((v_4 : Int32))
set_option maxRecDepth 100000 in
noncomputable def sX3_does_5_0_5_f5_f5_b53 (x2 : Int32) (fp_53 : sg_F) (L : sg_L) : Int32 × sg_F :=
  spl (α := Int32) (fp_53 36 3) fun (v_2 : Int32) =>
  spl (α := Int32) (fp_53 36 4) fun (v_5 : Int32) =>
  spl (α := Int32) (v_2 + 1) fun (v_9 : Int32) =>
  spl (α := sg_F) (sg_up fp_53 36 (sgu (fp_53 36) 3 v_9)) fun (f_11 : sg_F) =>
  spl (sX3_runs_1_m1_6_f6_f5 x2 f_11 L) fun (r_18 : Int32) =>
  ((r_18 : Int32), f_11)
set_option maxRecDepth 100000 in
noncomputable def sX3_does_5_0_5_f5_f5 (x2 : Int32) (f : sg_F) (L : sg_L) : Int32 × sg_F :=
  spl (sX3_ownerOf_5_0 f L) fun (r_31 : Int32) =>
  spl (α := sg_F) (sg_up f 38 (sgu (f 38) 5 1)) fun (f_33 : sg_F) =>
  sX3_does_5_0_5_f5_f5_b53 x2 f_33 L
set_option maxRecDepth 100000 in
noncomputable def sX3_runs_10_m1_5_f5_f5 (x2 : Int32) (f : sg_F) (L : sg_L) : Int32 × sg_F :=
  spl2 (sX3_does_5_0_5_f5_f5 x2 f L) fun (r_7 : Int32) (f_4 : sg_F) =>
  spl (α := Int32) (f_4 36 3) fun (v_10 : Int32) =>
  spl (α := Int32) (r_7 * 2) fun (v_17 : Int32) =>
  ((v_17 : Int32), f_4)
set_option maxRecDepth 100000 in
noncomputable def sX3_does_0_1_4_f4_f5_b53 (x2 : Int32) (fp_53 : sg_F) (L : sg_L) : Int32 × sg_F :=
  spl (α := Int32) (fp_53 36 3) fun (v_2 : Int32) =>
  spl (α := Int32) (fp_53 36 4) fun (v_5 : Int32) =>
  spl (α := Int32) (v_2 + 1) fun (v_9 : Int32) =>
  spl (α := sg_F) (sg_up fp_53 36 (sgu (fp_53 36) 3 v_9)) fun (f_11 : sg_F) =>
  spl2 (sX3_runs_10_m1_5_f5_f5 x2 f_11 L) fun (r_18 : Int32) (f_15 : sg_F) =>
  spl (α := Int32) (f_15 36 3) fun (v_21 : Int32) =>
  ((r_18 : Int32), f_15)
set_option maxRecDepth 100000 in
noncomputable def sX3_does_0_1_4_f4_f5 (x2 : Int32) (f : sg_F) (L : sg_L) : Int32 × sg_F :=
  spl (sX3_ownerOf_0_1 f L) fun (r_33 : Int32) =>
  spl (α := sg_F) (sg_up f 38 (sgu (f 38) 4 10)) fun (f_35 : sg_F) =>
  sX3_does_0_1_4_f4_f5_b53 x2 f_35 L
set_option maxRecDepth 100000 in
noncomputable def sX3_runs_30_0_4_f4_f5 (x2 : Int32) (f : sg_F) (L : sg_L) : Int32 × sg_F :=
  spl2 (sX3_does_0_1_4_f4_f5 x2 f L) fun (r_7 : Int32) (f_4 : sg_F) =>
  spl (α := Int32) (f_4 36 3) fun (v_10 : Int32) =>
  spl (α := Int32) ((-r_7)) fun (v_17 : Int32) =>
  ((v_17 : Int32), f_4)
set_option maxRecDepth 100000 in
noncomputable def sX3_does_2_1_3_f3_f5_b53 (x2 : Int32) (fp_53 : sg_F) (L : sg_L) : Int32 × sg_F :=
  spl (α := Int32) (fp_53 36 3) fun (v_2 : Int32) =>
  spl (α := Int32) (fp_53 36 4) fun (v_5 : Int32) =>
  spl (α := Int32) (v_2 + 1) fun (v_9 : Int32) =>
  spl (α := sg_F) (sg_up fp_53 36 (sgu (fp_53 36) 3 v_9)) fun (f_11 : sg_F) =>
  spl2 (sX3_runs_30_0_4_f4_f5 x2 f_11 L) fun (r_18 : Int32) (f_15 : sg_F) =>
  spl (α := Int32) (f_15 36 3) fun (v_21 : Int32) =>
  ((r_18 : Int32), f_15)
set_option maxRecDepth 100000 in
noncomputable def sX3_does_2_1_3_f3_f5 (x2 : Int32) (f : sg_F) (L : sg_L) : Int32 × sg_F :=
  spl (sX3_ownerOf_2_1 f L) fun (r_33 : Int32) =>
  spl (α := sg_F) (sg_up f 38 (sgu (f 38) 3 30)) fun (f_35 : sg_F) =>
  sX3_does_2_1_3_f3_f5_b53 x2 f_35 L
set_option maxRecDepth 100000 in
noncomputable def sX3_runs_41_2_3_f3_f5 (x2 : Int32) (f : sg_F) (L : sg_L) : Int32 × sg_F :=
  spl (α := Int32) (x2 + 1) fun (v_2 : Int32) =>
  spl2 (sX3_does_2_1_3_f3_f5 v_2 f L) fun (r_8 : Int32) (f_5 : sg_F) =>
  spl (α := Int32) (f_5 36 3) fun (v_11 : Int32) =>
  ((r_8 : Int32), f_5)
set_option maxRecDepth 100000 in
noncomputable def sX3_does_5_1_2_f2_f5_b53 (x2 : Int32) (fp_53 : sg_F) (L : sg_L) : Int32 × sg_F :=
  spl (α := Int32) (fp_53 36 3) fun (v_2 : Int32) =>
  spl (α := Int32) (fp_53 36 4) fun (v_5 : Int32) =>
  spl (α := Int32) (v_2 + 1) fun (v_9 : Int32) =>
  spl (α := sg_F) (sg_up fp_53 36 (sgu (fp_53 36) 3 v_9)) fun (f_11 : sg_F) =>
  spl2 (sX3_runs_41_2_3_f3_f5 x2 f_11 L) fun (r_18 : Int32) (f_15 : sg_F) =>
  spl (α := Int32) (f_15 36 3) fun (v_21 : Int32) =>
  ((r_18 : Int32), f_15)
set_option maxRecDepth 100000 in
noncomputable def sX3_does_5_1_2_f2_f5 (x2 : Int32) (f : sg_F) (L : sg_L) : Int32 × sg_F :=
  spl (sX3_ownerOf_5_1 f L) fun (r_33 : Int32) =>
  spl (α := sg_F) (sg_up f 38 (sgu (f 38) 2 41)) fun (f_35 : sg_F) =>
  sX3_does_5_1_2_f2_f5_b53 x2 f_35 L
set_option maxRecDepth 100000 in
noncomputable def sX3_runs_11_m1_4_f8_f5 (x2 : Int32) (f : sg_F) (L : sg_L) : Int32 :=
  spl (α := Int32) (f 36 5) fun (v_2 : Int32) =>
  spl (α := Int32) (x2 ^^^ v_2) fun (v_4 : Int32) =>
  ((v_4 : Int32))
set_option maxRecDepth 100000 in
noncomputable def sX3_does_2_2_3_f7_f5_b53 (x2 : Int32) (fp_53 : sg_F) (L : sg_L) : Int32 × sg_F :=
  spl (α := Int32) (fp_53 36 3) fun (v_2 : Int32) =>
  spl (α := Int32) (fp_53 36 4) fun (v_5 : Int32) =>
  spl (α := Int32) (v_2 + 1) fun (v_9 : Int32) =>
  spl (α := sg_F) (sg_up fp_53 36 (sgu (fp_53 36) 3 v_9)) fun (f_11 : sg_F) =>
  spl (sX3_runs_11_m1_4_f8_f5 x2 f_11 L) fun (r_18 : Int32) =>
  ((r_18 : Int32), f_11)
set_option maxRecDepth 100000 in
noncomputable def sX3_does_2_2_3_f7_f5 (x2 : Int32) (f : sg_F) (L : sg_L) : Int32 × sg_F :=
  spl (sX3_ownerOf_2_2 f L) fun (r_31 : Int32) =>
  spl (α := sg_F) (sg_up f 38 (sgu (f 38) 7 11)) fun (f_33 : sg_F) =>
  sX3_does_2_2_3_f7_f5_b53 x2 f_33 L
set_option maxRecDepth 100000 in
noncomputable def sX3_runs_40_2_3_f7_f5 (x2 : Int32) (f : sg_F) (L : sg_L) : Int32 × sg_F :=
  spl2 (sX3_does_2_2_3_f7_f5 x2 f L) fun (r_7 : Int32) (f_4 : sg_F) =>
  spl (α := Int32) (f_4 36 3) fun (v_10 : Int32) =>
  spl (α := Int32) (r_7 * 3) fun (v_17 : Int32) =>
  ((v_17 : Int32), f_4)
set_option maxRecDepth 100000 in
noncomputable def sX3_does_5_2_2_f6_f5_b53 (x2 : Int32) (fp_53 : sg_F) (L : sg_L) : Int32 × sg_F :=
  spl (α := Int32) (fp_53 36 3) fun (v_2 : Int32) =>
  spl (α := Int32) (fp_53 36 4) fun (v_5 : Int32) =>
  spl (α := Int32) (v_2 + 1) fun (v_9 : Int32) =>
  spl (α := sg_F) (sg_up fp_53 36 (sgu (fp_53 36) 3 v_9)) fun (f_11 : sg_F) =>
  spl2 (sX3_runs_40_2_3_f7_f5 x2 f_11 L) fun (r_18 : Int32) (f_15 : sg_F) =>
  spl (α := Int32) (f_15 36 3) fun (v_21 : Int32) =>
  ((r_18 : Int32), f_15)
set_option maxRecDepth 100000 in
noncomputable def sX3_does_5_2_2_f6_f5 (x2 : Int32) (f : sg_F) (L : sg_L) : Int32 × sg_F :=
  spl (sX3_ownerOf_5_2 f L) fun (r_33 : Int32) =>
  spl (α := sg_F) (sg_up f 38 (sgu (f 38) 6 40)) fun (f_35 : sg_F) =>
  sX3_does_5_2_2_f6_f5_b53 x2 f_35 L
set_option maxRecDepth 100000 in
noncomputable def sX3_runs_2_m1_2_f2_f5 (x2 : Int32) (f : sg_F) (L : sg_L) : Int32 × sg_F :=
  spl2 (sX3_does_5_1_2_f2_f5 x2 f L) fun (r_7 : Int32) (f_4 : sg_F) =>
  spl (α := Int32) (f_4 36 3) fun (v_10 : Int32) =>
  spl2 (sX3_does_5_2_2_f6_f5 1 f_4 L) fun (r_23 : Int32) (f_20 : sg_F) =>
  spl (α := Int32) (f_20 36 3) fun (v_26 : Int32) =>
  spl (α := Int32) (r_7 - r_23) fun (v_34 : Int32) =>
  ((v_34 : Int32), f_20)
set_option maxRecDepth 100000 in
noncomputable def sX3_does_3_3_1_f1_f5_b53 (x2 : Int32) (fp_53 : sg_F) (L : sg_L) : Int32 × sg_F :=
  spl (α := Int32) (fp_53 36 3) fun (v_2 : Int32) =>
  spl (α := Int32) (fp_53 36 4) fun (v_5 : Int32) =>
  spl (α := Int32) (v_2 + 1) fun (v_9 : Int32) =>
  spl (α := sg_F) (sg_up fp_53 36 (sgu (fp_53 36) 3 v_9)) fun (f_11 : sg_F) =>
  spl2 (sX3_runs_2_m1_2_f2_f5 x2 f_11 L) fun (r_18 : Int32) (f_15 : sg_F) =>
  spl (α := Int32) (f_15 36 3) fun (v_21 : Int32) =>
  ((r_18 : Int32), f_15)
set_option maxRecDepth 100000 in
noncomputable def sX3_does_3_3_1_f1_f5 (x2 : Int32) (f : sg_F) (L : sg_L) : Int32 × sg_F :=
  spl (sX3_ownerOf_3_3 f L) fun (r_33 : Int32) =>
  spl (α := sg_F) (sg_up f 38 (sgu (f 38) 1 2)) fun (f_35 : sg_F) =>
  sX3_does_3_3_1_f1_f5_b53 x2 f_35 L
set_option maxRecDepth 100000 in
noncomputable def sX3_runs_60_3_1_f1_f5 (x2 : Int32) (f : sg_F) (L : sg_L) : Int32 × sg_F :=
  spl2 (sX3_does_3_3_1_f1_f5 x2 f L) fun (r_7 : Int32) (f_4 : sg_F) =>
  spl (α := Int32) (f_4 36 3) fun (v_10 : Int32) =>
  spl (α := Int32) (r_7 ^^^ 5) fun (v_17 : Int32) =>
  ((v_17 : Int32), f_4)
set_option maxRecDepth 100000 in
noncomputable def sX3_does_5_3_0_f0_f5_b53 (x2 : Int32) (fp_53 : sg_F) (L : sg_L) : Int32 × sg_F :=
  spl (α := Int32) (fp_53 36 3) fun (v_2 : Int32) =>
  spl (α := Int32) (fp_53 36 4) fun (v_5 : Int32) =>
  spl (α := Int32) (v_2 + 1) fun (v_9 : Int32) =>
  spl (α := sg_F) (sg_up fp_53 36 (sgu (fp_53 36) 3 v_9)) fun (f_11 : sg_F) =>
  spl2 (sX3_runs_60_3_1_f1_f5 x2 f_11 L) fun (r_18 : Int32) (f_15 : sg_F) =>
  spl (α := Int32) (f_15 36 3) fun (v_21 : Int32) =>
  ((r_18 : Int32), f_15)
set_option maxRecDepth 100000 in
noncomputable def sX3_does_5_3_0_f0_f5 (x2 : Int32) (f : sg_F) (L : sg_L) : Int32 × sg_F :=
  spl (sX3_ownerOf_5_3 f L) fun (r_33 : Int32) =>
  spl (α := sg_F) (sg_up f 38 (sgu (f 38) 0 60)) fun (f_35 : sg_F) =>
  sX3_does_5_3_0_f0_f5_b53 x2 f_35 L
set_option maxRecDepth 100000 in
noncomputable def sX3_ownerOf_6_3 (f : sg_F) (L : sg_L) : Int32 :=
  ((0 : Int32))
set_option maxRecDepth 100000 in
noncomputable def sX3_runs_1_m1_4_f4_f6 (x2 : Int32) (f : sg_F) (L : sg_L) : Int32 :=
  spl (α := Int32) (f 36 5) fun (v_2 : Int32) =>
  spl (α := Int32) (x2 + v_2) fun (v_4 : Int32) =>
  ((v_4 : Int32))
set_option maxRecDepth 100000 in
noncomputable def sX3_does_0_0_3_f3_f6_b53 (x2 : Int32) (fp_53 : sg_F) (L : sg_L) : Int32 × sg_F :=
  spl (α := Int32) (fp_53 36 3) fun (v_2 : Int32) =>
  spl (α := Int32) (fp_53 36 4) fun (v_5 : Int32) =>
  spl (α := Int32) (v_2 + 1) fun (v_9 : Int32) =>
  spl (α := sg_F) (sg_up fp_53 36 (sgu (fp_53 36) 3 v_9)) fun (f_11 : sg_F) =>
  spl (sX3_runs_1_m1_4_f4_f6 x2 f_11 L) fun (r_18 : Int32) =>
  ((r_18 : Int32), f_11)
set_option maxRecDepth 100000 in
noncomputable def sX3_does_0_0_3_f3_f6 (x2 : Int32) (f : sg_F) (L : sg_L) : Int32 × sg_F :=
  spl (sX3_ownerOf_0_0 f L) fun (r_31 : Int32) =>
  spl (α := sg_F) (sg_up f 38 (sgu (f 38) 3 1)) fun (f_33 : sg_F) =>
  sX3_does_0_0_3_f3_f6_b53 x2 f_33 L
set_option maxRecDepth 100000 in
noncomputable def sX3_runs_70_0_3_f3_f6 (x2 : Int32) (f : sg_F) (L : sg_L) : Int32 × sg_F :=
  spl2 (sX3_does_0_0_3_f3_f6 x2 f L) fun (r_7 : Int32) (f_4 : sg_F) =>
  spl (α := Int32) (f_4 36 3) fun (v_10 : Int32) =>
  spl (α := Int32) (r_7 * 2) fun (v_17 : Int32) =>
  ((v_17 : Int32), f_4)
set_option maxRecDepth 100000 in
noncomputable def sX3_does_6_0_2_f2_f6_b53 (x2 : Int32) (fp_53 : sg_F) (L : sg_L) : Int32 × sg_F :=
  spl (α := Int32) (fp_53 36 3) fun (v_2 : Int32) =>
  spl (α := Int32) (fp_53 36 4) fun (v_5 : Int32) =>
  spl (α := Int32) (v_2 + 1) fun (v_9 : Int32) =>
  spl (α := sg_F) (sg_up fp_53 36 (sgu (fp_53 36) 3 v_9)) fun (f_11 : sg_F) =>
  spl2 (sX3_runs_70_0_3_f3_f6 x2 f_11 L) fun (r_18 : Int32) (f_15 : sg_F) =>
  spl (α := Int32) (f_15 36 3) fun (v_21 : Int32) =>
  ((r_18 : Int32), f_15)
set_option maxRecDepth 100000 in
noncomputable def sX3_does_6_0_2_f2_f6 (x2 : Int32) (f : sg_F) (L : sg_L) : Int32 × sg_F :=
  spl (sX3_ownerOf_6_0 f L) fun (r_33 : Int32) =>
  spl (α := sg_F) (sg_up f 38 (sgu (f 38) 2 70)) fun (f_35 : sg_F) =>
  sX3_does_6_0_2_f2_f6_b53 x2 f_35 L
set_option maxRecDepth 100000 in
noncomputable def sX3_runs_10_m1_2_f2_f6 (x2 : Int32) (f : sg_F) (L : sg_L) : Int32 × sg_F :=
  spl2 (sX3_does_6_0_2_f2_f6 x2 f L) fun (r_7 : Int32) (f_4 : sg_F) =>
  spl (α := Int32) (f_4 36 3) fun (v_10 : Int32) =>
  spl (α := Int32) (r_7 * 2) fun (v_17 : Int32) =>
  ((v_17 : Int32), f_4)
set_option maxRecDepth 100000 in
noncomputable def sX3_does_6_1_1_f1_f6_b53 (x2 : Int32) (fp_53 : sg_F) (L : sg_L) : Int32 × sg_F :=
  spl (α := Int32) (fp_53 36 3) fun (v_2 : Int32) =>
  spl (α := Int32) (fp_53 36 4) fun (v_5 : Int32) =>
  spl (α := Int32) (v_2 + 1) fun (v_9 : Int32) =>
  spl (α := sg_F) (sg_up fp_53 36 (sgu (fp_53 36) 3 v_9)) fun (f_11 : sg_F) =>
  spl2 (sX3_runs_10_m1_2_f2_f6 x2 f_11 L) fun (r_18 : Int32) (f_15 : sg_F) =>
  spl (α := Int32) (f_15 36 3) fun (v_21 : Int32) =>
  ((r_18 : Int32), f_15)
set_option maxRecDepth 100000 in
noncomputable def sX3_does_6_1_1_f1_f6 (x2 : Int32) (f : sg_F) (L : sg_L) : Int32 × sg_F :=
  spl (sX3_ownerOf_6_1 f L) fun (r_33 : Int32) =>
  spl (α := sg_F) (sg_up f 38 (sgu (f 38) 1 10)) fun (f_35 : sg_F) =>
  sX3_does_6_1_1_f1_f6_b53 x2 f_35 L
set_option maxRecDepth 100000 in
noncomputable def sX3_runs_11_m1_2_f5_f6 (x2 : Int32) (f : sg_F) (L : sg_L) : Int32 :=
  spl (α := Int32) (f 36 5) fun (v_2 : Int32) =>
  spl (α := Int32) (x2 ^^^ v_2) fun (v_4 : Int32) =>
  ((v_4 : Int32))
set_option maxRecDepth 100000 in
noncomputable def sX3_does_6_2_1_f4_f6_b53 (x2 : Int32) (fp_53 : sg_F) (L : sg_L) : Int32 × sg_F :=
  spl (α := Int32) (fp_53 36 3) fun (v_2 : Int32) =>
  spl (α := Int32) (fp_53 36 4) fun (v_5 : Int32) =>
  spl (α := Int32) (v_2 + 1) fun (v_9 : Int32) =>
  spl (α := sg_F) (sg_up fp_53 36 (sgu (fp_53 36) 3 v_9)) fun (f_11 : sg_F) =>
  spl (sX3_runs_11_m1_2_f5_f6 x2 f_11 L) fun (r_18 : Int32) =>
  ((r_18 : Int32), f_11)
set_option maxRecDepth 100000 in
noncomputable def sX3_does_6_2_1_f4_f6 (x2 : Int32) (f : sg_F) (L : sg_L) : Int32 × sg_F :=
  spl (sX3_ownerOf_6_2 f L) fun (r_31 : Int32) =>
  spl (α := sg_F) (sg_up f 38 (sgu (f 38) 4 11)) fun (f_33 : sg_F) =>
  sX3_does_6_2_1_f4_f6_b53 x2 f_33 L
set_option maxRecDepth 100000 in
noncomputable def sX3_runs_2_m1_1_f1_f6 (x2 : Int32) (f : sg_F) (L : sg_L) : Int32 × sg_F :=
  spl2 (sX3_does_6_1_1_f1_f6 x2 f L) fun (r_7 : Int32) (f_4 : sg_F) =>
  spl (α := Int32) (f_4 36 3) fun (v_10 : Int32) =>
  spl2 (sX3_does_6_2_1_f4_f6 1 f_4 L) fun (r_23 : Int32) (f_20 : sg_F) =>
  spl (α := Int32) (f_20 36 3) fun (v_26 : Int32) =>
  spl (α := Int32) (r_7 - r_23) fun (v_34 : Int32) =>
  ((v_34 : Int32), f_20)
set_option maxRecDepth 100000 in
noncomputable def sX3_does_6_3_0_f0_f6_b53 (x2 : Int32) (fp_53 : sg_F) (L : sg_L) : Int32 × sg_F :=
  spl (α := Int32) (fp_53 36 3) fun (v_2 : Int32) =>
  spl (α := Int32) (fp_53 36 4) fun (v_5 : Int32) =>
  spl (α := Int32) (v_2 + 1) fun (v_9 : Int32) =>
  spl (α := sg_F) (sg_up fp_53 36 (sgu (fp_53 36) 3 v_9)) fun (f_11 : sg_F) =>
  spl2 (sX3_runs_2_m1_1_f1_f6 x2 f_11 L) fun (r_18 : Int32) (f_15 : sg_F) =>
  spl (α := Int32) (f_15 36 3) fun (v_21 : Int32) =>
  ((r_18 : Int32), f_15)
set_option maxRecDepth 100000 in
noncomputable def sX3_does_6_3_0_f0_f6 (x2 : Int32) (f : sg_F) (L : sg_L) : Int32 × sg_F :=
  spl (sX3_ownerOf_6_3 f L) fun (r_33 : Int32) =>
  spl (α := sg_F) (sg_up f 38 (sgu (f 38) 0 2)) fun (f_35 : sg_F) =>
  sX3_does_6_3_0_f0_f6_b53 x2 f_35 L
set_option maxRecDepth 100000 in
noncomputable def sX3_ownerOf_7_3 (f : sg_F) (L : sg_L) : Int32 :=
  ((7 : Int32))
set_option maxRecDepth 100000 in
noncomputable def sX3_runs_1_m1_6_f6_f7 (x2 : Int32) (f : sg_F) (L : sg_L) : Int32 :=
  spl (α := Int32) (f 36 5) fun (v_2 : Int32) =>
  spl (α := Int32) (x2 + v_2) fun (v_4 : Int32) =>
  ((v_4 : Int32))
set_option maxRecDepth 100000 in
noncomputable def sX3_does_0_0_5_f5_f7_b53 (x2 : Int32) (fp_53 : sg_F) (L : sg_L) : Int32 × sg_F :=
  spl (α := Int32) (fp_53 36 3) fun (v_2 : Int32) =>
  spl (α := Int32) (fp_53 36 4) fun (v_5 : Int32) =>
  spl (α := Int32) (v_2 + 1) fun (v_9 : Int32) =>
  spl (α := sg_F) (sg_up fp_53 36 (sgu (fp_53 36) 3 v_9)) fun (f_11 : sg_F) =>
  spl (sX3_runs_1_m1_6_f6_f7 x2 f_11 L) fun (r_18 : Int32) =>
  ((r_18 : Int32), f_11)
set_option maxRecDepth 100000 in
noncomputable def sX3_does_0_0_5_f5_f7 (x2 : Int32) (f : sg_F) (L : sg_L) : Int32 × sg_F :=
  spl (sX3_ownerOf_0_0 f L) fun (r_31 : Int32) =>
  spl (α := sg_F) (sg_up f 38 (sgu (f 38) 5 1)) fun (f_33 : sg_F) =>
  sX3_does_0_0_5_f5_f7_b53 x2 f_33 L
set_option maxRecDepth 100000 in
noncomputable def sX3_runs_20_0_5_f5_f7 (x2 : Int32) (f : sg_F) (L : sg_L) : Int32 × sg_F :=
  spl2 (sX3_does_0_0_5_f5_f7 x2 f L) fun (r_7 : Int32) (f_4 : sg_F) =>
  spl (α := Int32) (f_4 36 3) fun (v_10 : Int32) =>
  spl (α := Int32) (r_7 + 3) fun (v_17 : Int32) =>
  ((v_17 : Int32), f_4)
set_option maxRecDepth 100000 in
noncomputable def sX3_does_7_0_4_f4_f7_b53 (x2 : Int32) (fp_53 : sg_F) (L : sg_L) : Int32 × sg_F :=
  spl (α := Int32) (fp_53 36 3) fun (v_2 : Int32) =>
  spl (α := Int32) (fp_53 36 4) fun (v_5 : Int32) =>
  spl (α := Int32) (v_2 + 1) fun (v_9 : Int32) =>
  spl (α := sg_F) (sg_up fp_53 36 (sgu (fp_53 36) 3 v_9)) fun (f_11 : sg_F) =>
  spl2 (sX3_runs_20_0_5_f5_f7 x2 f_11 L) fun (r_18 : Int32) (f_15 : sg_F) =>
  spl (α := Int32) (f_15 36 3) fun (v_21 : Int32) =>
  ((r_18 : Int32), f_15)
set_option maxRecDepth 100000 in
noncomputable def sX3_does_7_0_4_f4_f7 (x2 : Int32) (f : sg_F) (L : sg_L) : Int32 × sg_F :=
  spl (sX3_ownerOf_7_0 f L) fun (r_33 : Int32) =>
  spl (α := sg_F) (sg_up f 38 (sgu (f 38) 4 20)) fun (f_35 : sg_F) =>
  sX3_does_7_0_4_f4_f7_b53 x2 f_35 L
set_option maxRecDepth 100000 in
noncomputable def sX3_runs_10_m1_4_f4_f7 (x2 : Int32) (f : sg_F) (L : sg_L) : Int32 × sg_F :=
  spl2 (sX3_does_7_0_4_f4_f7 x2 f L) fun (r_7 : Int32) (f_4 : sg_F) =>
  spl (α := Int32) (f_4 36 3) fun (v_10 : Int32) =>
  spl (α := Int32) (r_7 * 2) fun (v_17 : Int32) =>
  ((v_17 : Int32), f_4)
set_option maxRecDepth 100000 in
noncomputable def sX3_does_4_1_3_f3_f7_b53 (x2 : Int32) (fp_53 : sg_F) (L : sg_L) : Int32 × sg_F :=
  spl (α := Int32) (fp_53 36 3) fun (v_2 : Int32) =>
  spl (α := Int32) (fp_53 36 4) fun (v_5 : Int32) =>
  spl (α := Int32) (v_2 + 1) fun (v_9 : Int32) =>
  spl (α := sg_F) (sg_up fp_53 36 (sgu (fp_53 36) 3 v_9)) fun (f_11 : sg_F) =>
  spl2 (sX3_runs_10_m1_4_f4_f7 x2 f_11 L) fun (r_18 : Int32) (f_15 : sg_F) =>
  spl (α := Int32) (f_15 36 3) fun (v_21 : Int32) =>
  ((r_18 : Int32), f_15)
set_option maxRecDepth 100000 in
noncomputable def sX3_does_4_1_3_f3_f7 (x2 : Int32) (f : sg_F) (L : sg_L) : Int32 × sg_F :=
  spl (sX3_ownerOf_4_1 f L) fun (r_33 : Int32) =>
  spl (α := sg_F) (sg_up f 38 (sgu (f 38) 3 10)) fun (f_35 : sg_F) =>
  sX3_does_4_1_3_f3_f7_b53 x2 f_35 L
set_option maxRecDepth 100000 in
noncomputable def sX3_runs_11_m1_5_f8_f7 (x2 : Int32) (f : sg_F) (L : sg_L) : Int32 :=
  spl (α := Int32) (f 36 5) fun (v_2 : Int32) =>
  spl (α := Int32) (x2 ^^^ v_2) fun (v_4 : Int32) =>
  ((v_4 : Int32))
set_option maxRecDepth 100000 in
noncomputable def sX3_does_1_2_4_f7_f7_b53 (x2 : Int32) (fp_53 : sg_F) (L : sg_L) : Int32 × sg_F :=
  spl (α := Int32) (fp_53 36 3) fun (v_2 : Int32) =>
  spl (α := Int32) (fp_53 36 4) fun (v_5 : Int32) =>
  spl (α := Int32) (v_2 + 1) fun (v_9 : Int32) =>
  spl (α := sg_F) (sg_up fp_53 36 (sgu (fp_53 36) 3 v_9)) fun (f_11 : sg_F) =>
  spl (sX3_runs_11_m1_5_f8_f7 x2 f_11 L) fun (r_18 : Int32) =>
  ((r_18 : Int32), f_11)
set_option maxRecDepth 100000 in
noncomputable def sX3_does_1_2_4_f7_f7 (x2 : Int32) (f : sg_F) (L : sg_L) : Int32 × sg_F :=
  spl (sX3_ownerOf_1_2 f L) fun (r_31 : Int32) =>
  spl (α := sg_F) (sg_up f 38 (sgu (f 38) 7 11)) fun (f_33 : sg_F) =>
  sX3_does_1_2_4_f7_f7_b53 x2 f_33 L
set_option maxRecDepth 100000 in
noncomputable def sX3_runs_1_m1_6_f10_f7 (x2 : Int32) (f : sg_F) (L : sg_L) : Int32 :=
  spl (α := Int32) (f 36 5) fun (v_2 : Int32) =>
  spl (α := Int32) (x2 + v_2) fun (v_4 : Int32) =>
  ((v_4 : Int32))
set_option maxRecDepth 100000 in
noncomputable def sX3_does_0_0_5_f9_f7_b53 (x2 : Int32) (fp_53 : sg_F) (L : sg_L) : Int32 × sg_F :=
  spl (α := Int32) (fp_53 36 3) fun (v_2 : Int32) =>
  spl (α := Int32) (fp_53 36 4) fun (v_5 : Int32) =>
  spl (α := Int32) (v_2 + 1) fun (v_9 : Int32) =>
  spl (α := sg_F) (sg_up fp_53 36 (sgu (fp_53 36) 3 v_9)) fun (f_11 : sg_F) =>
  spl (sX3_runs_1_m1_6_f10_f7 x2 f_11 L) fun (r_18 : Int32) =>
  ((r_18 : Int32), f_11)
set_option maxRecDepth 100000 in
noncomputable def sX3_does_0_0_5_f9_f7 (x2 : Int32) (f : sg_F) (L : sg_L) : Int32 × sg_F :=
  spl (sX3_ownerOf_0_0 f L) fun (r_31 : Int32) =>
  spl (α := sg_F) (sg_up f 38 (sgu (f 38) 9 1)) fun (f_33 : sg_F) =>
  sX3_does_0_0_5_f9_f7_b53 x2 f_33 L
set_option maxRecDepth 100000 in
noncomputable def sX3_runs_20_0_5_f9_f7 (x2 : Int32) (f : sg_F) (L : sg_L) : Int32 × sg_F :=
  spl2 (sX3_does_0_0_5_f9_f7 x2 f L) fun (r_7 : Int32) (f_4 : sg_F) =>
  spl (α := Int32) (f_4 36 3) fun (v_10 : Int32) =>
  spl (α := Int32) (r_7 + 3) fun (v_17 : Int32) =>
  ((v_17 : Int32), f_4)
set_option maxRecDepth 100000 in
noncomputable def sX3_does_7_0_4_f8_f7_b53 (x2 : Int32) (fp_53 : sg_F) (L : sg_L) : Int32 × sg_F :=
  spl (α := Int32) (fp_53 36 3) fun (v_2 : Int32) =>
  spl (α := Int32) (fp_53 36 4) fun (v_5 : Int32) =>
  spl (α := Int32) (v_2 + 1) fun (v_9 : Int32) =>
  spl (α := sg_F) (sg_up fp_53 36 (sgu (fp_53 36) 3 v_9)) fun (f_11 : sg_F) =>
  spl2 (sX3_runs_20_0_5_f9_f7 x2 f_11 L) fun (r_18 : Int32) (f_15 : sg_F) =>
  spl (α := Int32) (f_15 36 3) fun (v_21 : Int32) =>
  ((r_18 : Int32), f_15)
set_option maxRecDepth 100000 in
noncomputable def sX3_does_7_0_4_f8_f7 (x2 : Int32) (f : sg_F) (L : sg_L) : Int32 × sg_F :=
  spl (sX3_ownerOf_7_0 f L) fun (r_33 : Int32) =>
  spl (α := sg_F) (sg_up f 38 (sgu (f 38) 8 20)) fun (f_35 : sg_F) =>
  sX3_does_7_0_4_f8_f7_b53 x2 f_35 L
set_option maxRecDepth 100000 in
noncomputable def sX3_runs_50_1_4_f7_f7 (x2 : Int32) (f : sg_F) (L : sg_L) : Int32 × sg_F :=
  spl2 (sX3_does_1_2_4_f7_f7 x2 f L) fun (r_7 : Int32) (f_4 : sg_F) =>
  spl (α := Int32) (f_4 36 3) fun (v_10 : Int32) =>
  spl2 (sX3_does_7_0_4_f8_f7 2 f_4 L) fun (r_23 : Int32) (f_20 : sg_F) =>
  spl (α := Int32) (f_20 36 3) fun (v_26 : Int32) =>
  spl (α := Int32) (r_7 - r_23) fun (v_34 : Int32) =>
  ((v_34 : Int32), f_20)
set_option maxRecDepth 100000 in
noncomputable def sX3_does_7_2_3_f6_f7_b53 (x2 : Int32) (fp_53 : sg_F) (L : sg_L) : Int32 × sg_F :=
  spl (α := Int32) (fp_53 36 3) fun (v_2 : Int32) =>
  spl (α := Int32) (fp_53 36 4) fun (v_5 : Int32) =>
  spl (α := Int32) (v_2 + 1) fun (v_9 : Int32) =>
  spl (α := sg_F) (sg_up fp_53 36 (sgu (fp_53 36) 3 v_9)) fun (f_11 : sg_F) =>
  spl2 (sX3_runs_50_1_4_f7_f7 x2 f_11 L) fun (r_18 : Int32) (f_15 : sg_F) =>
  spl (α := Int32) (f_15 36 3) fun (v_21 : Int32) =>
  ((r_18 : Int32), f_15)
set_option maxRecDepth 100000 in
noncomputable def sX3_does_7_2_3_f6_f7 (x2 : Int32) (f : sg_F) (L : sg_L) : Int32 × sg_F :=
  spl (sX3_ownerOf_7_2 f L) fun (r_33 : Int32) =>
  spl (α := sg_F) (sg_up f 38 (sgu (f 38) 6 50)) fun (f_35 : sg_F) =>
  sX3_does_7_2_3_f6_f7_b53 x2 f_35 L
set_option maxRecDepth 100000 in
noncomputable def sX3_runs_80_4_3_f3_f7 (x2 : Int32) (f : sg_F) (L : sg_L) : Int32 × sg_F :=
  spl2 (sX3_does_4_1_3_f3_f7 x2 f L) fun (r_7 : Int32) (f_4 : sg_F) =>
  spl (α := Int32) (f_4 36 3) fun (v_10 : Int32) =>
  spl2 (sX3_does_7_2_3_f6_f7 2 f_4 L) fun (r_23 : Int32) (f_20 : sg_F) =>
  spl (α := Int32) (f_20 36 3) fun (v_26 : Int32) =>
  spl (α := Int32) (r_7 + r_23) fun (v_34 : Int32) =>
  ((v_34 : Int32), f_20)
set_option maxRecDepth 100000 in
noncomputable def sX3_does_7_1_2_f2_f7_b53 (x2 : Int32) (fp_53 : sg_F) (L : sg_L) : Int32 × sg_F :=
  spl (α := Int32) (fp_53 36 3) fun (v_2 : Int32) =>
  spl (α := Int32) (fp_53 36 4) fun (v_5 : Int32) =>
  spl (α := Int32) (v_2 + 1) fun (v_9 : Int32) =>
  spl (α := sg_F) (sg_up fp_53 36 (sgu (fp_53 36) 3 v_9)) fun (f_11 : sg_F) =>
  spl2 (sX3_runs_80_4_3_f3_f7 x2 f_11 L) fun (r_18 : Int32) (f_15 : sg_F) =>
  spl (α := Int32) (f_15 36 3) fun (v_21 : Int32) =>
  ((r_18 : Int32), f_15)
set_option maxRecDepth 100000 in
noncomputable def sX3_does_7_1_2_f2_f7 (x2 : Int32) (f : sg_F) (L : sg_L) : Int32 × sg_F :=
  spl (sX3_ownerOf_7_1 f L) fun (r_33 : Int32) =>
  spl (α := sg_F) (sg_up f 38 (sgu (f 38) 2 80)) fun (f_35 : sg_F) =>
  sX3_does_7_1_2_f2_f7_b53 x2 f_35 L
set_option maxRecDepth 100000 in
noncomputable def sX3_runs_11_m1_4_f12_f7 (x2 : Int32) (f : sg_F) (L : sg_L) : Int32 :=
  spl (α := Int32) (f 36 5) fun (v_2 : Int32) =>
  spl (α := Int32) (x2 ^^^ v_2) fun (v_4 : Int32) =>
  ((v_4 : Int32))
set_option maxRecDepth 100000 in
noncomputable def sX3_does_1_2_3_f11_f7_b53 (x2 : Int32) (fp_53 : sg_F) (L : sg_L) : Int32 × sg_F :=
  spl (α := Int32) (fp_53 36 3) fun (v_2 : Int32) =>
  spl (α := Int32) (fp_53 36 4) fun (v_5 : Int32) =>
  spl (α := Int32) (v_2 + 1) fun (v_9 : Int32) =>
  spl (α := sg_F) (sg_up fp_53 36 (sgu (fp_53 36) 3 v_9)) fun (f_11 : sg_F) =>
  spl (sX3_runs_11_m1_4_f12_f7 x2 f_11 L) fun (r_18 : Int32) =>
  ((r_18 : Int32), f_11)
set_option maxRecDepth 100000 in
noncomputable def sX3_does_1_2_3_f11_f7 (x2 : Int32) (f : sg_F) (L : sg_L) : Int32 × sg_F :=
  spl (sX3_ownerOf_1_2 f L) fun (r_31 : Int32) =>
  spl (α := sg_F) (sg_up f 38 (sgu (f 38) 11 11)) fun (f_33 : sg_F) =>
  sX3_does_1_2_3_f11_f7_b53 x2 f_33 L
set_option maxRecDepth 100000 in
noncomputable def sX3_runs_1_m1_5_f14_f7 (x2 : Int32) (f : sg_F) (L : sg_L) : Int32 :=
  spl (α := Int32) (f 36 5) fun (v_2 : Int32) =>
  spl (α := Int32) (x2 + v_2) fun (v_4 : Int32) =>
  ((v_4 : Int32))
set_option maxRecDepth 100000 in
noncomputable def sX3_does_0_0_4_f13_f7_b53 (x2 : Int32) (fp_53 : sg_F) (L : sg_L) : Int32 × sg_F :=
  spl (α := Int32) (fp_53 36 3) fun (v_2 : Int32) =>
  spl (α := Int32) (fp_53 36 4) fun (v_5 : Int32) =>
  spl (α := Int32) (v_2 + 1) fun (v_9 : Int32) =>
  spl (α := sg_F) (sg_up fp_53 36 (sgu (fp_53 36) 3 v_9)) fun (f_11 : sg_F) =>
  spl (sX3_runs_1_m1_5_f14_f7 x2 f_11 L) fun (r_18 : Int32) =>
  ((r_18 : Int32), f_11)
set_option maxRecDepth 100000 in
noncomputable def sX3_does_0_0_4_f13_f7 (x2 : Int32) (f : sg_F) (L : sg_L) : Int32 × sg_F :=
  spl (sX3_ownerOf_0_0 f L) fun (r_31 : Int32) =>
  spl (α := sg_F) (sg_up f 38 (sgu (f 38) 13 1)) fun (f_33 : sg_F) =>
  sX3_does_0_0_4_f13_f7_b53 x2 f_33 L
set_option maxRecDepth 100000 in
noncomputable def sX3_runs_20_0_4_f13_f7 (x2 : Int32) (f : sg_F) (L : sg_L) : Int32 × sg_F :=
  spl2 (sX3_does_0_0_4_f13_f7 x2 f L) fun (r_7 : Int32) (f_4 : sg_F) =>
  spl (α := Int32) (f_4 36 3) fun (v_10 : Int32) =>
  spl (α := Int32) (r_7 + 3) fun (v_17 : Int32) =>
  ((v_17 : Int32), f_4)
set_option maxRecDepth 100000 in
noncomputable def sX3_does_7_0_3_f12_f7_b53 (x2 : Int32) (fp_53 : sg_F) (L : sg_L) : Int32 × sg_F :=
  spl (α := Int32) (fp_53 36 3) fun (v_2 : Int32) =>
  spl (α := Int32) (fp_53 36 4) fun (v_5 : Int32) =>
  spl (α := Int32) (v_2 + 1) fun (v_9 : Int32) =>
  spl (α := sg_F) (sg_up fp_53 36 (sgu (fp_53 36) 3 v_9)) fun (f_11 : sg_F) =>
  spl2 (sX3_runs_20_0_4_f13_f7 x2 f_11 L) fun (r_18 : Int32) (f_15 : sg_F) =>
  spl (α := Int32) (f_15 36 3) fun (v_21 : Int32) =>
  ((r_18 : Int32), f_15)
set_option maxRecDepth 100000 in
noncomputable def sX3_does_7_0_3_f12_f7 (x2 : Int32) (f : sg_F) (L : sg_L) : Int32 × sg_F :=
  spl (sX3_ownerOf_7_0 f L) fun (r_33 : Int32) =>
  spl (α := sg_F) (sg_up f 38 (sgu (f 38) 12 20)) fun (f_35 : sg_F) =>
  sX3_does_7_0_3_f12_f7_b53 x2 f_35 L
set_option maxRecDepth 100000 in
noncomputable def sX3_runs_50_1_3_f11_f7 (x2 : Int32) (f : sg_F) (L : sg_L) : Int32 × sg_F :=
  spl2 (sX3_does_1_2_3_f11_f7 x2 f L) fun (r_7 : Int32) (f_4 : sg_F) =>
  spl (α := Int32) (f_4 36 3) fun (v_10 : Int32) =>
  spl2 (sX3_does_7_0_3_f12_f7 2 f_4 L) fun (r_23 : Int32) (f_20 : sg_F) =>
  spl (α := Int32) (f_20 36 3) fun (v_26 : Int32) =>
  spl (α := Int32) (r_7 - r_23) fun (v_34 : Int32) =>
  ((v_34 : Int32), f_20)
set_option maxRecDepth 100000 in
noncomputable def sX3_does_7_2_2_f10_f7_b53 (x2 : Int32) (fp_53 : sg_F) (L : sg_L) : Int32 × sg_F :=
  spl (α := Int32) (fp_53 36 3) fun (v_2 : Int32) =>
  spl (α := Int32) (fp_53 36 4) fun (v_5 : Int32) =>
  spl (α := Int32) (v_2 + 1) fun (v_9 : Int32) =>
  spl (α := sg_F) (sg_up fp_53 36 (sgu (fp_53 36) 3 v_9)) fun (f_11 : sg_F) =>
  spl2 (sX3_runs_50_1_3_f11_f7 x2 f_11 L) fun (r_18 : Int32) (f_15 : sg_F) =>
  spl (α := Int32) (f_15 36 3) fun (v_21 : Int32) =>
  ((r_18 : Int32), f_15)
set_option maxRecDepth 100000 in
noncomputable def sX3_does_7_2_2_f10_f7 (x2 : Int32) (f : sg_F) (L : sg_L) : Int32 × sg_F :=
  spl (sX3_ownerOf_7_2 f L) fun (r_33 : Int32) =>
  spl (α := sg_F) (sg_up f 38 (sgu (f 38) 10 50)) fun (f_35 : sg_F) =>
  sX3_does_7_2_2_f10_f7_b53 x2 f_35 L
set_option maxRecDepth 100000 in
noncomputable def sX3_runs_2_m1_2_f2_f7 (x2 : Int32) (f : sg_F) (L : sg_L) : Int32 × sg_F :=
  spl2 (sX3_does_7_1_2_f2_f7 x2 f L) fun (r_7 : Int32) (f_4 : sg_F) =>
  spl (α := Int32) (f_4 36 3) fun (v_10 : Int32) =>
  spl2 (sX3_does_7_2_2_f10_f7 1 f_4 L) fun (r_23 : Int32) (f_20 : sg_F) =>
  spl (α := Int32) (f_20 36 3) fun (v_26 : Int32) =>
  spl (α := Int32) (r_7 - r_23) fun (v_34 : Int32) =>
  ((v_34 : Int32), f_20)
set_option maxRecDepth 100000 in
noncomputable def sX3_does_4_3_1_f1_f7_b53 (x2 : Int32) (fp_53 : sg_F) (L : sg_L) : Int32 × sg_F :=
  spl (α := Int32) (fp_53 36 3) fun (v_2 : Int32) =>
  spl (α := Int32) (fp_53 36 4) fun (v_5 : Int32) =>
  spl (α := Int32) (v_2 + 1) fun (v_9 : Int32) =>
  spl (α := sg_F) (sg_up fp_53 36 (sgu (fp_53 36) 3 v_9)) fun (f_11 : sg_F) =>
  spl2 (sX3_runs_2_m1_2_f2_f7 x2 f_11 L) fun (r_18 : Int32) (f_15 : sg_F) =>
  spl (α := Int32) (f_15 36 3) fun (v_21 : Int32) =>
  ((r_18 : Int32), f_15)
set_option maxRecDepth 100000 in
noncomputable def sX3_does_4_3_1_f1_f7 (x2 : Int32) (f : sg_F) (L : sg_L) : Int32 × sg_F :=
  spl (sX3_ownerOf_4_3 f L) fun (r_33 : Int32) =>
  spl (α := sg_F) (sg_up f 38 (sgu (f 38) 1 2)) fun (f_35 : sg_F) =>
  sX3_does_4_3_1_f1_f7_b53 x2 f_35 L
set_option maxRecDepth 100000 in
noncomputable def sX3_runs_81_4_1_f1_f7 (x2 : Int32) (f : sg_F) (L : sg_L) : Int32 × sg_F :=
  spl2 (sX3_does_4_3_1_f1_f7 x2 f L) fun (r_7 : Int32) (f_4 : sg_F) =>
  spl (α := Int32) (f_4 36 3) fun (v_10 : Int32) =>
  spl (α := Int32) (r_7 - 1) fun (v_17 : Int32) =>
  ((v_17 : Int32), f_4)
set_option maxRecDepth 100000 in
noncomputable def sX3_does_7_3_0_f0_f7_b53 (x2 : Int32) (fp_53 : sg_F) (L : sg_L) : Int32 × sg_F :=
  spl (α := Int32) (fp_53 36 3) fun (v_2 : Int32) =>
  spl (α := Int32) (fp_53 36 4) fun (v_5 : Int32) =>
  spl (α := Int32) (v_2 + 1) fun (v_9 : Int32) =>
  spl (α := sg_F) (sg_up fp_53 36 (sgu (fp_53 36) 3 v_9)) fun (f_11 : sg_F) =>
  spl2 (sX3_runs_81_4_1_f1_f7 x2 f_11 L) fun (r_18 : Int32) (f_15 : sg_F) =>
  spl (α := Int32) (f_15 36 3) fun (v_21 : Int32) =>
  ((r_18 : Int32), f_15)
set_option maxRecDepth 100000 in
noncomputable def sX3_does_7_3_0_f0_f7 (x2 : Int32) (f : sg_F) (L : sg_L) : Int32 × sg_F :=
  spl (sX3_ownerOf_7_3 f L) fun (r_33 : Int32) =>
  spl (α := sg_F) (sg_up f 38 (sgu (f 38) 0 81)) fun (f_35 : sg_F) =>
  sX3_does_7_3_0_f0_f7_b53 x2 f_35 L
set_option maxRecDepth 100000 in
noncomputable def sX3_acts (x0 : Int32) (x1 : Int32) (x2 : Int32) (f : sg_F) (L : sg_L) : Int32 × sg_F :=
  spl (α := sg_F) (sg_up f 36 (sgu (f 36) 3 0)) fun (f_1 : sg_F) =>
  if x0.toInt < 0 then (
    ((0 : Int32), f_1)) else (
    spl (α := Int32) (f_1 36 2) fun (v_4 : Int32) =>
    if x0.toInt < v_4.toInt then (
      if x1.toInt < 0 then (
        ((0 : Int32), f_1)) else (
        if x1.toInt < 4 then (
          spl (α := Int32) (f_1 37 (Int32.toNatClampNeg x0)) fun (v_12 : Int32) =>
          spl (α := sg_F) (sg_up f_1 36 (sgu (f_1 36) 4 v_12)) fun (f_14 : sg_F) =>
          spl (α := sg_F) (sg_up f_14 36 (sgu (f_14 36) 5 x0)) fun (f_15 : sg_F) =>
          if x1.toInt = 0 then (
            if v_12.toInt = 0 then (
              spl2 (sX3_does_0_0_0_f0_f0 x2 f_15 L) fun (r_25 : Int32) (f_22 : sg_F) =>
              spl (α := Int32) (f_22 36 3) fun (v_28 : Int32) =>
              ((r_25 : Int32), f_22)) else (
              if v_12.toInt = 1 then (
                spl2 (sX3_does_1_0_0_f0_f1 x2 f_15 L) fun (r_41 : Int32) (f_38 : sg_F) =>
                spl (α := Int32) (f_38 36 3) fun (v_44 : Int32) =>
                ((r_41 : Int32), f_38)) else (
                if v_12.toInt = 2 then (
                  spl2 (sX3_does_2_0_0_f0_f2 x2 f_15 L) fun (r_57 : Int32) (f_54 : sg_F) =>
                  spl (α := Int32) (f_54 36 3) fun (v_60 : Int32) =>
                  ((r_57 : Int32), f_54)) else (
                  if v_12.toInt = 3 then (
                    spl2 (sX3_does_3_0_0_f0_f3 x2 f_15 L) fun (r_73 : Int32) (f_70 : sg_F) =>
                    spl (α := Int32) (f_70 36 3) fun (v_76 : Int32) =>
                    ((r_73 : Int32), f_70)) else (
                    if v_12.toInt = 4 then (
                      spl2 (sX3_does_4_0_0_f0_f4 x2 f_15 L) fun (r_89 : Int32) (f_86 : sg_F) =>
                      spl (α := Int32) (f_86 36 3) fun (v_92 : Int32) =>
                      ((r_89 : Int32), f_86)) else (
                      if v_12.toInt = 5 then (
                        spl2 (sX3_does_5_0_0_f0_f5 x2 f_15 L) fun (r_105 : Int32) (f_102 : sg_F) =>
                        spl (α := Int32) (f_102 36 3) fun (v_108 : Int32) =>
                        ((r_105 : Int32), f_102)) else (
                        if v_12.toInt = 6 then (
                          spl2 (sX3_does_6_0_0_f0_f6 x2 f_15 L) fun (r_121 : Int32) (f_118 : sg_F) =>
                          spl (α := Int32) (f_118 36 3) fun (v_124 : Int32) =>
                          ((r_121 : Int32), f_118)) else (
                          spl2 (sX3_does_7_0_0_f0_f7 x2 f_15 L) fun (r_137 : Int32) (f_134 : sg_F) =>
                          spl (α := Int32) (f_134 36 3) fun (v_140 : Int32) =>
                          ((r_137 : Int32), f_134))))))))) else (
            if x1.toInt = 1 then (
              if v_12.toInt = 0 then (
                spl2 (sX3_does_0_1_0_f0_f0 x2 f_15 L) fun (r_155 : Int32) (f_152 : sg_F) =>
                spl (α := Int32) (f_152 36 3) fun (v_158 : Int32) =>
                ((r_155 : Int32), f_152)) else (
                if v_12.toInt = 1 then (
                  spl2 (sX3_does_1_1_0_f0_f1 x2 f_15 L) fun (r_171 : Int32) (f_168 : sg_F) =>
                  spl (α := Int32) (f_168 36 3) fun (v_174 : Int32) =>
                  ((r_171 : Int32), f_168)) else (
                  if v_12.toInt = 2 then (
                    spl2 (sX3_does_2_1_0_f0_f2 x2 f_15 L) fun (r_187 : Int32) (f_184 : sg_F) =>
                    spl (α := Int32) (f_184 36 3) fun (v_190 : Int32) =>
                    ((r_187 : Int32), f_184)) else (
                    if v_12.toInt = 3 then (
                      spl2 (sX3_does_3_1_0_f0_f3 x2 f_15 L) fun (r_203 : Int32) (f_200 : sg_F) =>
                      spl (α := Int32) (f_200 36 3) fun (v_206 : Int32) =>
                      ((r_203 : Int32), f_200)) else (
                      if v_12.toInt = 4 then (
                        spl2 (sX3_does_4_1_0_f0_f4 x2 f_15 L) fun (r_219 : Int32) (f_216 : sg_F) =>
                        spl (α := Int32) (f_216 36 3) fun (v_222 : Int32) =>
                        ((r_219 : Int32), f_216)) else (
                        if v_12.toInt = 5 then (
                          spl2 (sX3_does_5_1_0_f0_f5 x2 f_15 L) fun (r_235 : Int32) (f_232 : sg_F) =>
                          spl (α := Int32) (f_232 36 3) fun (v_238 : Int32) =>
                          ((r_235 : Int32), f_232)) else (
                          if v_12.toInt = 6 then (
                            spl2 (sX3_does_6_1_0_f0_f6 x2 f_15 L) fun (r_251 : Int32) (f_248 : sg_F) =>
                            spl (α := Int32) (f_248 36 3) fun (v_254 : Int32) =>
                            ((r_251 : Int32), f_248)) else (
                            spl2 (sX3_does_7_1_0_f0_f7 x2 f_15 L) fun (r_267 : Int32) (f_264 : sg_F) =>
                            spl (α := Int32) (f_264 36 3) fun (v_270 : Int32) =>
                            ((r_267 : Int32), f_264))))))))) else (
              if x1.toInt = 2 then (
                if v_12.toInt = 0 then (
                  spl2 (sX3_does_0_2_0_f0_f0 x2 f_15 L) fun (r_285 : Int32) (f_282 : sg_F) =>
                  spl (α := Int32) (f_282 36 3) fun (v_288 : Int32) =>
                  ((r_285 : Int32), f_282)) else (
                  if v_12.toInt = 1 then (
                    spl2 (sX3_does_1_2_0_f0_f1 x2 f_15 L) fun (r_301 : Int32) (f_298 : sg_F) =>
                    spl (α := Int32) (f_298 36 3) fun (v_304 : Int32) =>
                    ((r_301 : Int32), f_298)) else (
                    if v_12.toInt = 2 then (
                      spl2 (sX3_does_2_2_0_f0_f2 x2 f_15 L) fun (r_317 : Int32) (f_314 : sg_F) =>
                      spl (α := Int32) (f_314 36 3) fun (v_320 : Int32) =>
                      ((r_317 : Int32), f_314)) else (
                      if v_12.toInt = 3 then (
                        spl2 (sX3_does_3_2_0_f0_f3 x2 f_15 L) fun (r_333 : Int32) (f_330 : sg_F) =>
                        spl (α := Int32) (f_330 36 3) fun (v_336 : Int32) =>
                        ((r_333 : Int32), f_330)) else (
                        if v_12.toInt = 4 then (
                          spl2 (sX3_does_4_2_0_f0_f4 x2 f_15 L) fun (r_349 : Int32) (f_346 : sg_F) =>
                          spl (α := Int32) (f_346 36 3) fun (v_352 : Int32) =>
                          ((r_349 : Int32), f_346)) else (
                          if v_12.toInt = 5 then (
                            spl2 (sX3_does_5_2_0_f0_f5 x2 f_15 L) fun (r_365 : Int32) (f_362 : sg_F) =>
                            spl (α := Int32) (f_362 36 3) fun (v_368 : Int32) =>
                            ((r_365 : Int32), f_362)) else (
                            if v_12.toInt = 6 then (
                              spl2 (sX3_does_6_2_0_f0_f6 x2 f_15 L) fun (r_381 : Int32) (f_378 : sg_F) =>
                              spl (α := Int32) (f_378 36 3) fun (v_384 : Int32) =>
                              ((r_381 : Int32), f_378)) else (
                              spl2 (sX3_does_7_2_0_f0_f7 x2 f_15 L) fun (r_397 : Int32) (f_394 : sg_F) =>
                              spl (α := Int32) (f_394 36 3) fun (v_400 : Int32) =>
                              ((r_397 : Int32), f_394))))))))) else (
                if v_12.toInt = 0 then (
                  spl2 (sX3_does_0_3_0_f0_f0 x2 f_15 L) fun (r_415 : Int32) (f_412 : sg_F) =>
                  spl (α := Int32) (f_412 36 3) fun (v_418 : Int32) =>
                  ((r_415 : Int32), f_412)) else (
                  if v_12.toInt = 1 then (
                    spl2 (sX3_does_1_3_0_f0_f1 x2 f_15 L) fun (r_431 : Int32) (f_428 : sg_F) =>
                    spl (α := Int32) (f_428 36 3) fun (v_434 : Int32) =>
                    ((r_431 : Int32), f_428)) else (
                    if v_12.toInt = 2 then (
                      spl2 (sX3_does_2_3_0_f0_f2 x2 f_15 L) fun (r_447 : Int32) (f_444 : sg_F) =>
                      spl (α := Int32) (f_444 36 3) fun (v_450 : Int32) =>
                      ((r_447 : Int32), f_444)) else (
                      if v_12.toInt = 3 then (
                        spl2 (sX3_does_3_3_0_f0_f3 x2 f_15 L) fun (r_463 : Int32) (f_460 : sg_F) =>
                        spl (α := Int32) (f_460 36 3) fun (v_466 : Int32) =>
                        ((r_463 : Int32), f_460)) else (
                        if v_12.toInt = 4 then (
                          spl2 (sX3_does_4_3_0_f0_f4 x2 f_15 L) fun (r_479 : Int32) (f_476 : sg_F) =>
                          spl (α := Int32) (f_476 36 3) fun (v_482 : Int32) =>
                          ((r_479 : Int32), f_476)) else (
                          if v_12.toInt = 5 then (
                            spl2 (sX3_does_5_3_0_f0_f5 x2 f_15 L) fun (r_495 : Int32) (f_492 : sg_F) =>
                            spl (α := Int32) (f_492 36 3) fun (v_498 : Int32) =>
                            ((r_495 : Int32), f_492)) else (
                            if v_12.toInt = 6 then (
                              spl2 (sX3_does_6_3_0_f0_f6 x2 f_15 L) fun (r_511 : Int32) (f_508 : sg_F) =>
                              spl (α := Int32) (f_508 36 3) fun (v_514 : Int32) =>
                              ((r_511 : Int32), f_508)) else (
                              spl2 (sX3_does_7_3_0_f0_f7 x2 f_15 L) fun (r_527 : Int32) (f_524 : sg_F) =>
                              spl (α := Int32) (f_524 36 3) fun (v_530 : Int32) =>
                              ((r_527 : Int32), f_524)))))))))))) else (
          ((0 : Int32), f_1)))) else (
      ((0 : Int32), f_1)))
set_option maxRecDepth 100000 in
noncomputable def sX11_act (x0 : Int32) (x1 : Int32) (x2 : Int32) (f : sg_F) (L : sg_L) : Int32 × sg_F :=
  spl2 (sX3_acts x0 x1 x2 f L) fun (r_4 : Int32) (f_1 : sg_F) =>
  ((r_4 : Int32), f_1)
set_option maxRecDepth 100000 in
noncomputable def sX11_trace (x0 : Int32) (f : sg_F) (L : sg_L) : Int32 :=
  if x0.toInt < 0 then (
    (((-1) : Int32))) else (
    spl (α := Int32) (f 36 3) fun (v_3 : Int32) =>
    spl (α := Int32) (if (24 : Int32) < v_3 then 24 else v_3) fun (v_5 : Int32) =>
    if x0.toInt < v_5.toInt then (
      spl (α := Int32) (f 38 (Int32.toNatClampNeg x0)) fun (v_9 : Int32) =>
      ((v_9 : Int32))) else (
      (((-1) : Int32))))
set_option maxRecDepth 100000 in
noncomputable def sX7_takesDesk (x0 : Int32) (t : Nat) (f : sg_F) (L : sg_L) : sg_F :=
  if x0.toInt < 0 then (
    spl (α := sg_F) (sg_up f (40 + 2 * t) (sgu (f (40 + 2 * t)) 1 (-1))) fun (f_5 : sg_F) =>
    spl (α := sg_F) (sg_up f_5 (40 + 2 * t) (sgu (f_5 (40 + 2 * t)) 3 x0)) fun (f_6 : sg_F) =>
    (f_6)) else (
    spl (α := sg_F) (sg_up f (40 + 2 * t) (sgu (f (40 + 2 * t)) 1 (-2))) fun (f_3 : sg_F) =>
    spl (α := sg_F) (sg_up f_3 (40 + 2 * t) (sgu (f_3 (40 + 2 * t)) 3 x0)) fun (f_4 : sg_F) =>
    (f_4))
set_option maxRecDepth 100000 in
noncomputable def sX11_keep (x0 : Int32) (x1 : Int32) (f : sg_F) (L : sg_L) : Int32 × sg_F :=
  spl (sX11_isShelf x0 f L) fun (r_4 : Int32) =>
  if r_4 = 1 then (
    if x1.toInt < (-1) then (
      (((-1) : Int32), f)) else (
      spl (α := Int32) (f 36 2) fun (v_9 : Int32) =>
      if x1.toInt < v_9.toInt then (
        spl (α := Nat) (x0.toNatClampNeg) fun (t_13 : Nat) =>
        spl (sX7_takesDesk x1 t_13 f L) fun (f_14 : sg_F) =>
        ((1 : Int32), f_14)) else (
        (((-1) : Int32), f)))) else (
    (((-1) : Int32), f))
set_option maxRecDepth 100000 in
noncomputable def sX7_takesRow_h12 (x0 : Int32) (x1 : Int32) (t : Nat) (rec_12 : Int32 → sg_F → sg_L → sg_F × sg_L) (y3_12 : Int32) (fp_12 : sg_F) (Lp_12 : sg_L) : sg_F × sg_L :=
  spl (α := Int32) (fp_12 (40 + 2 * t) 1) fun (v_1 : Int32) =>
  if y3_12.toInt < x1.toInt then (
    spl (α := sg_L) (sg_up Lp_12 (41 + 2 * t) (sgu (Lp_12 (41 + 2 * t)) (y3_12 : Int32).toNatClampNeg 0)) fun (L_6 : sg_L) =>
    spl (α := Int32) (y3_12 + 1) fun (v_7 : Int32) =>
    rec_12 v_7 fp_12 L_6) else (
    (fp_12, Lp_12))
set_option maxRecDepth 100000 in
noncomputable def sX7_takesRow_l12 (x0 : Int32) (x1 : Int32) (t : Nat) (n : Nat) : Int32 → sg_F → sg_L → sg_F × sg_L :=
  Nat.rec (motive := fun _ => Int32 → sg_F → sg_L → sg_F × sg_L) (fun _ f L => (f, L)) (fun _ r => sX7_takesRow_h12 x0 x1 t r) n
set_option maxRecDepth 100000 in
noncomputable def sX7_takesRow (x0 : Int32) (x1 : Int32) (t : Nat) (f : sg_F) (L : sg_L) : sg_F × sg_L :=
  spl (α := sg_F) (sg_up f (40 + 2 * t) (sgu (f (40 + 2 * t)) 1 x0)) fun (f_9 : sg_F) =>
  spl (α := sg_F) (sg_up f_9 (40 + 2 * t) (sgu (f_9 (40 + 2 * t)) 2 x1)) fun (f_10 : sg_F) =>
  sX7_takesRow_l12 x0 x1 t 61 0 f_10 L
set_option maxRecDepth 100000 in
noncomputable def sX11_row (x0 : Int32) (x1 : Int32) (x2 : Int32) (f : sg_F) (L : sg_L) : Int32 × sg_F × sg_L :=
  spl (sX11_isShelf x0 f L) fun (r_4 : Int32) =>
  if r_4 = 1 then (
    if x1.toInt < 0 then (
      (((-1) : Int32), f, L)) else (
      if 4 < x1.toInt then (
        (((-1) : Int32), f, L)) else (
        if 60 < x2.toInt then (
          (((-1) : Int32), f, L)) else (
          if x2.toInt < 0 then (
            (((-14) : Int32), f, L)) else (
            spl (α := Nat) (x0.toNatClampNeg) fun (t_15 : Nat) =>
            spl2 (sX7_takesRow x1 x2 t_15 f L) fun (f_16 : sg_F) (L_17 : sg_L) =>
            ((1 : Int32), f_16, L_17)))))) else (
    (((-1) : Int32), f, L))
set_option maxRecDepth 100000 in
noncomputable def sX7_isRow (t : Nat) (f : sg_F) (L : sg_L) : Int32 :=
  spl (α := Int32) (f (40 + 2 * t) 1) fun (v_1 : Int32) =>
  if v_1.toInt < 0 then (
    ((0 : Int32))) else (
    ((1 : Int32)))
set_option maxRecDepth 100000 in
noncomputable def sX11_refusalAt (x0 : Int32) (x1 : Int32) (f : sg_F) (L : sg_L) : Int32 :=
  spl (sX11_isShelf x0 f L) fun (r_4 : Int32) =>
  if r_4 = 1 then (
    spl (α := Nat) (x0.toNatClampNeg) fun (t_7 : Nat) =>
    spl (α := Int32) (f (40 + 2 * t_7) 1) fun (v_8 : Int32) =>
    if v_8.toInt = (-1) then (
      (((-11) : Int32))) else (
      spl (sX7_isRow t_7 f L) fun (r_15 : Int32) =>
      if r_15.toInt = 0 then (
        (((-12) : Int32))) else (
        spl (α := Int32) (f (40 + 2 * t_7) 2) fun (v_19 : Int32) =>
        spl (sX7_hasPlaces x1 1 t_7 f L) fun (r_25 : Int32) =>
        if r_25 = 1 then (
          ((0 : Int32))) else (
          (((-13) : Int32)))))) else (
    (((-1) : Int32)))
set_option maxRecDepth 100000 in
noncomputable def sX7_cut (x0 : Int64) (t : Nat) (f : sg_F) (L : sg_L) : Int64 :=
  spl (α := Int32) (f (40 + 2 * t) 1) fun (v_1 : Int32) =>
  if v_1.toInt = 0 then (
    spl (α := Int32) (Int64.toInt32 x0) fun (v_5 : Int32) =>
    spl (α := Int32) ((Int32.toInt8 v_5).toInt32) fun (v_6 : Int32) =>
    spl (α := Int64) (Int32.toInt64 v_6) fun (w_7 : Int64) =>
    ((w_7 : Int64))) else (
    if v_1.toInt = 1 then (
      spl (α := Int32) (Int64.toInt32 x0) fun (v_10 : Int32) =>
      spl (α := Int32) ((Int32.toInt16 v_10).toInt32) fun (v_11 : Int32) =>
      spl (α := Int64) (Int32.toInt64 v_11) fun (w_12 : Int64) =>
      ((w_12 : Int64))) else (
      if v_1.toInt = 2 then (
        spl (α := Int32) (Int64.toInt32 x0) fun (v_15 : Int32) =>
        spl (α := Int64) (Int32.toInt64 v_15) fun (w_16 : Int64) =>
        ((w_16 : Int64))) else (
        if v_1.toInt = 4 then (
          spl (α := Int32) (lg_cmp (x0 : Int64) (0 : Int64)) fun (v_19 : Int32) =>
          if v_19.toInt = 0 then (
            ((0 : Int64))) else (
            ((1 : Int64)))) else (
          if v_1.toInt = 3 then (
            ((x0 : Int64))) else (
            ((x0 : Int64)))))))
set_option maxRecDepth 100000 in
noncomputable def sX11_put (x0 : Int32) (x1 : Int32) (x2 : Int64) (f : sg_F) (L : sg_L) : Int32 × sg_L :=
  spl (sX11_refusalAt x0 x1 f L) fun (r_4 : Int32) =>
  if r_4 = 0 then (
    spl (α := Nat) (x0.toNatClampNeg) fun (t_7 : Nat) =>
    spl (sX7_cut x2 t_7 f L) fun (r_11 : Int64) =>
    spl (α := sg_L) (sg_up L (41 + 2 * t_7) (sgu (L (41 + 2 * t_7)) (x1 : Int32).toNatClampNeg r_11)) fun (L_13 : sg_L) =>
    ((1 : Int32), L_13)) else (
    ((r_4 : Int32), L))
set_option maxRecDepth 100000 in
noncomputable def sX11_element (x0 : Int32) (x1 : Int32) (f : sg_F) (L : sg_L) : Int64 :=
  spl (sX11_refusalAt x0 x1 f L) fun (r_4 : Int32) =>
  if r_4 = 0 then (
    spl (α := Nat) (x0.toNatClampNeg) fun (t_7 : Nat) =>
    spl (α := Int64) (L (41 + 2 * t_7) (Int32.toNatClampNeg x1)) fun (w_8 : Int64) =>
    ((w_8 : Int64))) else (
    (((-9223372036854775808) : Int64)))
set_option maxRecDepth 100000 in
noncomputable def sX11_shift (x0 : Int32) (x1 : Int32) (x2 : Int32) (x3 : Int32) (x4 : Int32) (f : sg_F) (L : sg_L) : Int32 × sg_L :=
  spl (sX11_isShelf x0 f L) fun (r_4 : Int32) =>
  if r_4 = 1 then (
    spl (sX11_isShelf x2 f L) fun (r_10 : Int32) =>
    if r_10 = 1 then (
      spl (α := Nat) (x0.toNatClampNeg) fun (t_13 : Nat) =>
      spl (α := Nat) (x2.toNatClampNeg) fun (t_14 : Nat) =>
      spl (α := Int32) (f (40 + 2 * t_13) 1) fun (v_15 : Int32) =>
      if v_15.toInt = (-1) then (
        (((-11) : Int32), L)) else (
        spl (α := Int32) (f (40 + 2 * t_14) 1) fun (v_19 : Int32) =>
        if v_19.toInt = (-1) then (
          (((-11) : Int32), L)) else (
          spl (sX7_isRow t_13 f L) fun (r_26 : Int32) =>
          if r_26.toInt = 0 then (
            (((-12) : Int32), L)) else (
            if v_15.toInt = v_19.toInt then (
              spl (α := Int32) (f (40 + 2 * t_13) 2) fun (v_32 : Int32) =>
              spl (sX7_hasPlaces x1 x4 t_13 f L) fun (r_38 : Int32) =>
              if r_38 = 1 then (
                spl (α := Int32) (f (40 + 2 * t_14) 2) fun (v_41 : Int32) =>
                spl (sX7_hasPlaces x3 x4 t_14 f L) fun (r_47 : Int32) =>
                if r_47 = 1 then (
                  spl (α := sg_L) (sg_up L (41 + 2 * t_14) (va_cpy (L (41 + 2 * t_13)) (L (41 + 2 * t_14)) (Int32.toNatClampNeg x1) (Int32.toNatClampNeg x3) (Int32.toNatClampNeg x4))) fun (L_50 : sg_L) =>
                  ((x4 : Int32), L_50)) else (
                  (((-13) : Int32), L))) else (
                (((-13) : Int32), L))) else (
              (((-12) : Int32), L)))))) else (
      (((-1) : Int32), L))) else (
    (((-1) : Int32), L))
set_option maxRecDepth 100000 in
noncomputable def sX3_takenFor_h10 (x0 : Int32) (x1 : Int32) (rec_10 : Int32 → Int32 → sg_F → sg_L → Int32) (y3_10 : Int32) (y4_10 : Int32) (f : sg_F) (L : sg_L) : Int32 :=
  if y4_10.toInt < 8 then (
    if y3_10.toInt < 0 then (
      (((-12) : Int32))) else (
      if y3_10.toInt = x1.toInt then (
        spl (α := Int32) (f 37 (Int32.toNatClampNeg x0)) fun (v_11 : Int32) =>
        ((v_11 : Int32))) else (
        spl (α := Int32) (zABOVE (Int32.toNatClampNeg y3_10)) fun (v_7 : Int32) =>
        spl (α := Int32) (y4_10 + 1) fun (v_9 : Int32) =>
        rec_10 v_7 v_9 f L))) else (
    (((-12) : Int32)))
set_option maxRecDepth 100000 in
noncomputable def sX3_takenFor_l10 (x0 : Int32) (x1 : Int32) (n : Nat) : Int32 → Int32 → sg_F → sg_L → Int32 :=
  Nat.rec (motive := fun _ => Int32 → Int32 → sg_F → sg_L → Int32) (fun _ _ f L => ((0 : Int32))) (fun _ r => sX3_takenFor_h10 x0 x1 r) n
set_option maxRecDepth 100000 in
noncomputable def sX3_takenFor (x0 : Int32) (x1 : Int32) (f : sg_F) (L : sg_L) : Int32 :=
  spl (α := Int32) (f 37 (Int32.toNatClampNeg x0)) fun (v_13 : Int32) =>
  sX3_takenFor_l10 x0 x1 9 v_13 0 f L
set_option maxRecDepth 100000 in
noncomputable def sX11_taken (x0 : Int32) (x1 : Int32) (f : sg_F) (L : sg_L) : Int32 :=
  spl (sX11_isShelf x0 f L) fun (r_4 : Int32) =>
  if r_4 = 1 then (
    spl (sX11_isKind x1 f L) fun (r_10 : Int32) =>
    if r_10 = 1 then (
      spl (α := Nat) (x0.toNatClampNeg) fun (t_13 : Nat) =>
      spl (α := Int32) (f (40 + 2 * t_13) 1) fun (v_14 : Int32) =>
      if v_14.toInt = (-1) then (
        (((-11) : Int32))) else (
        if v_14.toInt = (-2) then (
          spl (α := Int32) (f (40 + 2 * t_13) 3) fun (v_20 : Int32) =>
          spl (sX3_takenFor v_20 x1 f L) fun (r_27 : Int32) =>
          ((r_27 : Int32))) else (
          (((-12) : Int32))))) else (
      (((-1) : Int32)))) else (
    (((-1) : Int32)))
set_option maxRecDepth 100000 in
noncomputable def sX11_count (x0 : Int32) (f : sg_F) (L : sg_L) : Int32 :=
  if x0.toInt = 0 then (
    spl (α := Int32) (f 1 3) fun (v_3 : Int32) =>
    ((v_3 : Int32))) else (
    if x0.toInt = 1 then (
      spl (α := Int32) (f 4 1) fun (v_6 : Int32) =>
      ((v_6 : Int32))) else (
      if x0.toInt = 2 then (
        spl (α := Int32) (f 32 3) fun (v_9 : Int32) =>
        ((v_9 : Int32))) else (
        if x0.toInt = 3 then (
          spl (α := Int32) (f 36 2) fun (v_12 : Int32) =>
          ((v_12 : Int32))) else (
          if x0.toInt = 4 then (
            spl (α := Int32) (f 36 3) fun (v_15 : Int32) =>
            ((v_15 : Int32))) else (
            (((-1) : Int32)))))))
set_option maxRecDepth 100000 in
noncomputable def sX12_undo (f : sg_F) (L : sg_L) : Int32 × sg_F :=
  spl (α := Int32) (f 0 5) fun (v_1 : Int32) =>
  if v_1.toInt = 0 then (
    (((-5) : Int32), f)) else (
    spl (α := Int32) (v_1 - 1) fun (v_5 : Int32) =>
    spl (α := Int32) (f 0 4) fun (v_8 : Int32) =>
    spl (α := sg_F) (sg_up f 0 (sgu (f 0) 5 v_5)) fun (f_11 : sg_F) =>
    spl (α := Int32) (f_11 2 (Int32.toNatClampNeg v_5)) fun (v_12 : Int32) =>
    spl (α := Int32) (f_11 3 (Int32.toNatClampNeg v_5)) fun (v_15 : Int32) =>
    spl (α := sg_F) (sg_up f_11 1 (sgu (f_11 1) (Int32.toNatClampNeg v_12) v_15)) fun (f_18 : sg_F) =>
    ((v_5 : Int32), f_18))
set_option maxRecDepth 100000 in
noncomputable def sX12_redo (f : sg_F) (L : sg_L) : Int32 × sg_F :=
  spl (α := Int32) (f 0 5) fun (v_1 : Int32) =>
  spl (α := Int32) (f 0 4) fun (v_3 : Int32) =>
  if v_1.toInt = v_3.toInt then (
    (((-5) : Int32), f)) else (
    spl (α := Int32) (f 2 (Int32.toNatClampNeg v_1)) fun (v_9 : Int32) =>
    spl (α := Int32) (f 4 (Int32.toNatClampNeg v_1)) fun (v_12 : Int32) =>
    spl (α := sg_F) (sg_up f 1 (sgu (f 1) (Int32.toNatClampNeg v_9) v_12)) fun (f_15 : sg_F) =>
    spl (α := Int32) (v_1 + 1) fun (v_16 : Int32) =>
    spl (α := sg_F) (sg_up f_15 0 (sgu (f_15 0) 5 v_16)) fun (f_20 : sg_F) =>
    spl (α := Int32) (v_3 - v_16) fun (v_21 : Int32) =>
    ((v_21 : Int32), f_20))
set_option maxRecDepth 100000 in
noncomputable def sX12_within (x0 : Int64) (x1 : Int64) (x2 : Int64) (f : sg_F) (L : sg_L) : Int32 :=
  spl (α := Int32) (lg_cmp (x0 : Int64) (x1 : Int64)) fun (v_1 : Int32) =>
  if v_1.toInt < 0 then (
    ((0 : Int32))) else (
    spl (α := Int32) (lg_cmp (x0 : Int64) (x2 : Int64)) fun (v_5 : Int32) =>
    if 0 < v_5.toInt then (
      ((0 : Int32))) else (
      ((1 : Int32))))
set_option maxRecDepth 100000 in
noncomputable def sX12_isSetting (x0 : Int64) (f : sg_F) (L : sg_L) : Int32 :=
  spl (sX12_within x0 0 60 f L) fun (r_4 : Int32) =>
  if r_4 = 1 then (
    ((1 : Int32))) else (
    ((0 : Int32)))
set_option maxRecDepth 100000 in
noncomputable def sX12_adds (x0 : Int32) (x1 : Int32) (x2 : Int32) (x3 : Int32) (f : sg_F) (L : sg_L) : sg_F :=
  spl (α := Int32) (f 0 6) fun (v_1 : Int32) =>
  spl (α := sg_F) (sg_up f 1 (sgu (f 1) (Int32.toNatClampNeg v_1) x0)) fun (f_4 : sg_F) =>
  spl (α := Int32) (8 + v_1) fun (v_5 : Int32) =>
  spl (α := sg_F) (sg_up f_4 1 (sgu (f_4 1) (Int32.toNatClampNeg v_5) x1)) fun (f_7 : sg_F) =>
  spl (α := Int32) (16 + v_1) fun (v_8 : Int32) =>
  spl (α := sg_F) (sg_up f_7 1 (sgu (f_7 1) (Int32.toNatClampNeg v_8) x2)) fun (f_10 : sg_F) =>
  spl (α := Int32) (24 + v_1) fun (v_11 : Int32) =>
  spl (α := sg_F) (sg_up f_10 1 (sgu (f_10 1) (Int32.toNatClampNeg v_11) 1)) fun (f_13 : sg_F) =>
  spl (α := Int32) (32 + v_1) fun (v_14 : Int32) =>
  spl (α := sg_F) (sg_up f_13 1 (sgu (f_13 1) (Int32.toNatClampNeg v_14) 1)) fun (f_16 : sg_F) =>
  spl (α := Int32) (40 + v_1) fun (v_17 : Int32) =>
  spl (α := sg_F) (sg_up f_16 1 (sgu (f_16 1) (Int32.toNatClampNeg v_17) x3)) fun (f_19 : sg_F) =>
  spl (α := Int32) (48 + v_1) fun (v_20 : Int32) =>
  spl (α := sg_F) (sg_up f_19 1 (sgu (f_19 1) (Int32.toNatClampNeg v_20) 0)) fun (f_22 : sg_F) =>
  spl (α := Int32) (56 + v_1) fun (v_23 : Int32) =>
  spl (α := sg_F) (sg_up f_22 1 (sgu (f_22 1) (Int32.toNatClampNeg v_23) 0)) fun (f_25 : sg_F) =>
  spl (α := Int32) (v_1 + 1) fun (v_26 : Int32) =>
  spl (α := sg_F) (sg_up f_25 0 (sgu (f_25 0) 6 v_26)) fun (f_28 : sg_F) =>
  (f_28)
set_option maxRecDepth 100000 in
noncomputable def sX12_sitter (x0 : Int32) (x1 : Int32) (f : sg_F) (L : sg_L) : Int32 × sg_F :=
  spl (α := Int64) (Int32.toInt64 x0) fun (w_1 : Int64) =>
  spl (sX12_isSetting w_1 f L) fun (r_6 : Int32) =>
  if r_6 = 1 then (
    spl (α := Int64) (Int32.toInt64 x1) fun (w_9 : Int64) =>
    spl (sX12_within w_9 1 12 f L) fun (r_14 : Int32) =>
    if r_14 = 1 then (
      spl (α := Int32) (f 0 6) fun (v_19 : Int32) =>
      if v_19.toInt = 8 then (
        (((-3) : Int32), f)) else (
        spl (sX12_adds x0 x0 x0 x1 f L) fun (f_25 : sg_F) =>
        spl (α := Int32) (f_25 0 6) fun (v_29 : Int32) =>
        spl (α := Int32) (v_29 - 1) fun (v_31 : Int32) =>
        ((v_31 : Int32), f_25))) else (
      (((-1) : Int32), f))) else (
    (((-1) : Int32), f))
set_option maxRecDepth 100000 in
noncomputable def sX12_isShelf (x0 : Int32) (f : sg_F) (L : sg_L) : Int32 :=
  spl (α := Int64) (Int32.toInt64 x0) fun (w_1 : Int64) =>
  spl (sX12_within w_1 0 5 f L) fun (r_6 : Int32) =>
  if r_6 = 1 then (
    ((1 : Int32))) else (
    ((0 : Int32)))
set_option maxRecDepth 100000 in
noncomputable def sX12_sitters_h69 (x0 : Int32) (x1 : Int32) (x2 : Int32) (rec_69 : Int32 → Int32 → sg_F → sg_L → Int32 × sg_F) (y4_69 : Int32) (y5_69 : Int32) (fp_69 : sg_F) (L : sg_L) : Int32 × sg_F :=
  if y5_69.toInt = 0 then (
    ((y4_69 : Int32), fp_69)) else (
    if y4_69.toInt < x2.toInt then (
      spl (α := Int32) (fp_69 23 (Int32.toNatClampNeg x0)) fun (v_5 : Int32) =>
      spl (α := Int32) (v_5 - 4) fun (v_7 : Int32) =>
      spl (α := Int32) (4 * y4_69) fun (v_9 : Int32) =>
      spl (α := Int32) (v_7 - v_9) fun (v_11 : Int32) =>
      if v_11.toInt < x1.toInt then (
        spl (α := Int32) (60 * x0) fun (v_15 : Int32) =>
        spl (α := Int32) (v_15 + x1) fun (v_17 : Int32) =>
        spl (α := Int32) (v_17 + v_9) fun (v_18 : Int32) =>
        rec_69 y4_69 0 fp_69 L) else (
        spl (α := Int32) (fp_69 0 6) fun (v_19 : Int32) =>
        if v_19.toInt < 8 then (
          spl (α := Int32) (60 * x0) fun (v_29 : Int32) =>
          spl (α := Int32) (v_29 + x1) fun (v_31 : Int32) =>
          spl (α := Int32) (v_31 + v_9) fun (v_33 : Int32) =>
          spl (α := Int64) (L 24 (Int32.toNatClampNeg v_33)) fun (w_35 : Int64) =>
          spl (sX12_isSetting w_35 fp_69 L) fun (r_39 : Int32) =>
          if r_39 = 1 then (
            spl (α := Int32) (v_33 + 1) fun (v_42 : Int32) =>
            spl (α := Int64) (L 24 (Int32.toNatClampNeg v_42)) fun (w_44 : Int64) =>
            spl (sX12_isSetting w_44 fp_69 L) fun (r_48 : Int32) =>
            if r_48 = 1 then (
              spl (α := Int32) (v_33 + 2) fun (v_51 : Int32) =>
              spl (α := Int64) (L 24 (Int32.toNatClampNeg v_51)) fun (w_53 : Int64) =>
              spl (sX12_isSetting w_53 fp_69 L) fun (r_57 : Int32) =>
              if r_57 = 1 then (
                spl (α := Int32) (v_33 + 3) fun (v_60 : Int32) =>
                spl (α := Int64) (L 24 (Int32.toNatClampNeg v_60)) fun (w_62 : Int64) =>
                spl (sX12_within w_62 1 12 fp_69 L) fun (r_66 : Int32) =>
                if r_66 = 1 then (
                  spl (α := Int32) (Int64.toInt32 w_35) fun (v_71 : Int32) =>
                  spl (α := Int32) (Int64.toInt32 w_44) fun (v_73 : Int32) =>
                  spl (α := Int32) (Int64.toInt32 w_53) fun (v_75 : Int32) =>
                  spl (α := Int32) (Int64.toInt32 w_62) fun (v_77 : Int32) =>
                  spl (sX12_adds v_71 v_73 v_75 v_77 fp_69 L) fun (f_81 : sg_F) =>
                  spl (α := Int32) (y4_69 + 1) fun (v_85 : Int32) =>
                  rec_69 v_85 1 f_81 L) else (
                  rec_69 y4_69 0 fp_69 L)) else (
                rec_69 y4_69 0 fp_69 L)) else (
              rec_69 y4_69 0 fp_69 L)) else (
            rec_69 y4_69 0 fp_69 L)) else (
          spl (α := Int32) (60 * x0) fun (v_23 : Int32) =>
          spl (α := Int32) (v_23 + x1) fun (v_25 : Int32) =>
          spl (α := Int32) (v_25 + v_9) fun (v_27 : Int32) =>
          rec_69 y4_69 0 fp_69 L))) else (
      ((y4_69 : Int32), fp_69)))
set_option maxRecDepth 100000 in
noncomputable def sX12_sitters_l69 (x0 : Int32) (x1 : Int32) (x2 : Int32) (n : Nat) : Int32 → Int32 → sg_F → sg_L → Int32 × sg_F :=
  Nat.rec (motive := fun _ => Int32 → Int32 → sg_F → sg_L → Int32 × sg_F) (fun _ _ f L => ((0 : Int32), f)) (fun _ r => sX12_sitters_h69 x0 x1 x2 r) n
set_option maxRecDepth 100000 in
noncomputable def sX12_sitters_b44 (x0 : Int32) (x1 : Int32) (x2 : Int32) (fp_44 : sg_F) (L : sg_L) : Int32 × sg_F :=
  spl (α := Int32) (fp_44 22 (Int32.toNatClampNeg x0)) fun (v_87 : Int32) =>
  if v_87.toInt = 50 then (
    if x1.toInt < 0 then (
      sX12_sitters_l69 x0 x1 x2 30 0 0 fp_44 L) else (
      sX12_sitters_l69 x0 x1 x2 30 0 1 fp_44 L)) else (
    sX12_sitters_l69 x0 x1 x2 30 0 0 fp_44 L)
set_option maxRecDepth 100000 in
noncomputable def sX12_sitters (x0 : Int32) (x1 : Int32) (x2 : Int32) (f : sg_F) (L : sg_L) : Int32 × sg_F :=
  spl (sX12_isShelf x0 f L) fun (r_96 : Int32) =>
  if r_96 = 1 then (
    spl (α := Int64) (Int32.toInt64 x2) fun (w_99 : Int64) =>
    spl (sX12_within w_99 1 8 f L) fun (r_104 : Int32) =>
    if r_104 = 1 then (
      spl (α := Int32) (f 22 (Int32.toNatClampNeg x0)) fun (v_109 : Int32) =>
      if v_109.toInt < 0 then (
        sX12_sitters_b44 x0 x1 x2 f L) else (
        if v_109.toInt = 50 then (
          sX12_sitters_b44 x0 x1 x2 f L) else (
          (((-12) : Int32), f)))) else (
      (((-1) : Int32), f))) else (
    (((-1) : Int32), f))
set_option maxRecDepth 100000 in
noncomputable def sX12_isSitter (x0 : Int64) (f : sg_F) (L : sg_L) : Int32 :=
  spl (α := Int32) (f 0 6) fun (v_1 : Int32) =>
  spl (α := Int32) (v_1 - 1) fun (v_4 : Int32) =>
  spl (α := Int64) (Int32.toInt64 v_4) fun (w_6 : Int64) =>
  spl (sX12_within x0 0 w_6 f L) fun (r_11 : Int32) =>
  if r_11 = 1 then (
    ((1 : Int32))) else (
    ((0 : Int32)))
set_option maxRecDepth 100000 in
noncomputable def sX12_isPart (x0 : Int32) (f : sg_F) (L : sg_L) : Int32 :=
  spl (α := Int64) (Int32.toInt64 x0) fun (w_1 : Int64) =>
  spl (sX12_within w_1 0 2 f L) fun (r_6 : Int32) =>
  if r_6 = 1 then (
    ((1 : Int32))) else (
    ((0 : Int32)))
set_option maxRecDepth 100000 in
noncomputable def sX12_placeOf (x0 : Int32) (x1 : Int32) (f : sg_F) (L : sg_L) : Int32 :=
  spl (α := Int64) (Int32.toInt64 x1) fun (w_1 : Int64) =>
  spl (sX12_within w_1 0 7 f L) fun (r_6 : Int32) =>
  if r_6 = 1 then (
    spl (α := Int64) (Int32.toInt64 x0) fun (w_11 : Int64) =>
    spl (α := Int32) (f 0 6) fun (v_13 : Int32) =>
    spl (sX12_isSitter w_11 f L) fun (r_20 : Int32) =>
    if r_20 = 1 then (
      spl (α := Int32) (8 * x1) fun (v_23 : Int32) =>
      spl (α := Int32) (v_23 + x0) fun (v_25 : Int32) =>
      ((v_25 : Int32))) else (
      (((-1) : Int32)))) else (
    spl (sX12_within w_1 8 9 f L) fun (r_30 : Int32) =>
    if r_30 = 1 then (
      spl (sX12_isPart x0 f L) fun (r_38 : Int32) =>
      if r_38 = 1 then (
        spl (α := Int32) (x1 - 8) fun (v_41 : Int32) =>
        spl (α := Int32) (3 * v_41) fun (v_43 : Int32) =>
        spl (α := Int32) (64 + v_43) fun (v_45 : Int32) =>
        spl (α := Int32) (v_45 + x0) fun (v_47 : Int32) =>
        ((v_47 : Int32))) else (
        (((-1) : Int32)))) else (
      if x1.toInt = 10 then (
        if x0.toInt = 0 then (
          ((70 : Int32))) else (
          (((-1) : Int32)))) else (
        (((-1) : Int32)))))
set_option maxRecDepth 100000 in
noncomputable def sX12_mostOf (x0 : Int32) (f : sg_F) (L : sg_L) : Int32 :=
  if x0.toInt = 3 then (
    ((9 : Int32))) else (
    if x0.toInt = 4 then (
      ((9 : Int32))) else (
      if x0.toInt = 5 then (
        ((12 : Int32))) else (
        if x0.toInt = 7 then (
          ((12 : Int32))) else (
          if x0.toInt = 8 then (
            ((3 : Int32))) else (
            if x0.toInt = 9 then (
              ((9 : Int32))) else (
              if x0.toInt = 10 then (
                ((99 : Int32))) else (
                if x0.toInt = 6 then (
                  ((60 : Int32))) else (
                  ((60 : Int32))))))))))
set_option maxRecDepth 100000 in
noncomputable def sX12_becomes_b97 (x0 : Int32) (x1 : Int32) (y3_97 : Int32) (fp_97 : sg_F) (L : sg_L) : Int32 × sg_F :=
  spl (α := Int32) (fp_97 0 5) fun (v_1 : Int32) =>
  spl (α := sg_F) (sg_up fp_97 2 (sgu (fp_97 2) (Int32.toNatClampNeg v_1) x0)) fun (f_4 : sg_F) =>
  spl (α := sg_F) (sg_up f_4 3 (sgu (f_4 3) (Int32.toNatClampNeg v_1) y3_97)) fun (f_5 : sg_F) =>
  spl (α := sg_F) (sg_up f_5 4 (sgu (f_5 4) (Int32.toNatClampNeg v_1) x1)) fun (f_6 : sg_F) =>
  spl (α := Int32) (v_1 + 1) fun (v_7 : Int32) =>
  spl (α := sg_F) (sg_up f_6 0 (sgu (f_6 0) 5 v_7)) fun (f_9 : sg_F) =>
  spl (α := sg_F) (sg_up f_9 0 (sgu (f_9 0) 4 v_7)) fun (f_10 : sg_F) =>
  spl (α := sg_F) (sg_up f_10 1 (sgu (f_10 1) (Int32.toNatClampNeg x0) x1)) fun (f_11 : sg_F) =>
  ((y3_97 : Int32), f_11)
set_option maxRecDepth 100000 in
noncomputable def sX12_becomes_h26 (x0 : Int32) (x1 : Int32) (rec_26 : Int32 → Int32 → sg_F → sg_L → Int32 × sg_F) (y3_26 : Int32) (y4_26 : Int32) (fp_26 : sg_F) (L : sg_L) : Int32 × sg_F :=
  spl (α := Int32) (fp_26 0 5) fun (v_12 : Int32) =>
  if y4_26.toInt < 40 then (
    spl (α := Int32) (y4_26 - 1) fun (v_24 : Int32) =>
    spl (α := Int32) (fp_26 2 (Int32.toNatClampNeg y4_26)) fun (v_26 : Int32) =>
    spl (α := sg_F) (sg_up fp_26 2 (sgu (fp_26 2) (Int32.toNatClampNeg v_24) v_26)) fun (f_28 : sg_F) =>
    spl (α := Int32) (f_28 3 (Int32.toNatClampNeg y4_26)) fun (v_29 : Int32) =>
    spl (α := sg_F) (sg_up f_28 3 (sgu (f_28 3) (Int32.toNatClampNeg v_24) v_29)) fun (f_31 : sg_F) =>
    spl (α := Int32) (f_31 4 (Int32.toNatClampNeg y4_26)) fun (v_32 : Int32) =>
    spl (α := sg_F) (sg_up f_31 4 (sgu (f_31 4) (Int32.toNatClampNeg v_24) v_32)) fun (f_34 : sg_F) =>
    spl (α := Int32) (y4_26 + 1) fun (v_35 : Int32) =>
    rec_26 y3_26 v_35 f_34 L) else (
    spl (α := Int32) (v_12 - 1) fun (v_17 : Int32) =>
    spl (α := Int32) (fp_26 0 4) fun (v_20 : Int32) =>
    spl (α := sg_F) (sg_up fp_26 0 (sgu (fp_26 0) 5 v_17)) fun (f_23 : sg_F) =>
    sX12_becomes_b97 x0 x1 y3_26 f_23 L)
set_option maxRecDepth 100000 in
noncomputable def sX12_becomes_l26 (x0 : Int32) (x1 : Int32) (n : Nat) : Int32 → Int32 → sg_F → sg_L → Int32 × sg_F :=
  Nat.rec (motive := fun _ => Int32 → Int32 → sg_F → sg_L → Int32 × sg_F) (fun _ _ f L => ((0 : Int32), f)) (fun _ r => sX12_becomes_h26 x0 x1 r) n
set_option maxRecDepth 100000 in
noncomputable def sX12_becomes (x0 : Int32) (x1 : Int32) (f : sg_F) (L : sg_L) : Int32 × sg_F :=
  spl (α := Int32) (f 1 (Int32.toNatClampNeg x0)) fun (v_37 : Int32) =>
  if v_37.toInt = x1.toInt then (
    ((v_37 : Int32), f)) else (
    spl (α := Int32) (f 0 5) fun (v_42 : Int32) =>
    if v_42.toInt = 40 then (
      sX12_becomes_l26 x0 x1 40 v_37 1 f L) else (
      sX12_becomes_b97 x0 x1 v_37 f L))
set_option maxRecDepth 100000 in
noncomputable def sX12_mend (x0 : Int32) (x1 : Int32) (x2 : Int32) (f : sg_F) (L : sg_L) : Int32 × sg_F :=
  spl (sX12_placeOf x0 x1 f L) fun (r_4 : Int32) =>
  if r_4.toInt < 0 then (
    (((-1) : Int32), f)) else (
    spl (α := Int64) (Int32.toInt64 x2) fun (w_9 : Int64) =>
    if x1.toInt = 5 then (
      spl (sX12_mostOf x1 f L) fun (r_36 : Int32) =>
      spl (α := Int64) (Int32.toInt64 r_36) fun (w_39 : Int64) =>
      spl (sX12_within w_9 1 w_39 f L) fun (r_44 : Int32) =>
      if r_44 = 1 then (
        spl2 (sX12_becomes r_4 x2 f L) fun (r_51 : Int32) (f_48 : sg_F) =>
        ((r_51 : Int32), f_48)) else (
        (((-1) : Int32), f))) else (
      spl (sX12_mostOf x1 f L) fun (r_16 : Int32) =>
      spl (α := Int64) (Int32.toInt64 r_16) fun (w_19 : Int64) =>
      spl (sX12_within w_9 0 w_19 f L) fun (r_24 : Int32) =>
      if r_24 = 1 then (
        spl2 (sX12_becomes r_4 x2 f L) fun (r_31 : Int32) (f_28 : sg_F) =>
        ((r_31 : Int32), f_28)) else (
        (((-1) : Int32), f))))
set_option maxRecDepth 100000 in
noncomputable def sX12_of (x0 : Int32) (x1 : Int32) (f : sg_F) (L : sg_L) : Int32 :=
  if x1.toInt = 11 then (
    spl (sX12_isPart x0 f L) fun (r_17 : Int32) =>
    if r_17 = 1 then (
      spl (α := Int32) (f 5 (Int32.toNatClampNeg x0)) fun (v_20 : Int32) =>
      ((v_20 : Int32))) else (
      (((-1) : Int32)))) else (
    spl (sX12_placeOf x0 x1 f L) fun (r_6 : Int32) =>
    if r_6.toInt < 0 then (
      (((-1) : Int32))) else (
      spl (α := Int32) (f 1 (Int32.toNatClampNeg r_6)) fun (v_11 : Int32) =>
      ((v_11 : Int32))))
set_option maxRecDepth 100000 in
noncomputable def sX12_feed (x0 : Int32) (f : sg_F) (L : sg_L) : Int32 × sg_F :=
  spl (α := Int64) (Int32.toInt64 x0) fun (w_1 : Int64) =>
  spl (sX12_within w_1 0 255 f L) fun (r_6 : Int32) =>
  if r_6 = 1 then (
    spl (α := Int32) (f 0 9) fun (v_11 : Int32) =>
    if v_11.toInt = 120 then (
      (((-3) : Int32), f)) else (
      spl (α := sg_F) (sg_up f 6 (sgu (f 6) (Int32.toNatClampNeg v_11) x0)) fun (f_15 : sg_F) =>
      spl (α := Int32) (v_11 + 1) fun (v_16 : Int32) =>
      spl (α := sg_F) (sg_up f_15 0 (sgu (f_15 0) 9 v_16)) fun (f_18 : sg_F) =>
      ((v_16 : Int32), f_18))) else (
    (((-1) : Int32), f))
set_option maxRecDepth 100000 in
noncomputable def sX12_byteAt (f : sg_F) (L : sg_L) : Int32 :=
  spl (α := Int32) (f 0 13) fun (v_1 : Int32) =>
  spl (α := Int32) (f 0 14) fun (v_3 : Int32) =>
  if v_1.toInt < v_3.toInt then (
    spl (α := Int32) (f 0 12) fun (v_9 : Int32) =>
    if v_9.toInt < 0 then (
      spl (α := Int32) (f 6 (Int32.toNatClampNeg v_1)) fun (v_17 : Int32) =>
      ((v_17 : Int32))) else (
      spl (α := Int32) (v_9 + v_1) fun (v_13 : Int32) =>
      spl (α := Int32) (f 7 (Int32.toNatClampNeg v_13)) fun (v_15 : Int32) =>
      ((v_15 : Int32)))) else (
    ((0 : Int32)))
set_option maxRecDepth 100000 in
noncomputable def sX12_wrong (f : sg_F) (L : sg_L) : Int32 × sg_F :=
  spl (α := Int32) (f 0 15) fun (v_1 : Int32) =>
  if v_1.toInt < 0 then (
    spl (α := Int32) (f 0 13) fun (v_8 : Int32) =>
    spl (α := sg_F) (sg_up f 0 (sgu (f 0) 15 v_8)) fun (f_10 : sg_F) =>
    ((0 : Int32), f_10)) else (
    spl (α := sg_F) (sg_up f 0 (sgu (f 0) 15 v_1)) fun (f_6 : sg_F) =>
    ((0 : Int32), f_6))
set_option maxRecDepth 100000 in
noncomputable def sX12_nameOf (x0 : Int32) (f : sg_F) (L : sg_L) : Int32 :=
  if x0.toInt = 100 then (
    ((0 : Int32))) else (
    if x0.toInt = 104 then (
      ((4 : Int32))) else (
      if x0.toInt = 107 then (
        ((5 : Int32))) else (
        if x0.toInt = 115 then (
          ((2 : Int32))) else (
          if x0.toInt = 117 then (
            ((1 : Int32))) else (
            if x0.toInt = 119 then (
              ((3 : Int32))) else (
              if x0.toInt = 101 then (
                (((-1) : Int32))) else (
                if x0.toInt = 102 then (
                  (((-1) : Int32))) else (
                  if x0.toInt = 103 then (
                    (((-1) : Int32))) else (
                    if x0.toInt = 105 then (
                      (((-1) : Int32))) else (
                      if x0.toInt = 106 then (
                        (((-1) : Int32))) else (
                        if x0.toInt = 108 then (
                          (((-1) : Int32))) else (
                          if x0.toInt = 109 then (
                            (((-1) : Int32))) else (
                            if x0.toInt = 110 then (
                              (((-1) : Int32))) else (
                              if x0.toInt = 111 then (
                                (((-1) : Int32))) else (
                                if x0.toInt = 112 then (
                                  (((-1) : Int32))) else (
                                  if x0.toInt = 113 then (
                                    (((-1) : Int32))) else (
                                    if x0.toInt = 114 then (
                                      (((-1) : Int32))) else (
                                      if x0.toInt = 116 then (
                                        (((-1) : Int32))) else (
                                        if x0.toInt = 118 then (
                                          (((-1) : Int32))) else (
                                          (((-1) : Int32))))))))))))))))))))))
set_option maxRecDepth 100000 in
noncomputable def sX12_one_6_b229 (y3_229 : Int32) (y4_229 : Int32) (fp_229 : sg_F) (L : sg_L) : Int32 × sg_F :=
  spl (α := Int32) (fp_229 0 15) fun (v_10 : Int32) =>
  spl (α := Int32) (fp_229 0 13) fun (v_13 : Int32) =>
  spl (α := Int32) (fp_229 0 16) fun (v_16 : Int32) =>
  if y4_229.toInt = 0 then (
    spl2 (sX12_wrong fp_229 L) fun (r_28 : Int32) (f_25 : sg_F) =>
    spl (α := Int32) (f_25 0 15) fun (v_31 : Int32) =>
    ((0 : Int32), f_25)) else (
    ((y3_229 : Int32), fp_229))
set_option maxRecDepth 100000 in
noncomputable def sX12_one_6_h176 (rec_176 : Int32 → Int32 → sg_F → sg_L → Int32 × sg_F) (y3_176 : Int32) (y4_176 : Int32) (fp_176 : sg_F) (L : sg_L) : Int32 × sg_F :=
  spl (α := Int32) (fp_176 0 15) fun (v_38 : Int32) =>
  spl (α := Int32) (fp_176 0 13) fun (v_41 : Int32) =>
  spl (α := Int32) (fp_176 0 16) fun (v_44 : Int32) =>
  if y4_176.toInt < 4 then (
    spl (α := Int32) (fp_176 0 14) fun (v_50 : Int32) =>
    spl (sX12_byteAt fp_176 L) fun (r_56 : Int32) =>
    if r_56.toInt < 48 then (
      sX12_one_6_b229 y3_176 y4_176 fp_176 L) else (
      if 57 < r_56.toInt then (
        sX12_one_6_b229 y3_176 y4_176 fp_176 L) else (
        spl (α := Int32) (10 * y3_176) fun (v_71 : Int32) =>
        spl (α := Int32) (v_71 + r_56) fun (v_80 : Int32) =>
        spl (α := Int32) (v_80 - 48) fun (v_81 : Int32) =>
        spl (α := Int32) (y4_176 + 1) fun (v_82 : Int32) =>
        spl (α := Int32) (v_41 + 1) fun (v_84 : Int32) =>
        spl (α := sg_F) (sg_up fp_176 0 (sgu (fp_176 0) 13 v_84)) fun (f_86 : sg_F) =>
        rec_176 v_81 v_82 f_86 L))) else (
    sX12_one_6_b229 y3_176 y4_176 fp_176 L)
set_option maxRecDepth 100000 in
noncomputable def sX12_one_6_l176 (n : Nat) : Int32 → Int32 → sg_F → sg_L → Int32 × sg_F :=
  Nat.rec (motive := fun _ => Int32 → Int32 → sg_F → sg_L → Int32 × sg_F) (fun _ _ f L => ((0 : Int32), f)) (fun _ r => sX12_one_6_h176 r) n
set_option maxRecDepth 100000 in
noncomputable def sX12_one_6 (f : sg_F) (L : sg_L) : Int32 × sg_F :=
  spl (α := Int32) (f 0 16) fun (v_1 : Int32) =>
  spl (α := Int32) (f 0 15) fun (v_3 : Int32) =>
  spl (α := Int32) (f 0 13) fun (v_5 : Int32) =>
  if v_3.toInt < 0 then (
    spl (α := Int32) (f 0 14) fun (v_90 : Int32) =>
    spl (sX12_byteAt f L) fun (r_96 : Int32) =>
    if r_96.toInt = 33 then (
      spl2 (sX12_wrong f L) fun (r_105 : Int32) (f_102 : sg_F) =>
      spl (α := Int32) (f_102 0 15) fun (v_108 : Int32) =>
      ((0 : Int32), f_102)) else (
      if r_96.toInt = 45 then (
        spl2 (sX12_wrong f L) fun (r_121 : Int32) (f_118 : sg_F) =>
        spl (α := Int32) (f_118 0 15) fun (v_124 : Int32) =>
        ((0 : Int32), f_118)) else (
        if r_96.toInt = 40 then (
          spl2 (sX12_wrong f L) fun (r_154 : Int32) (f_151 : sg_F) =>
          spl (α := Int32) (f_151 0 15) fun (v_157 : Int32) =>
          ((0 : Int32), f_151)) else (
          spl (sX12_nameOf r_96 f L) fun (r_136 : Int32) =>
          if r_136.toInt < 0 then (
            sX12_one_6_l176 5 0 0 f L) else (
            spl (α := Int32) (v_5 + 1) fun (v_141 : Int32) =>
            spl (α := sg_F) (sg_up f 0 (sgu (f 0) 13 v_141)) fun (f_143 : sg_F) =>
            spl (α := Int32) (f_143 8 (Int32.toNatClampNeg r_136)) fun (v_144 : Int32) =>
            ((v_144 : Int32), f_143)))))) else (
    ((0 : Int32), f))
set_option maxRecDepth 100000 in
noncomputable def sX12_product_6_h10 (rec_10 : Int32 → Int32 → sg_F → sg_L → Int32 × sg_F) (y1_10 : Int32) (y2_10 : Int32) (fp_10 : sg_F) (L : sg_L) : Int32 × sg_F :=
  spl (α := Int32) (fp_10 0 13) fun (v_13 : Int32) =>
  spl (α := Int32) (fp_10 0 16) fun (v_16 : Int32) =>
  spl (α := Int32) (fp_10 0 15) fun (v_19 : Int32) =>
  spl (α := Int32) (fp_10 0 14) fun (v_22 : Int32) =>
  if v_19.toInt < 0 then (
    if y2_10.toInt = 42 then (
      spl (α := Int32) (v_13 + 1) fun (v_33 : Int32) =>
      spl (α := sg_F) (sg_up fp_10 0 (sgu (fp_10 0) 13 v_33)) fun (f_35 : sg_F) =>
      spl2 (sX12_one_6 f_35 L) fun (r_43 : Int32) (f_40 : sg_F) =>
      spl (α := Int32) (f_40 0 13) fun (v_48 : Int32) =>
      spl (α := Int32) (f_40 0 15) fun (v_52 : Int32) =>
      spl (α := Int32) (y1_10 * r_43) fun (v_58 : Int32) =>
      spl (sX12_byteAt f_40 L) fun (r_64 : Int32) =>
      rec_10 v_58 r_64 f_40 L) else (
      if y2_10.toInt = 47 then (
        spl (α := Int32) (v_13 + 1) fun (v_69 : Int32) =>
        spl (α := sg_F) (sg_up fp_10 0 (sgu (fp_10 0) 13 v_69)) fun (f_71 : sg_F) =>
        spl2 (sX12_one_6 f_71 L) fun (r_79 : Int32) (f_76 : sg_F) =>
        spl (α := Int32) (f_76 0 13) fun (v_84 : Int32) =>
        spl (α := Int32) (f_76 0 15) fun (v_88 : Int32) =>
        if r_79.toInt = 0 then (
          spl (sX12_byteAt f_76 L) fun (r_112 : Int32) =>
          rec_10 0 r_112 f_76 L) else (
          spl (α := Int32) (y1_10 / r_79) fun (v_98 : Int32) =>
          spl (sX12_byteAt f_76 L) fun (r_104 : Int32) =>
          rec_10 v_98 r_104 f_76 L)) else (
        if y2_10.toInt = 37 then (
          spl (α := Int32) (v_13 + 1) fun (v_121 : Int32) =>
          spl (α := sg_F) (sg_up fp_10 0 (sgu (fp_10 0) 13 v_121)) fun (f_123 : sg_F) =>
          spl2 (sX12_one_6 f_123 L) fun (r_131 : Int32) (f_128 : sg_F) =>
          spl (α := Int32) (f_128 0 13) fun (v_136 : Int32) =>
          spl (α := Int32) (f_128 0 15) fun (v_140 : Int32) =>
          if r_131.toInt = 0 then (
            spl (sX12_byteAt f_128 L) fun (r_164 : Int32) =>
            rec_10 0 r_164 f_128 L) else (
            spl (α := Int32) (y1_10 - y1_10 / r_131 * r_131) fun (v_150 : Int32) =>
            spl (sX12_byteAt f_128 L) fun (r_156 : Int32) =>
            rec_10 v_150 r_156 f_128 L)) else (
          ((y1_10 : Int32), fp_10))))) else (
    ((y1_10 : Int32), fp_10))
set_option maxRecDepth 100000 in
noncomputable def sX12_product_6_l10 (n : Nat) : Int32 → Int32 → sg_F → sg_L → Int32 × sg_F :=
  Nat.rec (motive := fun _ => Int32 → Int32 → sg_F → sg_L → Int32 × sg_F) (fun _ _ f L => ((0 : Int32), f)) (fun _ r => sX12_product_6_h10 r) n
set_option maxRecDepth 100000 in
noncomputable def sX12_product_6 (f : sg_F) (L : sg_L) : Int32 × sg_F :=
  spl (α := Int32) (f 0 16) fun (v_1 : Int32) =>
  spl (α := Int32) (f 0 15) fun (v_3 : Int32) =>
  spl (α := Int32) (f 0 13) fun (v_5 : Int32) =>
  spl (α := Int32) (f 0 14) fun (v_7 : Int32) =>
  spl2 (sX12_one_6 f L) fun (r_174 : Int32) (f_171 : sg_F) =>
  spl (α := Int32) (f_171 0 13) fun (v_179 : Int32) =>
  spl (α := Int32) (f_171 0 15) fun (v_183 : Int32) =>
  spl (sX12_byteAt f_171 L) fun (r_192 : Int32) =>
  sX12_product_6_l10 121 r_174 r_192 f_171 L
set_option maxRecDepth 100000 in
noncomputable def sX12_sums_6_h5 (rec_5 : Int32 → sg_F → sg_L → Int32 × sg_F) (y1_5 : Int32) (fp_5 : sg_F) (L : sg_L) : Int32 × sg_F :=
  spl (α := Int32) (fp_5 0 13) fun (v_10 : Int32) =>
  spl (α := Int32) (fp_5 0 16) fun (v_13 : Int32) =>
  spl (α := Int32) (fp_5 0 15) fun (v_16 : Int32) =>
  if v_16.toInt < 0 then (
    spl (α := Int32) (fp_5 0 14) fun (v_26 : Int32) =>
    spl (sX12_byteAt fp_5 L) fun (r_32 : Int32) =>
    if r_32.toInt = 43 then (
      spl (α := Int32) (v_10 + 1) fun (v_47 : Int32) =>
      spl (α := sg_F) (sg_up fp_5 0 (sgu (fp_5 0) 13 v_47)) fun (f_49 : sg_F) =>
      spl2 (sX12_product_6 f_49 L) fun (r_57 : Int32) (f_54 : sg_F) =>
      spl (α := Int32) (f_54 0 13) fun (v_62 : Int32) =>
      spl (α := Int32) (f_54 0 15) fun (v_66 : Int32) =>
      spl (α := Int32) (y1_5 + r_57) fun (v_70 : Int32) =>
      rec_5 v_70 f_54 L) else (
      if r_32.toInt = 45 then (
        spl (α := Int32) (v_10 + 1) fun (v_95 : Int32) =>
        spl (α := sg_F) (sg_up fp_5 0 (sgu (fp_5 0) 13 v_95)) fun (f_97 : sg_F) =>
        spl2 (sX12_product_6 f_97 L) fun (r_105 : Int32) (f_102 : sg_F) =>
        spl (α := Int32) (f_102 0 13) fun (v_110 : Int32) =>
        spl (α := Int32) (f_102 0 15) fun (v_114 : Int32) =>
        spl (α := Int32) (y1_5 - r_105) fun (v_118 : Int32) =>
        rec_5 v_118 f_102 L) else (
        ((y1_5 : Int32), fp_5)))) else (
    ((y1_5 : Int32), fp_5))
set_option maxRecDepth 100000 in
noncomputable def sX12_sums_6_l5 (n : Nat) : Int32 → sg_F → sg_L → Int32 × sg_F :=
  Nat.rec (motive := fun _ => Int32 → sg_F → sg_L → Int32 × sg_F) (fun _ f L => ((0 : Int32), f)) (fun _ r => sX12_sums_6_h5 r) n
set_option maxRecDepth 100000 in
noncomputable def sX12_sums_6 (f : sg_F) (L : sg_L) : Int32 × sg_F :=
  spl (α := Int32) (f 0 16) fun (v_1 : Int32) =>
  spl (α := Int32) (f 0 15) fun (v_3 : Int32) =>
  spl (α := Int32) (f 0 13) fun (v_5 : Int32) =>
  spl2 (sX12_product_6 f L) fun (r_126 : Int32) (f_123 : sg_F) =>
  spl (α := Int32) (f_123 0 13) fun (v_131 : Int32) =>
  spl (α := Int32) (f_123 0 15) fun (v_135 : Int32) =>
  sX12_sums_6_l5 121 r_126 f_123 L
set_option maxRecDepth 100000 in
noncomputable def sX12_compared_6 (f : sg_F) (L : sg_L) : Int32 × sg_F :=
  spl (α := Int32) (f 0 16) fun (v_1 : Int32) =>
  spl (α := Int32) (f 0 15) fun (v_3 : Int32) =>
  spl (α := Int32) (f 0 13) fun (v_5 : Int32) =>
  spl2 (sX12_sums_6 f L) fun (r_17 : Int32) (f_14 : sg_F) =>
  spl (α := Int32) (f_14 0 13) fun (v_22 : Int32) =>
  spl (α := Int32) (f_14 0 15) fun (v_26 : Int32) =>
  spl (α := Int32) (f_14 0 14) fun (v_31 : Int32) =>
  spl (sX12_byteAt f_14 L) fun (r_37 : Int32) =>
  if v_26.toInt < 0 then (
    if r_37.toInt = 60 then (
      spl (α := Int32) (v_22 + 1) fun (v_48 : Int32) =>
      spl (α := sg_F) (sg_up f_14 0 (sgu (f_14 0) 13 v_48)) fun (f_50 : sg_F) =>
      spl2 (sX12_sums_6 f_50 L) fun (r_58 : Int32) (f_55 : sg_F) =>
      spl (α := Int32) (f_55 0 13) fun (v_63 : Int32) =>
      spl (α := Int32) (f_55 0 15) fun (v_67 : Int32) =>
      if r_17.toInt < r_58.toInt then (
        ((1 : Int32), f_55)) else (
        ((0 : Int32), f_55))) else (
      if r_37.toInt = 61 then (
        spl (α := Int32) (v_22 + 1) fun (v_85 : Int32) =>
        spl (α := sg_F) (sg_up f_14 0 (sgu (f_14 0) 13 v_85)) fun (f_87 : sg_F) =>
        spl2 (sX12_sums_6 f_87 L) fun (r_95 : Int32) (f_92 : sg_F) =>
        spl (α := Int32) (f_92 0 13) fun (v_100 : Int32) =>
        spl (α := Int32) (f_92 0 15) fun (v_104 : Int32) =>
        if r_17.toInt = r_95.toInt then (
          ((1 : Int32), f_92)) else (
          ((0 : Int32), f_92))) else (
        if r_37.toInt = 62 then (
          spl (α := Int32) (v_22 + 1) fun (v_124 : Int32) =>
          spl (α := sg_F) (sg_up f_14 0 (sgu (f_14 0) 13 v_124)) fun (f_126 : sg_F) =>
          spl2 (sX12_sums_6 f_126 L) fun (r_134 : Int32) (f_131 : sg_F) =>
          spl (α := Int32) (f_131 0 13) fun (v_139 : Int32) =>
          spl (α := Int32) (f_131 0 15) fun (v_143 : Int32) =>
          if r_134.toInt < r_17.toInt then (
            ((1 : Int32), f_131)) else (
            ((0 : Int32), f_131))) else (
          ((r_17 : Int32), f_14))))) else (
    ((r_17 : Int32), f_14))
set_option maxRecDepth 100000 in
noncomputable def sX12_takes_38 (f : sg_F) (L : sg_L) : Int32 × sg_F :=
  spl (α := Int32) (f 0 15) fun (v_1 : Int32) =>
  spl (α := Int32) (f 0 13) fun (v_3 : Int32) =>
  spl (α := Int32) (f 0 14) fun (v_5 : Int32) =>
  if v_1.toInt < 0 then (
    spl (sX12_byteAt f L) fun (r_19 : Int32) =>
    if r_19.toInt = 38 then (
      spl (α := Int32) (v_3 + 1) fun (v_24 : Int32) =>
      spl (α := sg_F) (sg_up f 0 (sgu (f 0) 13 v_24)) fun (f_26 : sg_F) =>
      ((1 : Int32), f_26)) else (
      ((0 : Int32), f))) else (
    ((0 : Int32), f))
set_option maxRecDepth 100000 in
noncomputable def sX12_both_6_h5 (rec_5 : Int32 → sg_F → sg_L → Int32 × sg_F) (y1_5 : Int32) (fp_5 : sg_F) (L : sg_L) : Int32 × sg_F :=
  spl (α := Int32) (fp_5 0 13) fun (v_10 : Int32) =>
  spl (α := Int32) (fp_5 0 16) fun (v_13 : Int32) =>
  spl (α := Int32) (fp_5 0 15) fun (v_16 : Int32) =>
  spl (α := Int32) (fp_5 0 14) fun (v_21 : Int32) =>
  spl2 (sX12_takes_38 fp_5 L) fun (r_29 : Int32) (f_26 : sg_F) =>
  spl (α := Int32) (f_26 0 13) fun (v_31 : Int32) =>
  if r_29 = 1 then (
    spl2 (sX12_compared_6 f_26 L) fun (r_44 : Int32) (f_41 : sg_F) =>
    spl (α := Int32) (f_41 0 13) fun (v_49 : Int32) =>
    spl (α := Int32) (f_41 0 15) fun (v_53 : Int32) =>
    if y1_5.toInt = 0 then (
      rec_5 0 f_41 L) else (
      if r_44.toInt = 0 then (
        rec_5 0 f_41 L) else (
        rec_5 1 f_41 L))) else (
    ((y1_5 : Int32), f_26))
set_option maxRecDepth 100000 in
noncomputable def sX12_both_6_l5 (n : Nat) : Int32 → sg_F → sg_L → Int32 × sg_F :=
  Nat.rec (motive := fun _ => Int32 → sg_F → sg_L → Int32 × sg_F) (fun _ f L => ((0 : Int32), f)) (fun _ r => sX12_both_6_h5 r) n
set_option maxRecDepth 100000 in
noncomputable def sX12_both_6 (f : sg_F) (L : sg_L) : Int32 × sg_F :=
  spl (α := Int32) (f 0 16) fun (v_1 : Int32) =>
  spl (α := Int32) (f 0 15) fun (v_3 : Int32) =>
  spl (α := Int32) (f 0 13) fun (v_5 : Int32) =>
  spl2 (sX12_compared_6 f L) fun (r_72 : Int32) (f_69 : sg_F) =>
  spl (α := Int32) (f_69 0 13) fun (v_77 : Int32) =>
  spl (α := Int32) (f_69 0 15) fun (v_81 : Int32) =>
  sX12_both_6_l5 121 r_72 f_69 L
set_option maxRecDepth 100000 in
noncomputable def sX12_takes_124 (f : sg_F) (L : sg_L) : Int32 × sg_F :=
  spl (α := Int32) (f 0 15) fun (v_1 : Int32) =>
  spl (α := Int32) (f 0 13) fun (v_3 : Int32) =>
  spl (α := Int32) (f 0 14) fun (v_5 : Int32) =>
  if v_1.toInt < 0 then (
    spl (sX12_byteAt f L) fun (r_19 : Int32) =>
    if r_19.toInt = 124 then (
      spl (α := Int32) (v_3 + 1) fun (v_24 : Int32) =>
      spl (α := sg_F) (sg_up f 0 (sgu (f 0) 13 v_24)) fun (f_26 : sg_F) =>
      ((1 : Int32), f_26)) else (
      ((0 : Int32), f))) else (
    ((0 : Int32), f))
set_option maxRecDepth 100000 in
noncomputable def sX12_either_6_h5 (rec_5 : Int32 → sg_F → sg_L → Int32 × sg_F) (y1_5 : Int32) (fp_5 : sg_F) (L : sg_L) : Int32 × sg_F :=
  spl (α := Int32) (fp_5 0 13) fun (v_10 : Int32) =>
  spl (α := Int32) (fp_5 0 16) fun (v_13 : Int32) =>
  spl (α := Int32) (fp_5 0 15) fun (v_16 : Int32) =>
  spl (α := Int32) (fp_5 0 14) fun (v_21 : Int32) =>
  spl2 (sX12_takes_124 fp_5 L) fun (r_29 : Int32) (f_26 : sg_F) =>
  spl (α := Int32) (f_26 0 13) fun (v_31 : Int32) =>
  if r_29 = 1 then (
    spl2 (sX12_both_6 f_26 L) fun (r_44 : Int32) (f_41 : sg_F) =>
    spl (α := Int32) (f_41 0 13) fun (v_49 : Int32) =>
    spl (α := Int32) (f_41 0 15) fun (v_53 : Int32) =>
    if y1_5.toInt = 0 then (
      if r_44.toInt = 0 then (
        rec_5 0 f_41 L) else (
        rec_5 1 f_41 L)) else (
      rec_5 1 f_41 L)) else (
    ((y1_5 : Int32), f_26))
set_option maxRecDepth 100000 in
noncomputable def sX12_either_6_l5 (n : Nat) : Int32 → sg_F → sg_L → Int32 × sg_F :=
  Nat.rec (motive := fun _ => Int32 → sg_F → sg_L → Int32 × sg_F) (fun _ f L => ((0 : Int32), f)) (fun _ r => sX12_either_6_h5 r) n
set_option maxRecDepth 100000 in
noncomputable def sX12_either_6 (f : sg_F) (L : sg_L) : Int32 × sg_F :=
  spl (α := Int32) (f 0 16) fun (v_1 : Int32) =>
  spl (α := Int32) (f 0 15) fun (v_3 : Int32) =>
  spl (α := Int32) (f 0 13) fun (v_5 : Int32) =>
  spl2 (sX12_both_6 f L) fun (r_72 : Int32) (f_69 : sg_F) =>
  spl (α := Int32) (f_69 0 13) fun (v_77 : Int32) =>
  spl (α := Int32) (f_69 0 15) fun (v_81 : Int32) =>
  sX12_either_6_l5 121 r_72 f_69 L
set_option maxRecDepth 100000 in
noncomputable def sX12_takes_41 (f : sg_F) (L : sg_L) : Int32 × sg_F :=
  spl (α := Int32) (f 0 15) fun (v_1 : Int32) =>
  spl (α := Int32) (f 0 13) fun (v_3 : Int32) =>
  spl (α := Int32) (f 0 14) fun (v_5 : Int32) =>
  if v_1.toInt < 0 then (
    spl (sX12_byteAt f L) fun (r_19 : Int32) =>
    if r_19.toInt = 41 then (
      spl (α := Int32) (v_3 + 1) fun (v_24 : Int32) =>
      spl (α := sg_F) (sg_up f 0 (sgu (f 0) 13 v_24)) fun (f_26 : sg_F) =>
      ((1 : Int32), f_26)) else (
      ((0 : Int32), f))) else (
    ((0 : Int32), f))
set_option maxRecDepth 100000 in
noncomputable def sX12_one_5_b229 (y3_229 : Int32) (y4_229 : Int32) (fp_229 : sg_F) (L : sg_L) : Int32 × sg_F :=
  spl (α := Int32) (fp_229 0 15) fun (v_10 : Int32) =>
  spl (α := Int32) (fp_229 0 13) fun (v_13 : Int32) =>
  spl (α := Int32) (fp_229 0 16) fun (v_16 : Int32) =>
  if y4_229.toInt = 0 then (
    spl2 (sX12_wrong fp_229 L) fun (r_28 : Int32) (f_25 : sg_F) =>
    spl (α := Int32) (f_25 0 15) fun (v_31 : Int32) =>
    ((0 : Int32), f_25)) else (
    ((y3_229 : Int32), fp_229))
set_option maxRecDepth 100000 in
noncomputable def sX12_one_5_h176 (rec_176 : Int32 → Int32 → sg_F → sg_L → Int32 × sg_F) (y3_176 : Int32) (y4_176 : Int32) (fp_176 : sg_F) (L : sg_L) : Int32 × sg_F :=
  spl (α := Int32) (fp_176 0 15) fun (v_38 : Int32) =>
  spl (α := Int32) (fp_176 0 13) fun (v_41 : Int32) =>
  spl (α := Int32) (fp_176 0 16) fun (v_44 : Int32) =>
  if y4_176.toInt < 4 then (
    spl (α := Int32) (fp_176 0 14) fun (v_50 : Int32) =>
    spl (sX12_byteAt fp_176 L) fun (r_56 : Int32) =>
    if r_56.toInt < 48 then (
      sX12_one_5_b229 y3_176 y4_176 fp_176 L) else (
      if 57 < r_56.toInt then (
        sX12_one_5_b229 y3_176 y4_176 fp_176 L) else (
        spl (α := Int32) (10 * y3_176) fun (v_71 : Int32) =>
        spl (α := Int32) (v_71 + r_56) fun (v_80 : Int32) =>
        spl (α := Int32) (v_80 - 48) fun (v_81 : Int32) =>
        spl (α := Int32) (y4_176 + 1) fun (v_82 : Int32) =>
        spl (α := Int32) (v_41 + 1) fun (v_84 : Int32) =>
        spl (α := sg_F) (sg_up fp_176 0 (sgu (fp_176 0) 13 v_84)) fun (f_86 : sg_F) =>
        rec_176 v_81 v_82 f_86 L))) else (
    sX12_one_5_b229 y3_176 y4_176 fp_176 L)
set_option maxRecDepth 100000 in
noncomputable def sX12_one_5_l176 (n : Nat) : Int32 → Int32 → sg_F → sg_L → Int32 × sg_F :=
  Nat.rec (motive := fun _ => Int32 → Int32 → sg_F → sg_L → Int32 × sg_F) (fun _ _ f L => ((0 : Int32), f)) (fun _ r => sX12_one_5_h176 r) n
set_option maxRecDepth 100000 in
noncomputable def sX12_one_5 (f : sg_F) (L : sg_L) : Int32 × sg_F :=
  spl (α := Int32) (f 0 16) fun (v_1 : Int32) =>
  spl (α := Int32) (f 0 15) fun (v_3 : Int32) =>
  spl (α := Int32) (f 0 13) fun (v_5 : Int32) =>
  if v_3.toInt < 0 then (
    spl (α := Int32) (f 0 14) fun (v_90 : Int32) =>
    spl (sX12_byteAt f L) fun (r_96 : Int32) =>
    if r_96.toInt = 33 then (
      spl (α := sg_F) (sg_up f 0 (sgu (f 0) 16 6)) fun (f_102 : sg_F) =>
      spl (α := Int32) (v_5 + 1) fun (v_103 : Int32) =>
      spl (α := sg_F) (sg_up f_102 0 (sgu (f_102 0) 13 v_103)) fun (f_105 : sg_F) =>
      spl2 (sX12_one_6 f_105 L) fun (r_115 : Int32) (f_112 : sg_F) =>
      spl (α := Int32) (f_112 0 13) fun (v_120 : Int32) =>
      spl (α := Int32) (f_112 0 15) fun (v_124 : Int32) =>
      spl (α := sg_F) (sg_up f_112 0 (sgu (f_112 0) 16 5)) fun (f_130 : sg_F) =>
      if r_115.toInt = 0 then (
        ((1 : Int32), f_130)) else (
        ((0 : Int32), f_130))) else (
      if r_96.toInt = 45 then (
        spl (α := sg_F) (sg_up f 0 (sgu (f 0) 16 6)) fun (f_148 : sg_F) =>
        spl (α := Int32) (v_5 + 1) fun (v_149 : Int32) =>
        spl (α := sg_F) (sg_up f_148 0 (sgu (f_148 0) 13 v_149)) fun (f_151 : sg_F) =>
        spl2 (sX12_one_6 f_151 L) fun (r_161 : Int32) (f_158 : sg_F) =>
        spl (α := Int32) (f_158 0 13) fun (v_166 : Int32) =>
        spl (α := Int32) (f_158 0 15) fun (v_170 : Int32) =>
        spl (α := sg_F) (sg_up f_158 0 (sgu (f_158 0) 16 5)) fun (f_176 : sg_F) =>
        spl (α := Int32) ((-r_161)) fun (v_181 : Int32) =>
        ((v_181 : Int32), f_176)) else (
        if r_96.toInt = 40 then (
          spl (α := sg_F) (sg_up f 0 (sgu (f 0) 16 6)) fun (f_206 : sg_F) =>
          spl (α := Int32) (v_5 + 1) fun (v_207 : Int32) =>
          spl (α := sg_F) (sg_up f_206 0 (sgu (f_206 0) 13 v_207)) fun (f_209 : sg_F) =>
          spl2 (sX12_either_6 f_209 L) fun (r_219 : Int32) (f_216 : sg_F) =>
          spl (α := Int32) (f_216 0 13) fun (v_224 : Int32) =>
          spl (α := Int32) (f_216 0 15) fun (v_228 : Int32) =>
          spl2 (sX12_takes_41 f_216 L) fun (r_242 : Int32) (f_239 : sg_F) =>
          spl (α := Int32) (f_239 0 13) fun (v_244 : Int32) =>
          if r_242 = 1 then (
            spl (α := sg_F) (sg_up f_239 0 (sgu (f_239 0) 16 5)) fun (f_250 : sg_F) =>
            ((r_219 : Int32), f_250)) else (
            spl2 (sX12_wrong f_239 L) fun (r_260 : Int32) (f_257 : sg_F) =>
            spl (α := Int32) (f_257 0 15) fun (v_263 : Int32) =>
            ((0 : Int32), f_257))) else (
          spl (sX12_nameOf r_96 f L) fun (r_191 : Int32) =>
          if r_191.toInt < 0 then (
            sX12_one_5_l176 5 0 0 f L) else (
            spl (α := Int32) (v_5 + 1) fun (v_196 : Int32) =>
            spl (α := sg_F) (sg_up f 0 (sgu (f 0) 13 v_196)) fun (f_198 : sg_F) =>
            spl (α := Int32) (f_198 8 (Int32.toNatClampNeg r_191)) fun (v_199 : Int32) =>
            ((v_199 : Int32), f_198)))))) else (
    ((0 : Int32), f))
set_option maxRecDepth 100000 in
noncomputable def sX12_product_5_h10 (rec_10 : Int32 → Int32 → sg_F → sg_L → Int32 × sg_F) (y1_10 : Int32) (y2_10 : Int32) (fp_10 : sg_F) (L : sg_L) : Int32 × sg_F :=
  spl (α := Int32) (fp_10 0 13) fun (v_13 : Int32) =>
  spl (α := Int32) (fp_10 0 16) fun (v_16 : Int32) =>
  spl (α := Int32) (fp_10 0 15) fun (v_19 : Int32) =>
  spl (α := Int32) (fp_10 0 14) fun (v_22 : Int32) =>
  if v_19.toInt < 0 then (
    if y2_10.toInt = 42 then (
      spl (α := Int32) (v_13 + 1) fun (v_33 : Int32) =>
      spl (α := sg_F) (sg_up fp_10 0 (sgu (fp_10 0) 13 v_33)) fun (f_35 : sg_F) =>
      spl2 (sX12_one_5 f_35 L) fun (r_43 : Int32) (f_40 : sg_F) =>
      spl (α := Int32) (f_40 0 13) fun (v_48 : Int32) =>
      spl (α := Int32) (f_40 0 16) fun (v_51 : Int32) =>
      spl (α := Int32) (f_40 0 15) fun (v_54 : Int32) =>
      spl (α := Int32) (y1_10 * r_43) fun (v_60 : Int32) =>
      spl (sX12_byteAt f_40 L) fun (r_66 : Int32) =>
      rec_10 v_60 r_66 f_40 L) else (
      if y2_10.toInt = 47 then (
        spl (α := Int32) (v_13 + 1) fun (v_71 : Int32) =>
        spl (α := sg_F) (sg_up fp_10 0 (sgu (fp_10 0) 13 v_71)) fun (f_73 : sg_F) =>
        spl2 (sX12_one_5 f_73 L) fun (r_81 : Int32) (f_78 : sg_F) =>
        spl (α := Int32) (f_78 0 13) fun (v_86 : Int32) =>
        spl (α := Int32) (f_78 0 16) fun (v_89 : Int32) =>
        spl (α := Int32) (f_78 0 15) fun (v_92 : Int32) =>
        if r_81.toInt = 0 then (
          spl (sX12_byteAt f_78 L) fun (r_116 : Int32) =>
          rec_10 0 r_116 f_78 L) else (
          spl (α := Int32) (y1_10 / r_81) fun (v_102 : Int32) =>
          spl (sX12_byteAt f_78 L) fun (r_108 : Int32) =>
          rec_10 v_102 r_108 f_78 L)) else (
        if y2_10.toInt = 37 then (
          spl (α := Int32) (v_13 + 1) fun (v_125 : Int32) =>
          spl (α := sg_F) (sg_up fp_10 0 (sgu (fp_10 0) 13 v_125)) fun (f_127 : sg_F) =>
          spl2 (sX12_one_5 f_127 L) fun (r_135 : Int32) (f_132 : sg_F) =>
          spl (α := Int32) (f_132 0 13) fun (v_140 : Int32) =>
          spl (α := Int32) (f_132 0 16) fun (v_143 : Int32) =>
          spl (α := Int32) (f_132 0 15) fun (v_146 : Int32) =>
          if r_135.toInt = 0 then (
            spl (sX12_byteAt f_132 L) fun (r_170 : Int32) =>
            rec_10 0 r_170 f_132 L) else (
            spl (α := Int32) (y1_10 - y1_10 / r_135 * r_135) fun (v_156 : Int32) =>
            spl (sX12_byteAt f_132 L) fun (r_162 : Int32) =>
            rec_10 v_156 r_162 f_132 L)) else (
          ((y1_10 : Int32), fp_10))))) else (
    ((y1_10 : Int32), fp_10))
set_option maxRecDepth 100000 in
noncomputable def sX12_product_5_l10 (n : Nat) : Int32 → Int32 → sg_F → sg_L → Int32 × sg_F :=
  Nat.rec (motive := fun _ => Int32 → Int32 → sg_F → sg_L → Int32 × sg_F) (fun _ _ f L => ((0 : Int32), f)) (fun _ r => sX12_product_5_h10 r) n
set_option maxRecDepth 100000 in
noncomputable def sX12_product_5 (f : sg_F) (L : sg_L) : Int32 × sg_F :=
  spl (α := Int32) (f 0 16) fun (v_1 : Int32) =>
  spl (α := Int32) (f 0 15) fun (v_3 : Int32) =>
  spl (α := Int32) (f 0 13) fun (v_5 : Int32) =>
  spl (α := Int32) (f 0 14) fun (v_7 : Int32) =>
  spl2 (sX12_one_5 f L) fun (r_180 : Int32) (f_177 : sg_F) =>
  spl (α := Int32) (f_177 0 13) fun (v_185 : Int32) =>
  spl (α := Int32) (f_177 0 16) fun (v_188 : Int32) =>
  spl (α := Int32) (f_177 0 15) fun (v_191 : Int32) =>
  spl (sX12_byteAt f_177 L) fun (r_200 : Int32) =>
  sX12_product_5_l10 121 r_180 r_200 f_177 L
set_option maxRecDepth 100000 in
noncomputable def sX12_sums_5_h5 (rec_5 : Int32 → sg_F → sg_L → Int32 × sg_F) (y1_5 : Int32) (fp_5 : sg_F) (L : sg_L) : Int32 × sg_F :=
  spl (α := Int32) (fp_5 0 13) fun (v_10 : Int32) =>
  spl (α := Int32) (fp_5 0 16) fun (v_13 : Int32) =>
  spl (α := Int32) (fp_5 0 15) fun (v_16 : Int32) =>
  if v_16.toInt < 0 then (
    spl (α := Int32) (fp_5 0 14) fun (v_26 : Int32) =>
    spl (sX12_byteAt fp_5 L) fun (r_32 : Int32) =>
    if r_32.toInt = 43 then (
      spl (α := Int32) (v_10 + 1) fun (v_47 : Int32) =>
      spl (α := sg_F) (sg_up fp_5 0 (sgu (fp_5 0) 13 v_47)) fun (f_49 : sg_F) =>
      spl2 (sX12_product_5 f_49 L) fun (r_57 : Int32) (f_54 : sg_F) =>
      spl (α := Int32) (f_54 0 13) fun (v_62 : Int32) =>
      spl (α := Int32) (f_54 0 16) fun (v_65 : Int32) =>
      spl (α := Int32) (f_54 0 15) fun (v_68 : Int32) =>
      spl (α := Int32) (y1_5 + r_57) fun (v_72 : Int32) =>
      rec_5 v_72 f_54 L) else (
      if r_32.toInt = 45 then (
        spl (α := Int32) (v_10 + 1) fun (v_97 : Int32) =>
        spl (α := sg_F) (sg_up fp_5 0 (sgu (fp_5 0) 13 v_97)) fun (f_99 : sg_F) =>
        spl2 (sX12_product_5 f_99 L) fun (r_107 : Int32) (f_104 : sg_F) =>
        spl (α := Int32) (f_104 0 13) fun (v_112 : Int32) =>
        spl (α := Int32) (f_104 0 16) fun (v_115 : Int32) =>
        spl (α := Int32) (f_104 0 15) fun (v_118 : Int32) =>
        spl (α := Int32) (y1_5 - r_107) fun (v_122 : Int32) =>
        rec_5 v_122 f_104 L) else (
        ((y1_5 : Int32), fp_5)))) else (
    ((y1_5 : Int32), fp_5))
set_option maxRecDepth 100000 in
noncomputable def sX12_sums_5_l5 (n : Nat) : Int32 → sg_F → sg_L → Int32 × sg_F :=
  Nat.rec (motive := fun _ => Int32 → sg_F → sg_L → Int32 × sg_F) (fun _ f L => ((0 : Int32), f)) (fun _ r => sX12_sums_5_h5 r) n
set_option maxRecDepth 100000 in
noncomputable def sX12_sums_5 (f : sg_F) (L : sg_L) : Int32 × sg_F :=
  spl (α := Int32) (f 0 16) fun (v_1 : Int32) =>
  spl (α := Int32) (f 0 15) fun (v_3 : Int32) =>
  spl (α := Int32) (f 0 13) fun (v_5 : Int32) =>
  spl2 (sX12_product_5 f L) fun (r_130 : Int32) (f_127 : sg_F) =>
  spl (α := Int32) (f_127 0 13) fun (v_135 : Int32) =>
  spl (α := Int32) (f_127 0 16) fun (v_138 : Int32) =>
  spl (α := Int32) (f_127 0 15) fun (v_141 : Int32) =>
  sX12_sums_5_l5 121 r_130 f_127 L
set_option maxRecDepth 100000 in
noncomputable def sX12_compared_5 (f : sg_F) (L : sg_L) : Int32 × sg_F :=
  spl (α := Int32) (f 0 16) fun (v_1 : Int32) =>
  spl (α := Int32) (f 0 15) fun (v_3 : Int32) =>
  spl (α := Int32) (f 0 13) fun (v_5 : Int32) =>
  spl2 (sX12_sums_5 f L) fun (r_17 : Int32) (f_14 : sg_F) =>
  spl (α := Int32) (f_14 0 13) fun (v_22 : Int32) =>
  spl (α := Int32) (f_14 0 16) fun (v_25 : Int32) =>
  spl (α := Int32) (f_14 0 15) fun (v_28 : Int32) =>
  spl (α := Int32) (f_14 0 14) fun (v_33 : Int32) =>
  spl (sX12_byteAt f_14 L) fun (r_39 : Int32) =>
  if v_28.toInt < 0 then (
    if r_39.toInt = 60 then (
      spl (α := Int32) (v_22 + 1) fun (v_50 : Int32) =>
      spl (α := sg_F) (sg_up f_14 0 (sgu (f_14 0) 13 v_50)) fun (f_52 : sg_F) =>
      spl2 (sX12_sums_5 f_52 L) fun (r_60 : Int32) (f_57 : sg_F) =>
      spl (α := Int32) (f_57 0 13) fun (v_65 : Int32) =>
      spl (α := Int32) (f_57 0 16) fun (v_68 : Int32) =>
      spl (α := Int32) (f_57 0 15) fun (v_71 : Int32) =>
      if r_17.toInt < r_60.toInt then (
        ((1 : Int32), f_57)) else (
        ((0 : Int32), f_57))) else (
      if r_39.toInt = 61 then (
        spl (α := Int32) (v_22 + 1) fun (v_89 : Int32) =>
        spl (α := sg_F) (sg_up f_14 0 (sgu (f_14 0) 13 v_89)) fun (f_91 : sg_F) =>
        spl2 (sX12_sums_5 f_91 L) fun (r_99 : Int32) (f_96 : sg_F) =>
        spl (α := Int32) (f_96 0 13) fun (v_104 : Int32) =>
        spl (α := Int32) (f_96 0 16) fun (v_107 : Int32) =>
        spl (α := Int32) (f_96 0 15) fun (v_110 : Int32) =>
        if r_17.toInt = r_99.toInt then (
          ((1 : Int32), f_96)) else (
          ((0 : Int32), f_96))) else (
        if r_39.toInt = 62 then (
          spl (α := Int32) (v_22 + 1) fun (v_130 : Int32) =>
          spl (α := sg_F) (sg_up f_14 0 (sgu (f_14 0) 13 v_130)) fun (f_132 : sg_F) =>
          spl2 (sX12_sums_5 f_132 L) fun (r_140 : Int32) (f_137 : sg_F) =>
          spl (α := Int32) (f_137 0 13) fun (v_145 : Int32) =>
          spl (α := Int32) (f_137 0 16) fun (v_148 : Int32) =>
          spl (α := Int32) (f_137 0 15) fun (v_151 : Int32) =>
          if r_140.toInt < r_17.toInt then (
            ((1 : Int32), f_137)) else (
            ((0 : Int32), f_137))) else (
          ((r_17 : Int32), f_14))))) else (
    ((r_17 : Int32), f_14))
set_option maxRecDepth 100000 in
noncomputable def sX12_both_5_h5 (rec_5 : Int32 → sg_F → sg_L → Int32 × sg_F) (y1_5 : Int32) (fp_5 : sg_F) (L : sg_L) : Int32 × sg_F :=
  spl (α := Int32) (fp_5 0 13) fun (v_10 : Int32) =>
  spl (α := Int32) (fp_5 0 16) fun (v_13 : Int32) =>
  spl (α := Int32) (fp_5 0 15) fun (v_16 : Int32) =>
  spl (α := Int32) (fp_5 0 14) fun (v_21 : Int32) =>
  spl2 (sX12_takes_38 fp_5 L) fun (r_29 : Int32) (f_26 : sg_F) =>
  spl (α := Int32) (f_26 0 13) fun (v_31 : Int32) =>
  if r_29 = 1 then (
    spl2 (sX12_compared_5 f_26 L) fun (r_44 : Int32) (f_41 : sg_F) =>
    spl (α := Int32) (f_41 0 13) fun (v_49 : Int32) =>
    spl (α := Int32) (f_41 0 16) fun (v_52 : Int32) =>
    spl (α := Int32) (f_41 0 15) fun (v_55 : Int32) =>
    if y1_5.toInt = 0 then (
      rec_5 0 f_41 L) else (
      if r_44.toInt = 0 then (
        rec_5 0 f_41 L) else (
        rec_5 1 f_41 L))) else (
    ((y1_5 : Int32), f_26))
set_option maxRecDepth 100000 in
noncomputable def sX12_both_5_l5 (n : Nat) : Int32 → sg_F → sg_L → Int32 × sg_F :=
  Nat.rec (motive := fun _ => Int32 → sg_F → sg_L → Int32 × sg_F) (fun _ f L => ((0 : Int32), f)) (fun _ r => sX12_both_5_h5 r) n
set_option maxRecDepth 100000 in
noncomputable def sX12_both_5 (f : sg_F) (L : sg_L) : Int32 × sg_F :=
  spl (α := Int32) (f 0 16) fun (v_1 : Int32) =>
  spl (α := Int32) (f 0 15) fun (v_3 : Int32) =>
  spl (α := Int32) (f 0 13) fun (v_5 : Int32) =>
  spl2 (sX12_compared_5 f L) fun (r_74 : Int32) (f_71 : sg_F) =>
  spl (α := Int32) (f_71 0 13) fun (v_79 : Int32) =>
  spl (α := Int32) (f_71 0 16) fun (v_82 : Int32) =>
  spl (α := Int32) (f_71 0 15) fun (v_85 : Int32) =>
  sX12_both_5_l5 121 r_74 f_71 L
set_option maxRecDepth 100000 in
noncomputable def sX12_either_5_h5 (rec_5 : Int32 → sg_F → sg_L → Int32 × sg_F) (y1_5 : Int32) (fp_5 : sg_F) (L : sg_L) : Int32 × sg_F :=
  spl (α := Int32) (fp_5 0 13) fun (v_10 : Int32) =>
  spl (α := Int32) (fp_5 0 16) fun (v_13 : Int32) =>
  spl (α := Int32) (fp_5 0 15) fun (v_16 : Int32) =>
  spl (α := Int32) (fp_5 0 14) fun (v_21 : Int32) =>
  spl2 (sX12_takes_124 fp_5 L) fun (r_29 : Int32) (f_26 : sg_F) =>
  spl (α := Int32) (f_26 0 13) fun (v_31 : Int32) =>
  if r_29 = 1 then (
    spl2 (sX12_both_5 f_26 L) fun (r_44 : Int32) (f_41 : sg_F) =>
    spl (α := Int32) (f_41 0 13) fun (v_49 : Int32) =>
    spl (α := Int32) (f_41 0 16) fun (v_52 : Int32) =>
    spl (α := Int32) (f_41 0 15) fun (v_55 : Int32) =>
    if y1_5.toInt = 0 then (
      if r_44.toInt = 0 then (
        rec_5 0 f_41 L) else (
        rec_5 1 f_41 L)) else (
      rec_5 1 f_41 L)) else (
    ((y1_5 : Int32), f_26))
set_option maxRecDepth 100000 in
noncomputable def sX12_either_5_l5 (n : Nat) : Int32 → sg_F → sg_L → Int32 × sg_F :=
  Nat.rec (motive := fun _ => Int32 → sg_F → sg_L → Int32 × sg_F) (fun _ f L => ((0 : Int32), f)) (fun _ r => sX12_either_5_h5 r) n
set_option maxRecDepth 100000 in
noncomputable def sX12_either_5 (f : sg_F) (L : sg_L) : Int32 × sg_F :=
  spl (α := Int32) (f 0 16) fun (v_1 : Int32) =>
  spl (α := Int32) (f 0 15) fun (v_3 : Int32) =>
  spl (α := Int32) (f 0 13) fun (v_5 : Int32) =>
  spl2 (sX12_both_5 f L) fun (r_74 : Int32) (f_71 : sg_F) =>
  spl (α := Int32) (f_71 0 13) fun (v_79 : Int32) =>
  spl (α := Int32) (f_71 0 16) fun (v_82 : Int32) =>
  spl (α := Int32) (f_71 0 15) fun (v_85 : Int32) =>
  sX12_either_5_l5 121 r_74 f_71 L
set_option maxRecDepth 100000 in
noncomputable def sX12_one_4_b229 (y3_229 : Int32) (y4_229 : Int32) (fp_229 : sg_F) (L : sg_L) : Int32 × sg_F :=
  spl (α := Int32) (fp_229 0 15) fun (v_10 : Int32) =>
  spl (α := Int32) (fp_229 0 13) fun (v_13 : Int32) =>
  spl (α := Int32) (fp_229 0 16) fun (v_16 : Int32) =>
  if y4_229.toInt = 0 then (
    spl2 (sX12_wrong fp_229 L) fun (r_28 : Int32) (f_25 : sg_F) =>
    spl (α := Int32) (f_25 0 15) fun (v_31 : Int32) =>
    ((0 : Int32), f_25)) else (
    ((y3_229 : Int32), fp_229))
set_option maxRecDepth 100000 in
noncomputable def sX12_one_4_h176 (rec_176 : Int32 → Int32 → sg_F → sg_L → Int32 × sg_F) (y3_176 : Int32) (y4_176 : Int32) (fp_176 : sg_F) (L : sg_L) : Int32 × sg_F :=
  spl (α := Int32) (fp_176 0 15) fun (v_38 : Int32) =>
  spl (α := Int32) (fp_176 0 13) fun (v_41 : Int32) =>
  spl (α := Int32) (fp_176 0 16) fun (v_44 : Int32) =>
  if y4_176.toInt < 4 then (
    spl (α := Int32) (fp_176 0 14) fun (v_50 : Int32) =>
    spl (sX12_byteAt fp_176 L) fun (r_56 : Int32) =>
    if r_56.toInt < 48 then (
      sX12_one_4_b229 y3_176 y4_176 fp_176 L) else (
      if 57 < r_56.toInt then (
        sX12_one_4_b229 y3_176 y4_176 fp_176 L) else (
        spl (α := Int32) (10 * y3_176) fun (v_71 : Int32) =>
        spl (α := Int32) (v_71 + r_56) fun (v_80 : Int32) =>
        spl (α := Int32) (v_80 - 48) fun (v_81 : Int32) =>
        spl (α := Int32) (y4_176 + 1) fun (v_82 : Int32) =>
        spl (α := Int32) (v_41 + 1) fun (v_84 : Int32) =>
        spl (α := sg_F) (sg_up fp_176 0 (sgu (fp_176 0) 13 v_84)) fun (f_86 : sg_F) =>
        rec_176 v_81 v_82 f_86 L))) else (
    sX12_one_4_b229 y3_176 y4_176 fp_176 L)
set_option maxRecDepth 100000 in
noncomputable def sX12_one_4_l176 (n : Nat) : Int32 → Int32 → sg_F → sg_L → Int32 × sg_F :=
  Nat.rec (motive := fun _ => Int32 → Int32 → sg_F → sg_L → Int32 × sg_F) (fun _ _ f L => ((0 : Int32), f)) (fun _ r => sX12_one_4_h176 r) n
set_option maxRecDepth 100000 in
noncomputable def sX12_one_4 (f : sg_F) (L : sg_L) : Int32 × sg_F :=
  spl (α := Int32) (f 0 16) fun (v_1 : Int32) =>
  spl (α := Int32) (f 0 15) fun (v_3 : Int32) =>
  spl (α := Int32) (f 0 13) fun (v_5 : Int32) =>
  if v_3.toInt < 0 then (
    spl (α := Int32) (f 0 14) fun (v_90 : Int32) =>
    spl (sX12_byteAt f L) fun (r_96 : Int32) =>
    if r_96.toInt = 33 then (
      spl (α := sg_F) (sg_up f 0 (sgu (f 0) 16 5)) fun (f_102 : sg_F) =>
      spl (α := Int32) (v_5 + 1) fun (v_103 : Int32) =>
      spl (α := sg_F) (sg_up f_102 0 (sgu (f_102 0) 13 v_103)) fun (f_105 : sg_F) =>
      spl2 (sX12_one_5 f_105 L) fun (r_115 : Int32) (f_112 : sg_F) =>
      spl (α := Int32) (f_112 0 13) fun (v_120 : Int32) =>
      spl (α := Int32) (f_112 0 16) fun (v_123 : Int32) =>
      spl (α := Int32) (f_112 0 15) fun (v_126 : Int32) =>
      spl (α := Int32) (v_123 - 1) fun (v_132 : Int32) =>
      spl (α := sg_F) (sg_up f_112 0 (sgu (f_112 0) 16 v_132)) fun (f_134 : sg_F) =>
      if r_115.toInt = 0 then (
        ((1 : Int32), f_134)) else (
        ((0 : Int32), f_134))) else (
      if r_96.toInt = 45 then (
        spl (α := sg_F) (sg_up f 0 (sgu (f 0) 16 5)) fun (f_152 : sg_F) =>
        spl (α := Int32) (v_5 + 1) fun (v_153 : Int32) =>
        spl (α := sg_F) (sg_up f_152 0 (sgu (f_152 0) 13 v_153)) fun (f_155 : sg_F) =>
        spl2 (sX12_one_5 f_155 L) fun (r_165 : Int32) (f_162 : sg_F) =>
        spl (α := Int32) (f_162 0 13) fun (v_170 : Int32) =>
        spl (α := Int32) (f_162 0 16) fun (v_173 : Int32) =>
        spl (α := Int32) (f_162 0 15) fun (v_176 : Int32) =>
        spl (α := Int32) (v_173 - 1) fun (v_182 : Int32) =>
        spl (α := sg_F) (sg_up f_162 0 (sgu (f_162 0) 16 v_182)) fun (f_184 : sg_F) =>
        spl (α := Int32) ((-r_165)) fun (v_189 : Int32) =>
        ((v_189 : Int32), f_184)) else (
        if r_96.toInt = 40 then (
          spl (α := sg_F) (sg_up f 0 (sgu (f 0) 16 5)) fun (f_214 : sg_F) =>
          spl (α := Int32) (v_5 + 1) fun (v_215 : Int32) =>
          spl (α := sg_F) (sg_up f_214 0 (sgu (f_214 0) 13 v_215)) fun (f_217 : sg_F) =>
          spl2 (sX12_either_5 f_217 L) fun (r_227 : Int32) (f_224 : sg_F) =>
          spl (α := Int32) (f_224 0 13) fun (v_232 : Int32) =>
          spl (α := Int32) (f_224 0 16) fun (v_235 : Int32) =>
          spl (α := Int32) (f_224 0 15) fun (v_238 : Int32) =>
          spl2 (sX12_takes_41 f_224 L) fun (r_252 : Int32) (f_249 : sg_F) =>
          spl (α := Int32) (f_249 0 13) fun (v_254 : Int32) =>
          if r_252 = 1 then (
            spl (α := Int32) (v_235 - 1) fun (v_260 : Int32) =>
            spl (α := sg_F) (sg_up f_249 0 (sgu (f_249 0) 16 v_260)) fun (f_262 : sg_F) =>
            ((r_227 : Int32), f_262)) else (
            spl2 (sX12_wrong f_249 L) fun (r_272 : Int32) (f_269 : sg_F) =>
            spl (α := Int32) (f_269 0 15) fun (v_275 : Int32) =>
            ((0 : Int32), f_269))) else (
          spl (sX12_nameOf r_96 f L) fun (r_199 : Int32) =>
          if r_199.toInt < 0 then (
            sX12_one_4_l176 5 0 0 f L) else (
            spl (α := Int32) (v_5 + 1) fun (v_204 : Int32) =>
            spl (α := sg_F) (sg_up f 0 (sgu (f 0) 13 v_204)) fun (f_206 : sg_F) =>
            spl (α := Int32) (f_206 8 (Int32.toNatClampNeg r_199)) fun (v_207 : Int32) =>
            ((v_207 : Int32), f_206)))))) else (
    ((0 : Int32), f))
set_option maxRecDepth 100000 in
noncomputable def sX12_product_4_h10 (rec_10 : Int32 → Int32 → sg_F → sg_L → Int32 × sg_F) (y1_10 : Int32) (y2_10 : Int32) (fp_10 : sg_F) (L : sg_L) : Int32 × sg_F :=
  spl (α := Int32) (fp_10 0 13) fun (v_13 : Int32) =>
  spl (α := Int32) (fp_10 0 16) fun (v_16 : Int32) =>
  spl (α := Int32) (fp_10 0 15) fun (v_19 : Int32) =>
  spl (α := Int32) (fp_10 0 14) fun (v_22 : Int32) =>
  if v_19.toInt < 0 then (
    if y2_10.toInt = 42 then (
      spl (α := Int32) (v_13 + 1) fun (v_33 : Int32) =>
      spl (α := sg_F) (sg_up fp_10 0 (sgu (fp_10 0) 13 v_33)) fun (f_35 : sg_F) =>
      spl2 (sX12_one_4 f_35 L) fun (r_43 : Int32) (f_40 : sg_F) =>
      spl (α := Int32) (f_40 0 13) fun (v_48 : Int32) =>
      spl (α := Int32) (f_40 0 16) fun (v_51 : Int32) =>
      spl (α := Int32) (f_40 0 15) fun (v_54 : Int32) =>
      spl (α := Int32) (y1_10 * r_43) fun (v_60 : Int32) =>
      spl (sX12_byteAt f_40 L) fun (r_66 : Int32) =>
      rec_10 v_60 r_66 f_40 L) else (
      if y2_10.toInt = 47 then (
        spl (α := Int32) (v_13 + 1) fun (v_71 : Int32) =>
        spl (α := sg_F) (sg_up fp_10 0 (sgu (fp_10 0) 13 v_71)) fun (f_73 : sg_F) =>
        spl2 (sX12_one_4 f_73 L) fun (r_81 : Int32) (f_78 : sg_F) =>
        spl (α := Int32) (f_78 0 13) fun (v_86 : Int32) =>
        spl (α := Int32) (f_78 0 16) fun (v_89 : Int32) =>
        spl (α := Int32) (f_78 0 15) fun (v_92 : Int32) =>
        if r_81.toInt = 0 then (
          spl (sX12_byteAt f_78 L) fun (r_116 : Int32) =>
          rec_10 0 r_116 f_78 L) else (
          spl (α := Int32) (y1_10 / r_81) fun (v_102 : Int32) =>
          spl (sX12_byteAt f_78 L) fun (r_108 : Int32) =>
          rec_10 v_102 r_108 f_78 L)) else (
        if y2_10.toInt = 37 then (
          spl (α := Int32) (v_13 + 1) fun (v_125 : Int32) =>
          spl (α := sg_F) (sg_up fp_10 0 (sgu (fp_10 0) 13 v_125)) fun (f_127 : sg_F) =>
          spl2 (sX12_one_4 f_127 L) fun (r_135 : Int32) (f_132 : sg_F) =>
          spl (α := Int32) (f_132 0 13) fun (v_140 : Int32) =>
          spl (α := Int32) (f_132 0 16) fun (v_143 : Int32) =>
          spl (α := Int32) (f_132 0 15) fun (v_146 : Int32) =>
          if r_135.toInt = 0 then (
            spl (sX12_byteAt f_132 L) fun (r_170 : Int32) =>
            rec_10 0 r_170 f_132 L) else (
            spl (α := Int32) (y1_10 - y1_10 / r_135 * r_135) fun (v_156 : Int32) =>
            spl (sX12_byteAt f_132 L) fun (r_162 : Int32) =>
            rec_10 v_156 r_162 f_132 L)) else (
          ((y1_10 : Int32), fp_10))))) else (
    ((y1_10 : Int32), fp_10))
set_option maxRecDepth 100000 in
noncomputable def sX12_product_4_l10 (n : Nat) : Int32 → Int32 → sg_F → sg_L → Int32 × sg_F :=
  Nat.rec (motive := fun _ => Int32 → Int32 → sg_F → sg_L → Int32 × sg_F) (fun _ _ f L => ((0 : Int32), f)) (fun _ r => sX12_product_4_h10 r) n
set_option maxRecDepth 100000 in
noncomputable def sX12_product_4 (f : sg_F) (L : sg_L) : Int32 × sg_F :=
  spl (α := Int32) (f 0 16) fun (v_1 : Int32) =>
  spl (α := Int32) (f 0 15) fun (v_3 : Int32) =>
  spl (α := Int32) (f 0 13) fun (v_5 : Int32) =>
  spl (α := Int32) (f 0 14) fun (v_7 : Int32) =>
  spl2 (sX12_one_4 f L) fun (r_180 : Int32) (f_177 : sg_F) =>
  spl (α := Int32) (f_177 0 13) fun (v_185 : Int32) =>
  spl (α := Int32) (f_177 0 16) fun (v_188 : Int32) =>
  spl (α := Int32) (f_177 0 15) fun (v_191 : Int32) =>
  spl (sX12_byteAt f_177 L) fun (r_200 : Int32) =>
  sX12_product_4_l10 121 r_180 r_200 f_177 L
set_option maxRecDepth 100000 in
noncomputable def sX12_sums_4_h5 (rec_5 : Int32 → sg_F → sg_L → Int32 × sg_F) (y1_5 : Int32) (fp_5 : sg_F) (L : sg_L) : Int32 × sg_F :=
  spl (α := Int32) (fp_5 0 13) fun (v_10 : Int32) =>
  spl (α := Int32) (fp_5 0 16) fun (v_13 : Int32) =>
  spl (α := Int32) (fp_5 0 15) fun (v_16 : Int32) =>
  if v_16.toInt < 0 then (
    spl (α := Int32) (fp_5 0 14) fun (v_26 : Int32) =>
    spl (sX12_byteAt fp_5 L) fun (r_32 : Int32) =>
    if r_32.toInt = 43 then (
      spl (α := Int32) (v_10 + 1) fun (v_47 : Int32) =>
      spl (α := sg_F) (sg_up fp_5 0 (sgu (fp_5 0) 13 v_47)) fun (f_49 : sg_F) =>
      spl2 (sX12_product_4 f_49 L) fun (r_57 : Int32) (f_54 : sg_F) =>
      spl (α := Int32) (f_54 0 13) fun (v_62 : Int32) =>
      spl (α := Int32) (f_54 0 16) fun (v_65 : Int32) =>
      spl (α := Int32) (f_54 0 15) fun (v_68 : Int32) =>
      spl (α := Int32) (y1_5 + r_57) fun (v_72 : Int32) =>
      rec_5 v_72 f_54 L) else (
      if r_32.toInt = 45 then (
        spl (α := Int32) (v_10 + 1) fun (v_97 : Int32) =>
        spl (α := sg_F) (sg_up fp_5 0 (sgu (fp_5 0) 13 v_97)) fun (f_99 : sg_F) =>
        spl2 (sX12_product_4 f_99 L) fun (r_107 : Int32) (f_104 : sg_F) =>
        spl (α := Int32) (f_104 0 13) fun (v_112 : Int32) =>
        spl (α := Int32) (f_104 0 16) fun (v_115 : Int32) =>
        spl (α := Int32) (f_104 0 15) fun (v_118 : Int32) =>
        spl (α := Int32) (y1_5 - r_107) fun (v_122 : Int32) =>
        rec_5 v_122 f_104 L) else (
        ((y1_5 : Int32), fp_5)))) else (
    ((y1_5 : Int32), fp_5))
set_option maxRecDepth 100000 in
noncomputable def sX12_sums_4_l5 (n : Nat) : Int32 → sg_F → sg_L → Int32 × sg_F :=
  Nat.rec (motive := fun _ => Int32 → sg_F → sg_L → Int32 × sg_F) (fun _ f L => ((0 : Int32), f)) (fun _ r => sX12_sums_4_h5 r) n
set_option maxRecDepth 100000 in
noncomputable def sX12_sums_4 (f : sg_F) (L : sg_L) : Int32 × sg_F :=
  spl (α := Int32) (f 0 16) fun (v_1 : Int32) =>
  spl (α := Int32) (f 0 15) fun (v_3 : Int32) =>
  spl (α := Int32) (f 0 13) fun (v_5 : Int32) =>
  spl2 (sX12_product_4 f L) fun (r_130 : Int32) (f_127 : sg_F) =>
  spl (α := Int32) (f_127 0 13) fun (v_135 : Int32) =>
  spl (α := Int32) (f_127 0 16) fun (v_138 : Int32) =>
  spl (α := Int32) (f_127 0 15) fun (v_141 : Int32) =>
  sX12_sums_4_l5 121 r_130 f_127 L
set_option maxRecDepth 100000 in
noncomputable def sX12_compared_4 (f : sg_F) (L : sg_L) : Int32 × sg_F :=
  spl (α := Int32) (f 0 16) fun (v_1 : Int32) =>
  spl (α := Int32) (f 0 15) fun (v_3 : Int32) =>
  spl (α := Int32) (f 0 13) fun (v_5 : Int32) =>
  spl2 (sX12_sums_4 f L) fun (r_17 : Int32) (f_14 : sg_F) =>
  spl (α := Int32) (f_14 0 13) fun (v_22 : Int32) =>
  spl (α := Int32) (f_14 0 16) fun (v_25 : Int32) =>
  spl (α := Int32) (f_14 0 15) fun (v_28 : Int32) =>
  spl (α := Int32) (f_14 0 14) fun (v_33 : Int32) =>
  spl (sX12_byteAt f_14 L) fun (r_39 : Int32) =>
  if v_28.toInt < 0 then (
    if r_39.toInt = 60 then (
      spl (α := Int32) (v_22 + 1) fun (v_50 : Int32) =>
      spl (α := sg_F) (sg_up f_14 0 (sgu (f_14 0) 13 v_50)) fun (f_52 : sg_F) =>
      spl2 (sX12_sums_4 f_52 L) fun (r_60 : Int32) (f_57 : sg_F) =>
      spl (α := Int32) (f_57 0 13) fun (v_65 : Int32) =>
      spl (α := Int32) (f_57 0 16) fun (v_68 : Int32) =>
      spl (α := Int32) (f_57 0 15) fun (v_71 : Int32) =>
      if r_17.toInt < r_60.toInt then (
        ((1 : Int32), f_57)) else (
        ((0 : Int32), f_57))) else (
      if r_39.toInt = 61 then (
        spl (α := Int32) (v_22 + 1) fun (v_89 : Int32) =>
        spl (α := sg_F) (sg_up f_14 0 (sgu (f_14 0) 13 v_89)) fun (f_91 : sg_F) =>
        spl2 (sX12_sums_4 f_91 L) fun (r_99 : Int32) (f_96 : sg_F) =>
        spl (α := Int32) (f_96 0 13) fun (v_104 : Int32) =>
        spl (α := Int32) (f_96 0 16) fun (v_107 : Int32) =>
        spl (α := Int32) (f_96 0 15) fun (v_110 : Int32) =>
        if r_17.toInt = r_99.toInt then (
          ((1 : Int32), f_96)) else (
          ((0 : Int32), f_96))) else (
        if r_39.toInt = 62 then (
          spl (α := Int32) (v_22 + 1) fun (v_130 : Int32) =>
          spl (α := sg_F) (sg_up f_14 0 (sgu (f_14 0) 13 v_130)) fun (f_132 : sg_F) =>
          spl2 (sX12_sums_4 f_132 L) fun (r_140 : Int32) (f_137 : sg_F) =>
          spl (α := Int32) (f_137 0 13) fun (v_145 : Int32) =>
          spl (α := Int32) (f_137 0 16) fun (v_148 : Int32) =>
          spl (α := Int32) (f_137 0 15) fun (v_151 : Int32) =>
          if r_140.toInt < r_17.toInt then (
            ((1 : Int32), f_137)) else (
            ((0 : Int32), f_137))) else (
          ((r_17 : Int32), f_14))))) else (
    ((r_17 : Int32), f_14))
set_option maxRecDepth 100000 in
noncomputable def sX12_both_4_h5 (rec_5 : Int32 → sg_F → sg_L → Int32 × sg_F) (y1_5 : Int32) (fp_5 : sg_F) (L : sg_L) : Int32 × sg_F :=
  spl (α := Int32) (fp_5 0 13) fun (v_10 : Int32) =>
  spl (α := Int32) (fp_5 0 16) fun (v_13 : Int32) =>
  spl (α := Int32) (fp_5 0 15) fun (v_16 : Int32) =>
  spl (α := Int32) (fp_5 0 14) fun (v_21 : Int32) =>
  spl2 (sX12_takes_38 fp_5 L) fun (r_29 : Int32) (f_26 : sg_F) =>
  spl (α := Int32) (f_26 0 13) fun (v_31 : Int32) =>
  if r_29 = 1 then (
    spl2 (sX12_compared_4 f_26 L) fun (r_44 : Int32) (f_41 : sg_F) =>
    spl (α := Int32) (f_41 0 13) fun (v_49 : Int32) =>
    spl (α := Int32) (f_41 0 16) fun (v_52 : Int32) =>
    spl (α := Int32) (f_41 0 15) fun (v_55 : Int32) =>
    if y1_5.toInt = 0 then (
      rec_5 0 f_41 L) else (
      if r_44.toInt = 0 then (
        rec_5 0 f_41 L) else (
        rec_5 1 f_41 L))) else (
    ((y1_5 : Int32), f_26))
set_option maxRecDepth 100000 in
noncomputable def sX12_both_4_l5 (n : Nat) : Int32 → sg_F → sg_L → Int32 × sg_F :=
  Nat.rec (motive := fun _ => Int32 → sg_F → sg_L → Int32 × sg_F) (fun _ f L => ((0 : Int32), f)) (fun _ r => sX12_both_4_h5 r) n
set_option maxRecDepth 100000 in
noncomputable def sX12_both_4 (f : sg_F) (L : sg_L) : Int32 × sg_F :=
  spl (α := Int32) (f 0 16) fun (v_1 : Int32) =>
  spl (α := Int32) (f 0 15) fun (v_3 : Int32) =>
  spl (α := Int32) (f 0 13) fun (v_5 : Int32) =>
  spl2 (sX12_compared_4 f L) fun (r_74 : Int32) (f_71 : sg_F) =>
  spl (α := Int32) (f_71 0 13) fun (v_79 : Int32) =>
  spl (α := Int32) (f_71 0 16) fun (v_82 : Int32) =>
  spl (α := Int32) (f_71 0 15) fun (v_85 : Int32) =>
  sX12_both_4_l5 121 r_74 f_71 L
set_option maxRecDepth 100000 in
noncomputable def sX12_either_4_h5 (rec_5 : Int32 → sg_F → sg_L → Int32 × sg_F) (y1_5 : Int32) (fp_5 : sg_F) (L : sg_L) : Int32 × sg_F :=
  spl (α := Int32) (fp_5 0 13) fun (v_10 : Int32) =>
  spl (α := Int32) (fp_5 0 16) fun (v_13 : Int32) =>
  spl (α := Int32) (fp_5 0 15) fun (v_16 : Int32) =>
  spl (α := Int32) (fp_5 0 14) fun (v_21 : Int32) =>
  spl2 (sX12_takes_124 fp_5 L) fun (r_29 : Int32) (f_26 : sg_F) =>
  spl (α := Int32) (f_26 0 13) fun (v_31 : Int32) =>
  if r_29 = 1 then (
    spl2 (sX12_both_4 f_26 L) fun (r_44 : Int32) (f_41 : sg_F) =>
    spl (α := Int32) (f_41 0 13) fun (v_49 : Int32) =>
    spl (α := Int32) (f_41 0 16) fun (v_52 : Int32) =>
    spl (α := Int32) (f_41 0 15) fun (v_55 : Int32) =>
    if y1_5.toInt = 0 then (
      if r_44.toInt = 0 then (
        rec_5 0 f_41 L) else (
        rec_5 1 f_41 L)) else (
      rec_5 1 f_41 L)) else (
    ((y1_5 : Int32), f_26))
set_option maxRecDepth 100000 in
noncomputable def sX12_either_4_l5 (n : Nat) : Int32 → sg_F → sg_L → Int32 × sg_F :=
  Nat.rec (motive := fun _ => Int32 → sg_F → sg_L → Int32 × sg_F) (fun _ f L => ((0 : Int32), f)) (fun _ r => sX12_either_4_h5 r) n
set_option maxRecDepth 100000 in
noncomputable def sX12_either_4 (f : sg_F) (L : sg_L) : Int32 × sg_F :=
  spl (α := Int32) (f 0 16) fun (v_1 : Int32) =>
  spl (α := Int32) (f 0 15) fun (v_3 : Int32) =>
  spl (α := Int32) (f 0 13) fun (v_5 : Int32) =>
  spl2 (sX12_both_4 f L) fun (r_74 : Int32) (f_71 : sg_F) =>
  spl (α := Int32) (f_71 0 13) fun (v_79 : Int32) =>
  spl (α := Int32) (f_71 0 16) fun (v_82 : Int32) =>
  spl (α := Int32) (f_71 0 15) fun (v_85 : Int32) =>
  sX12_either_4_l5 121 r_74 f_71 L
set_option maxRecDepth 100000 in
noncomputable def sX12_one_3_b229 (y3_229 : Int32) (y4_229 : Int32) (fp_229 : sg_F) (L : sg_L) : Int32 × sg_F :=
  spl (α := Int32) (fp_229 0 15) fun (v_10 : Int32) =>
  spl (α := Int32) (fp_229 0 13) fun (v_13 : Int32) =>
  spl (α := Int32) (fp_229 0 16) fun (v_16 : Int32) =>
  if y4_229.toInt = 0 then (
    spl2 (sX12_wrong fp_229 L) fun (r_28 : Int32) (f_25 : sg_F) =>
    spl (α := Int32) (f_25 0 15) fun (v_31 : Int32) =>
    ((0 : Int32), f_25)) else (
    ((y3_229 : Int32), fp_229))
set_option maxRecDepth 100000 in
noncomputable def sX12_one_3_h176 (rec_176 : Int32 → Int32 → sg_F → sg_L → Int32 × sg_F) (y3_176 : Int32) (y4_176 : Int32) (fp_176 : sg_F) (L : sg_L) : Int32 × sg_F :=
  spl (α := Int32) (fp_176 0 15) fun (v_38 : Int32) =>
  spl (α := Int32) (fp_176 0 13) fun (v_41 : Int32) =>
  spl (α := Int32) (fp_176 0 16) fun (v_44 : Int32) =>
  if y4_176.toInt < 4 then (
    spl (α := Int32) (fp_176 0 14) fun (v_50 : Int32) =>
    spl (sX12_byteAt fp_176 L) fun (r_56 : Int32) =>
    if r_56.toInt < 48 then (
      sX12_one_3_b229 y3_176 y4_176 fp_176 L) else (
      if 57 < r_56.toInt then (
        sX12_one_3_b229 y3_176 y4_176 fp_176 L) else (
        spl (α := Int32) (10 * y3_176) fun (v_71 : Int32) =>
        spl (α := Int32) (v_71 + r_56) fun (v_80 : Int32) =>
        spl (α := Int32) (v_80 - 48) fun (v_81 : Int32) =>
        spl (α := Int32) (y4_176 + 1) fun (v_82 : Int32) =>
        spl (α := Int32) (v_41 + 1) fun (v_84 : Int32) =>
        spl (α := sg_F) (sg_up fp_176 0 (sgu (fp_176 0) 13 v_84)) fun (f_86 : sg_F) =>
        rec_176 v_81 v_82 f_86 L))) else (
    sX12_one_3_b229 y3_176 y4_176 fp_176 L)
set_option maxRecDepth 100000 in
noncomputable def sX12_one_3_l176 (n : Nat) : Int32 → Int32 → sg_F → sg_L → Int32 × sg_F :=
  Nat.rec (motive := fun _ => Int32 → Int32 → sg_F → sg_L → Int32 × sg_F) (fun _ _ f L => ((0 : Int32), f)) (fun _ r => sX12_one_3_h176 r) n
set_option maxRecDepth 100000 in
noncomputable def sX12_one_3 (f : sg_F) (L : sg_L) : Int32 × sg_F :=
  spl (α := Int32) (f 0 16) fun (v_1 : Int32) =>
  spl (α := Int32) (f 0 15) fun (v_3 : Int32) =>
  spl (α := Int32) (f 0 13) fun (v_5 : Int32) =>
  if v_3.toInt < 0 then (
    spl (α := Int32) (f 0 14) fun (v_90 : Int32) =>
    spl (sX12_byteAt f L) fun (r_96 : Int32) =>
    if r_96.toInt = 33 then (
      spl (α := sg_F) (sg_up f 0 (sgu (f 0) 16 4)) fun (f_102 : sg_F) =>
      spl (α := Int32) (v_5 + 1) fun (v_103 : Int32) =>
      spl (α := sg_F) (sg_up f_102 0 (sgu (f_102 0) 13 v_103)) fun (f_105 : sg_F) =>
      spl2 (sX12_one_4 f_105 L) fun (r_115 : Int32) (f_112 : sg_F) =>
      spl (α := Int32) (f_112 0 13) fun (v_120 : Int32) =>
      spl (α := Int32) (f_112 0 16) fun (v_123 : Int32) =>
      spl (α := Int32) (f_112 0 15) fun (v_126 : Int32) =>
      spl (α := Int32) (v_123 - 1) fun (v_132 : Int32) =>
      spl (α := sg_F) (sg_up f_112 0 (sgu (f_112 0) 16 v_132)) fun (f_134 : sg_F) =>
      if r_115.toInt = 0 then (
        ((1 : Int32), f_134)) else (
        ((0 : Int32), f_134))) else (
      if r_96.toInt = 45 then (
        spl (α := sg_F) (sg_up f 0 (sgu (f 0) 16 4)) fun (f_152 : sg_F) =>
        spl (α := Int32) (v_5 + 1) fun (v_153 : Int32) =>
        spl (α := sg_F) (sg_up f_152 0 (sgu (f_152 0) 13 v_153)) fun (f_155 : sg_F) =>
        spl2 (sX12_one_4 f_155 L) fun (r_165 : Int32) (f_162 : sg_F) =>
        spl (α := Int32) (f_162 0 13) fun (v_170 : Int32) =>
        spl (α := Int32) (f_162 0 16) fun (v_173 : Int32) =>
        spl (α := Int32) (f_162 0 15) fun (v_176 : Int32) =>
        spl (α := Int32) (v_173 - 1) fun (v_182 : Int32) =>
        spl (α := sg_F) (sg_up f_162 0 (sgu (f_162 0) 16 v_182)) fun (f_184 : sg_F) =>
        spl (α := Int32) ((-r_165)) fun (v_189 : Int32) =>
        ((v_189 : Int32), f_184)) else (
        if r_96.toInt = 40 then (
          spl (α := sg_F) (sg_up f 0 (sgu (f 0) 16 4)) fun (f_214 : sg_F) =>
          spl (α := Int32) (v_5 + 1) fun (v_215 : Int32) =>
          spl (α := sg_F) (sg_up f_214 0 (sgu (f_214 0) 13 v_215)) fun (f_217 : sg_F) =>
          spl2 (sX12_either_4 f_217 L) fun (r_227 : Int32) (f_224 : sg_F) =>
          spl (α := Int32) (f_224 0 13) fun (v_232 : Int32) =>
          spl (α := Int32) (f_224 0 16) fun (v_235 : Int32) =>
          spl (α := Int32) (f_224 0 15) fun (v_238 : Int32) =>
          spl2 (sX12_takes_41 f_224 L) fun (r_252 : Int32) (f_249 : sg_F) =>
          spl (α := Int32) (f_249 0 13) fun (v_254 : Int32) =>
          if r_252 = 1 then (
            spl (α := Int32) (v_235 - 1) fun (v_260 : Int32) =>
            spl (α := sg_F) (sg_up f_249 0 (sgu (f_249 0) 16 v_260)) fun (f_262 : sg_F) =>
            ((r_227 : Int32), f_262)) else (
            spl2 (sX12_wrong f_249 L) fun (r_272 : Int32) (f_269 : sg_F) =>
            spl (α := Int32) (f_269 0 15) fun (v_275 : Int32) =>
            ((0 : Int32), f_269))) else (
          spl (sX12_nameOf r_96 f L) fun (r_199 : Int32) =>
          if r_199.toInt < 0 then (
            sX12_one_3_l176 5 0 0 f L) else (
            spl (α := Int32) (v_5 + 1) fun (v_204 : Int32) =>
            spl (α := sg_F) (sg_up f 0 (sgu (f 0) 13 v_204)) fun (f_206 : sg_F) =>
            spl (α := Int32) (f_206 8 (Int32.toNatClampNeg r_199)) fun (v_207 : Int32) =>
            ((v_207 : Int32), f_206)))))) else (
    ((0 : Int32), f))
set_option maxRecDepth 100000 in
noncomputable def sX12_product_3_h10 (rec_10 : Int32 → Int32 → sg_F → sg_L → Int32 × sg_F) (y1_10 : Int32) (y2_10 : Int32) (fp_10 : sg_F) (L : sg_L) : Int32 × sg_F :=
  spl (α := Int32) (fp_10 0 13) fun (v_13 : Int32) =>
  spl (α := Int32) (fp_10 0 16) fun (v_16 : Int32) =>
  spl (α := Int32) (fp_10 0 15) fun (v_19 : Int32) =>
  spl (α := Int32) (fp_10 0 14) fun (v_22 : Int32) =>
  if v_19.toInt < 0 then (
    if y2_10.toInt = 42 then (
      spl (α := Int32) (v_13 + 1) fun (v_33 : Int32) =>
      spl (α := sg_F) (sg_up fp_10 0 (sgu (fp_10 0) 13 v_33)) fun (f_35 : sg_F) =>
      spl2 (sX12_one_3 f_35 L) fun (r_43 : Int32) (f_40 : sg_F) =>
      spl (α := Int32) (f_40 0 13) fun (v_48 : Int32) =>
      spl (α := Int32) (f_40 0 16) fun (v_51 : Int32) =>
      spl (α := Int32) (f_40 0 15) fun (v_54 : Int32) =>
      spl (α := Int32) (y1_10 * r_43) fun (v_60 : Int32) =>
      spl (sX12_byteAt f_40 L) fun (r_66 : Int32) =>
      rec_10 v_60 r_66 f_40 L) else (
      if y2_10.toInt = 47 then (
        spl (α := Int32) (v_13 + 1) fun (v_71 : Int32) =>
        spl (α := sg_F) (sg_up fp_10 0 (sgu (fp_10 0) 13 v_71)) fun (f_73 : sg_F) =>
        spl2 (sX12_one_3 f_73 L) fun (r_81 : Int32) (f_78 : sg_F) =>
        spl (α := Int32) (f_78 0 13) fun (v_86 : Int32) =>
        spl (α := Int32) (f_78 0 16) fun (v_89 : Int32) =>
        spl (α := Int32) (f_78 0 15) fun (v_92 : Int32) =>
        if r_81.toInt = 0 then (
          spl (sX12_byteAt f_78 L) fun (r_116 : Int32) =>
          rec_10 0 r_116 f_78 L) else (
          spl (α := Int32) (y1_10 / r_81) fun (v_102 : Int32) =>
          spl (sX12_byteAt f_78 L) fun (r_108 : Int32) =>
          rec_10 v_102 r_108 f_78 L)) else (
        if y2_10.toInt = 37 then (
          spl (α := Int32) (v_13 + 1) fun (v_125 : Int32) =>
          spl (α := sg_F) (sg_up fp_10 0 (sgu (fp_10 0) 13 v_125)) fun (f_127 : sg_F) =>
          spl2 (sX12_one_3 f_127 L) fun (r_135 : Int32) (f_132 : sg_F) =>
          spl (α := Int32) (f_132 0 13) fun (v_140 : Int32) =>
          spl (α := Int32) (f_132 0 16) fun (v_143 : Int32) =>
          spl (α := Int32) (f_132 0 15) fun (v_146 : Int32) =>
          if r_135.toInt = 0 then (
            spl (sX12_byteAt f_132 L) fun (r_170 : Int32) =>
            rec_10 0 r_170 f_132 L) else (
            spl (α := Int32) (y1_10 - y1_10 / r_135 * r_135) fun (v_156 : Int32) =>
            spl (sX12_byteAt f_132 L) fun (r_162 : Int32) =>
            rec_10 v_156 r_162 f_132 L)) else (
          ((y1_10 : Int32), fp_10))))) else (
    ((y1_10 : Int32), fp_10))
set_option maxRecDepth 100000 in
noncomputable def sX12_product_3_l10 (n : Nat) : Int32 → Int32 → sg_F → sg_L → Int32 × sg_F :=
  Nat.rec (motive := fun _ => Int32 → Int32 → sg_F → sg_L → Int32 × sg_F) (fun _ _ f L => ((0 : Int32), f)) (fun _ r => sX12_product_3_h10 r) n
set_option maxRecDepth 100000 in
noncomputable def sX12_product_3 (f : sg_F) (L : sg_L) : Int32 × sg_F :=
  spl (α := Int32) (f 0 16) fun (v_1 : Int32) =>
  spl (α := Int32) (f 0 15) fun (v_3 : Int32) =>
  spl (α := Int32) (f 0 13) fun (v_5 : Int32) =>
  spl (α := Int32) (f 0 14) fun (v_7 : Int32) =>
  spl2 (sX12_one_3 f L) fun (r_180 : Int32) (f_177 : sg_F) =>
  spl (α := Int32) (f_177 0 13) fun (v_185 : Int32) =>
  spl (α := Int32) (f_177 0 16) fun (v_188 : Int32) =>
  spl (α := Int32) (f_177 0 15) fun (v_191 : Int32) =>
  spl (sX12_byteAt f_177 L) fun (r_200 : Int32) =>
  sX12_product_3_l10 121 r_180 r_200 f_177 L
set_option maxRecDepth 100000 in
noncomputable def sX12_sums_3_h5 (rec_5 : Int32 → sg_F → sg_L → Int32 × sg_F) (y1_5 : Int32) (fp_5 : sg_F) (L : sg_L) : Int32 × sg_F :=
  spl (α := Int32) (fp_5 0 13) fun (v_10 : Int32) =>
  spl (α := Int32) (fp_5 0 16) fun (v_13 : Int32) =>
  spl (α := Int32) (fp_5 0 15) fun (v_16 : Int32) =>
  if v_16.toInt < 0 then (
    spl (α := Int32) (fp_5 0 14) fun (v_26 : Int32) =>
    spl (sX12_byteAt fp_5 L) fun (r_32 : Int32) =>
    if r_32.toInt = 43 then (
      spl (α := Int32) (v_10 + 1) fun (v_47 : Int32) =>
      spl (α := sg_F) (sg_up fp_5 0 (sgu (fp_5 0) 13 v_47)) fun (f_49 : sg_F) =>
      spl2 (sX12_product_3 f_49 L) fun (r_57 : Int32) (f_54 : sg_F) =>
      spl (α := Int32) (f_54 0 13) fun (v_62 : Int32) =>
      spl (α := Int32) (f_54 0 16) fun (v_65 : Int32) =>
      spl (α := Int32) (f_54 0 15) fun (v_68 : Int32) =>
      spl (α := Int32) (y1_5 + r_57) fun (v_72 : Int32) =>
      rec_5 v_72 f_54 L) else (
      if r_32.toInt = 45 then (
        spl (α := Int32) (v_10 + 1) fun (v_97 : Int32) =>
        spl (α := sg_F) (sg_up fp_5 0 (sgu (fp_5 0) 13 v_97)) fun (f_99 : sg_F) =>
        spl2 (sX12_product_3 f_99 L) fun (r_107 : Int32) (f_104 : sg_F) =>
        spl (α := Int32) (f_104 0 13) fun (v_112 : Int32) =>
        spl (α := Int32) (f_104 0 16) fun (v_115 : Int32) =>
        spl (α := Int32) (f_104 0 15) fun (v_118 : Int32) =>
        spl (α := Int32) (y1_5 - r_107) fun (v_122 : Int32) =>
        rec_5 v_122 f_104 L) else (
        ((y1_5 : Int32), fp_5)))) else (
    ((y1_5 : Int32), fp_5))
set_option maxRecDepth 100000 in
noncomputable def sX12_sums_3_l5 (n : Nat) : Int32 → sg_F → sg_L → Int32 × sg_F :=
  Nat.rec (motive := fun _ => Int32 → sg_F → sg_L → Int32 × sg_F) (fun _ f L => ((0 : Int32), f)) (fun _ r => sX12_sums_3_h5 r) n
set_option maxRecDepth 100000 in
noncomputable def sX12_sums_3 (f : sg_F) (L : sg_L) : Int32 × sg_F :=
  spl (α := Int32) (f 0 16) fun (v_1 : Int32) =>
  spl (α := Int32) (f 0 15) fun (v_3 : Int32) =>
  spl (α := Int32) (f 0 13) fun (v_5 : Int32) =>
  spl2 (sX12_product_3 f L) fun (r_130 : Int32) (f_127 : sg_F) =>
  spl (α := Int32) (f_127 0 13) fun (v_135 : Int32) =>
  spl (α := Int32) (f_127 0 16) fun (v_138 : Int32) =>
  spl (α := Int32) (f_127 0 15) fun (v_141 : Int32) =>
  sX12_sums_3_l5 121 r_130 f_127 L
set_option maxRecDepth 100000 in
noncomputable def sX12_compared_3 (f : sg_F) (L : sg_L) : Int32 × sg_F :=
  spl (α := Int32) (f 0 16) fun (v_1 : Int32) =>
  spl (α := Int32) (f 0 15) fun (v_3 : Int32) =>
  spl (α := Int32) (f 0 13) fun (v_5 : Int32) =>
  spl2 (sX12_sums_3 f L) fun (r_17 : Int32) (f_14 : sg_F) =>
  spl (α := Int32) (f_14 0 13) fun (v_22 : Int32) =>
  spl (α := Int32) (f_14 0 16) fun (v_25 : Int32) =>
  spl (α := Int32) (f_14 0 15) fun (v_28 : Int32) =>
  spl (α := Int32) (f_14 0 14) fun (v_33 : Int32) =>
  spl (sX12_byteAt f_14 L) fun (r_39 : Int32) =>
  if v_28.toInt < 0 then (
    if r_39.toInt = 60 then (
      spl (α := Int32) (v_22 + 1) fun (v_50 : Int32) =>
      spl (α := sg_F) (sg_up f_14 0 (sgu (f_14 0) 13 v_50)) fun (f_52 : sg_F) =>
      spl2 (sX12_sums_3 f_52 L) fun (r_60 : Int32) (f_57 : sg_F) =>
      spl (α := Int32) (f_57 0 13) fun (v_65 : Int32) =>
      spl (α := Int32) (f_57 0 16) fun (v_68 : Int32) =>
      spl (α := Int32) (f_57 0 15) fun (v_71 : Int32) =>
      if r_17.toInt < r_60.toInt then (
        ((1 : Int32), f_57)) else (
        ((0 : Int32), f_57))) else (
      if r_39.toInt = 61 then (
        spl (α := Int32) (v_22 + 1) fun (v_89 : Int32) =>
        spl (α := sg_F) (sg_up f_14 0 (sgu (f_14 0) 13 v_89)) fun (f_91 : sg_F) =>
        spl2 (sX12_sums_3 f_91 L) fun (r_99 : Int32) (f_96 : sg_F) =>
        spl (α := Int32) (f_96 0 13) fun (v_104 : Int32) =>
        spl (α := Int32) (f_96 0 16) fun (v_107 : Int32) =>
        spl (α := Int32) (f_96 0 15) fun (v_110 : Int32) =>
        if r_17.toInt = r_99.toInt then (
          ((1 : Int32), f_96)) else (
          ((0 : Int32), f_96))) else (
        if r_39.toInt = 62 then (
          spl (α := Int32) (v_22 + 1) fun (v_130 : Int32) =>
          spl (α := sg_F) (sg_up f_14 0 (sgu (f_14 0) 13 v_130)) fun (f_132 : sg_F) =>
          spl2 (sX12_sums_3 f_132 L) fun (r_140 : Int32) (f_137 : sg_F) =>
          spl (α := Int32) (f_137 0 13) fun (v_145 : Int32) =>
          spl (α := Int32) (f_137 0 16) fun (v_148 : Int32) =>
          spl (α := Int32) (f_137 0 15) fun (v_151 : Int32) =>
          if r_140.toInt < r_17.toInt then (
            ((1 : Int32), f_137)) else (
            ((0 : Int32), f_137))) else (
          ((r_17 : Int32), f_14))))) else (
    ((r_17 : Int32), f_14))
set_option maxRecDepth 100000 in
noncomputable def sX12_both_3_h5 (rec_5 : Int32 → sg_F → sg_L → Int32 × sg_F) (y1_5 : Int32) (fp_5 : sg_F) (L : sg_L) : Int32 × sg_F :=
  spl (α := Int32) (fp_5 0 13) fun (v_10 : Int32) =>
  spl (α := Int32) (fp_5 0 16) fun (v_13 : Int32) =>
  spl (α := Int32) (fp_5 0 15) fun (v_16 : Int32) =>
  spl (α := Int32) (fp_5 0 14) fun (v_21 : Int32) =>
  spl2 (sX12_takes_38 fp_5 L) fun (r_29 : Int32) (f_26 : sg_F) =>
  spl (α := Int32) (f_26 0 13) fun (v_31 : Int32) =>
  if r_29 = 1 then (
    spl2 (sX12_compared_3 f_26 L) fun (r_44 : Int32) (f_41 : sg_F) =>
    spl (α := Int32) (f_41 0 13) fun (v_49 : Int32) =>
    spl (α := Int32) (f_41 0 16) fun (v_52 : Int32) =>
    spl (α := Int32) (f_41 0 15) fun (v_55 : Int32) =>
    if y1_5.toInt = 0 then (
      rec_5 0 f_41 L) else (
      if r_44.toInt = 0 then (
        rec_5 0 f_41 L) else (
        rec_5 1 f_41 L))) else (
    ((y1_5 : Int32), f_26))
set_option maxRecDepth 100000 in
noncomputable def sX12_both_3_l5 (n : Nat) : Int32 → sg_F → sg_L → Int32 × sg_F :=
  Nat.rec (motive := fun _ => Int32 → sg_F → sg_L → Int32 × sg_F) (fun _ f L => ((0 : Int32), f)) (fun _ r => sX12_both_3_h5 r) n
set_option maxRecDepth 100000 in
noncomputable def sX12_both_3 (f : sg_F) (L : sg_L) : Int32 × sg_F :=
  spl (α := Int32) (f 0 16) fun (v_1 : Int32) =>
  spl (α := Int32) (f 0 15) fun (v_3 : Int32) =>
  spl (α := Int32) (f 0 13) fun (v_5 : Int32) =>
  spl2 (sX12_compared_3 f L) fun (r_74 : Int32) (f_71 : sg_F) =>
  spl (α := Int32) (f_71 0 13) fun (v_79 : Int32) =>
  spl (α := Int32) (f_71 0 16) fun (v_82 : Int32) =>
  spl (α := Int32) (f_71 0 15) fun (v_85 : Int32) =>
  sX12_both_3_l5 121 r_74 f_71 L
set_option maxRecDepth 100000 in
noncomputable def sX12_either_3_h5 (rec_5 : Int32 → sg_F → sg_L → Int32 × sg_F) (y1_5 : Int32) (fp_5 : sg_F) (L : sg_L) : Int32 × sg_F :=
  spl (α := Int32) (fp_5 0 13) fun (v_10 : Int32) =>
  spl (α := Int32) (fp_5 0 16) fun (v_13 : Int32) =>
  spl (α := Int32) (fp_5 0 15) fun (v_16 : Int32) =>
  spl (α := Int32) (fp_5 0 14) fun (v_21 : Int32) =>
  spl2 (sX12_takes_124 fp_5 L) fun (r_29 : Int32) (f_26 : sg_F) =>
  spl (α := Int32) (f_26 0 13) fun (v_31 : Int32) =>
  if r_29 = 1 then (
    spl2 (sX12_both_3 f_26 L) fun (r_44 : Int32) (f_41 : sg_F) =>
    spl (α := Int32) (f_41 0 13) fun (v_49 : Int32) =>
    spl (α := Int32) (f_41 0 16) fun (v_52 : Int32) =>
    spl (α := Int32) (f_41 0 15) fun (v_55 : Int32) =>
    if y1_5.toInt = 0 then (
      if r_44.toInt = 0 then (
        rec_5 0 f_41 L) else (
        rec_5 1 f_41 L)) else (
      rec_5 1 f_41 L)) else (
    ((y1_5 : Int32), f_26))
set_option maxRecDepth 100000 in
noncomputable def sX12_either_3_l5 (n : Nat) : Int32 → sg_F → sg_L → Int32 × sg_F :=
  Nat.rec (motive := fun _ => Int32 → sg_F → sg_L → Int32 × sg_F) (fun _ f L => ((0 : Int32), f)) (fun _ r => sX12_either_3_h5 r) n
set_option maxRecDepth 100000 in
noncomputable def sX12_either_3 (f : sg_F) (L : sg_L) : Int32 × sg_F :=
  spl (α := Int32) (f 0 16) fun (v_1 : Int32) =>
  spl (α := Int32) (f 0 15) fun (v_3 : Int32) =>
  spl (α := Int32) (f 0 13) fun (v_5 : Int32) =>
  spl2 (sX12_both_3 f L) fun (r_74 : Int32) (f_71 : sg_F) =>
  spl (α := Int32) (f_71 0 13) fun (v_79 : Int32) =>
  spl (α := Int32) (f_71 0 16) fun (v_82 : Int32) =>
  spl (α := Int32) (f_71 0 15) fun (v_85 : Int32) =>
  sX12_either_3_l5 121 r_74 f_71 L
set_option maxRecDepth 100000 in
noncomputable def sX12_one_2_b229 (y3_229 : Int32) (y4_229 : Int32) (fp_229 : sg_F) (L : sg_L) : Int32 × sg_F :=
  spl (α := Int32) (fp_229 0 15) fun (v_10 : Int32) =>
  spl (α := Int32) (fp_229 0 13) fun (v_13 : Int32) =>
  spl (α := Int32) (fp_229 0 16) fun (v_16 : Int32) =>
  if y4_229.toInt = 0 then (
    spl2 (sX12_wrong fp_229 L) fun (r_28 : Int32) (f_25 : sg_F) =>
    spl (α := Int32) (f_25 0 15) fun (v_31 : Int32) =>
    ((0 : Int32), f_25)) else (
    ((y3_229 : Int32), fp_229))
set_option maxRecDepth 100000 in
noncomputable def sX12_one_2_h176 (rec_176 : Int32 → Int32 → sg_F → sg_L → Int32 × sg_F) (y3_176 : Int32) (y4_176 : Int32) (fp_176 : sg_F) (L : sg_L) : Int32 × sg_F :=
  spl (α := Int32) (fp_176 0 15) fun (v_38 : Int32) =>
  spl (α := Int32) (fp_176 0 13) fun (v_41 : Int32) =>
  spl (α := Int32) (fp_176 0 16) fun (v_44 : Int32) =>
  if y4_176.toInt < 4 then (
    spl (α := Int32) (fp_176 0 14) fun (v_50 : Int32) =>
    spl (sX12_byteAt fp_176 L) fun (r_56 : Int32) =>
    if r_56.toInt < 48 then (
      sX12_one_2_b229 y3_176 y4_176 fp_176 L) else (
      if 57 < r_56.toInt then (
        sX12_one_2_b229 y3_176 y4_176 fp_176 L) else (
        spl (α := Int32) (10 * y3_176) fun (v_71 : Int32) =>
        spl (α := Int32) (v_71 + r_56) fun (v_80 : Int32) =>
        spl (α := Int32) (v_80 - 48) fun (v_81 : Int32) =>
        spl (α := Int32) (y4_176 + 1) fun (v_82 : Int32) =>
        spl (α := Int32) (v_41 + 1) fun (v_84 : Int32) =>
        spl (α := sg_F) (sg_up fp_176 0 (sgu (fp_176 0) 13 v_84)) fun (f_86 : sg_F) =>
        rec_176 v_81 v_82 f_86 L))) else (
    sX12_one_2_b229 y3_176 y4_176 fp_176 L)
set_option maxRecDepth 100000 in
noncomputable def sX12_one_2_l176 (n : Nat) : Int32 → Int32 → sg_F → sg_L → Int32 × sg_F :=
  Nat.rec (motive := fun _ => Int32 → Int32 → sg_F → sg_L → Int32 × sg_F) (fun _ _ f L => ((0 : Int32), f)) (fun _ r => sX12_one_2_h176 r) n
set_option maxRecDepth 100000 in
noncomputable def sX12_one_2 (f : sg_F) (L : sg_L) : Int32 × sg_F :=
  spl (α := Int32) (f 0 16) fun (v_1 : Int32) =>
  spl (α := Int32) (f 0 15) fun (v_3 : Int32) =>
  spl (α := Int32) (f 0 13) fun (v_5 : Int32) =>
  if v_3.toInt < 0 then (
    spl (α := Int32) (f 0 14) fun (v_90 : Int32) =>
    spl (sX12_byteAt f L) fun (r_96 : Int32) =>
    if r_96.toInt = 33 then (
      spl (α := sg_F) (sg_up f 0 (sgu (f 0) 16 3)) fun (f_102 : sg_F) =>
      spl (α := Int32) (v_5 + 1) fun (v_103 : Int32) =>
      spl (α := sg_F) (sg_up f_102 0 (sgu (f_102 0) 13 v_103)) fun (f_105 : sg_F) =>
      spl2 (sX12_one_3 f_105 L) fun (r_115 : Int32) (f_112 : sg_F) =>
      spl (α := Int32) (f_112 0 13) fun (v_120 : Int32) =>
      spl (α := Int32) (f_112 0 16) fun (v_123 : Int32) =>
      spl (α := Int32) (f_112 0 15) fun (v_126 : Int32) =>
      spl (α := Int32) (v_123 - 1) fun (v_132 : Int32) =>
      spl (α := sg_F) (sg_up f_112 0 (sgu (f_112 0) 16 v_132)) fun (f_134 : sg_F) =>
      if r_115.toInt = 0 then (
        ((1 : Int32), f_134)) else (
        ((0 : Int32), f_134))) else (
      if r_96.toInt = 45 then (
        spl (α := sg_F) (sg_up f 0 (sgu (f 0) 16 3)) fun (f_152 : sg_F) =>
        spl (α := Int32) (v_5 + 1) fun (v_153 : Int32) =>
        spl (α := sg_F) (sg_up f_152 0 (sgu (f_152 0) 13 v_153)) fun (f_155 : sg_F) =>
        spl2 (sX12_one_3 f_155 L) fun (r_165 : Int32) (f_162 : sg_F) =>
        spl (α := Int32) (f_162 0 13) fun (v_170 : Int32) =>
        spl (α := Int32) (f_162 0 16) fun (v_173 : Int32) =>
        spl (α := Int32) (f_162 0 15) fun (v_176 : Int32) =>
        spl (α := Int32) (v_173 - 1) fun (v_182 : Int32) =>
        spl (α := sg_F) (sg_up f_162 0 (sgu (f_162 0) 16 v_182)) fun (f_184 : sg_F) =>
        spl (α := Int32) ((-r_165)) fun (v_189 : Int32) =>
        ((v_189 : Int32), f_184)) else (
        if r_96.toInt = 40 then (
          spl (α := sg_F) (sg_up f 0 (sgu (f 0) 16 3)) fun (f_214 : sg_F) =>
          spl (α := Int32) (v_5 + 1) fun (v_215 : Int32) =>
          spl (α := sg_F) (sg_up f_214 0 (sgu (f_214 0) 13 v_215)) fun (f_217 : sg_F) =>
          spl2 (sX12_either_3 f_217 L) fun (r_227 : Int32) (f_224 : sg_F) =>
          spl (α := Int32) (f_224 0 13) fun (v_232 : Int32) =>
          spl (α := Int32) (f_224 0 16) fun (v_235 : Int32) =>
          spl (α := Int32) (f_224 0 15) fun (v_238 : Int32) =>
          spl2 (sX12_takes_41 f_224 L) fun (r_252 : Int32) (f_249 : sg_F) =>
          spl (α := Int32) (f_249 0 13) fun (v_254 : Int32) =>
          if r_252 = 1 then (
            spl (α := Int32) (v_235 - 1) fun (v_260 : Int32) =>
            spl (α := sg_F) (sg_up f_249 0 (sgu (f_249 0) 16 v_260)) fun (f_262 : sg_F) =>
            ((r_227 : Int32), f_262)) else (
            spl2 (sX12_wrong f_249 L) fun (r_272 : Int32) (f_269 : sg_F) =>
            spl (α := Int32) (f_269 0 15) fun (v_275 : Int32) =>
            ((0 : Int32), f_269))) else (
          spl (sX12_nameOf r_96 f L) fun (r_199 : Int32) =>
          if r_199.toInt < 0 then (
            sX12_one_2_l176 5 0 0 f L) else (
            spl (α := Int32) (v_5 + 1) fun (v_204 : Int32) =>
            spl (α := sg_F) (sg_up f 0 (sgu (f 0) 13 v_204)) fun (f_206 : sg_F) =>
            spl (α := Int32) (f_206 8 (Int32.toNatClampNeg r_199)) fun (v_207 : Int32) =>
            ((v_207 : Int32), f_206)))))) else (
    ((0 : Int32), f))
set_option maxRecDepth 100000 in
noncomputable def sX12_product_2_h10 (rec_10 : Int32 → Int32 → sg_F → sg_L → Int32 × sg_F) (y1_10 : Int32) (y2_10 : Int32) (fp_10 : sg_F) (L : sg_L) : Int32 × sg_F :=
  spl (α := Int32) (fp_10 0 13) fun (v_13 : Int32) =>
  spl (α := Int32) (fp_10 0 16) fun (v_16 : Int32) =>
  spl (α := Int32) (fp_10 0 15) fun (v_19 : Int32) =>
  spl (α := Int32) (fp_10 0 14) fun (v_22 : Int32) =>
  if v_19.toInt < 0 then (
    if y2_10.toInt = 42 then (
      spl (α := Int32) (v_13 + 1) fun (v_33 : Int32) =>
      spl (α := sg_F) (sg_up fp_10 0 (sgu (fp_10 0) 13 v_33)) fun (f_35 : sg_F) =>
      spl2 (sX12_one_2 f_35 L) fun (r_43 : Int32) (f_40 : sg_F) =>
      spl (α := Int32) (f_40 0 13) fun (v_48 : Int32) =>
      spl (α := Int32) (f_40 0 16) fun (v_51 : Int32) =>
      spl (α := Int32) (f_40 0 15) fun (v_54 : Int32) =>
      spl (α := Int32) (y1_10 * r_43) fun (v_60 : Int32) =>
      spl (sX12_byteAt f_40 L) fun (r_66 : Int32) =>
      rec_10 v_60 r_66 f_40 L) else (
      if y2_10.toInt = 47 then (
        spl (α := Int32) (v_13 + 1) fun (v_71 : Int32) =>
        spl (α := sg_F) (sg_up fp_10 0 (sgu (fp_10 0) 13 v_71)) fun (f_73 : sg_F) =>
        spl2 (sX12_one_2 f_73 L) fun (r_81 : Int32) (f_78 : sg_F) =>
        spl (α := Int32) (f_78 0 13) fun (v_86 : Int32) =>
        spl (α := Int32) (f_78 0 16) fun (v_89 : Int32) =>
        spl (α := Int32) (f_78 0 15) fun (v_92 : Int32) =>
        if r_81.toInt = 0 then (
          spl (sX12_byteAt f_78 L) fun (r_116 : Int32) =>
          rec_10 0 r_116 f_78 L) else (
          spl (α := Int32) (y1_10 / r_81) fun (v_102 : Int32) =>
          spl (sX12_byteAt f_78 L) fun (r_108 : Int32) =>
          rec_10 v_102 r_108 f_78 L)) else (
        if y2_10.toInt = 37 then (
          spl (α := Int32) (v_13 + 1) fun (v_125 : Int32) =>
          spl (α := sg_F) (sg_up fp_10 0 (sgu (fp_10 0) 13 v_125)) fun (f_127 : sg_F) =>
          spl2 (sX12_one_2 f_127 L) fun (r_135 : Int32) (f_132 : sg_F) =>
          spl (α := Int32) (f_132 0 13) fun (v_140 : Int32) =>
          spl (α := Int32) (f_132 0 16) fun (v_143 : Int32) =>
          spl (α := Int32) (f_132 0 15) fun (v_146 : Int32) =>
          if r_135.toInt = 0 then (
            spl (sX12_byteAt f_132 L) fun (r_170 : Int32) =>
            rec_10 0 r_170 f_132 L) else (
            spl (α := Int32) (y1_10 - y1_10 / r_135 * r_135) fun (v_156 : Int32) =>
            spl (sX12_byteAt f_132 L) fun (r_162 : Int32) =>
            rec_10 v_156 r_162 f_132 L)) else (
          ((y1_10 : Int32), fp_10))))) else (
    ((y1_10 : Int32), fp_10))
set_option maxRecDepth 100000 in
noncomputable def sX12_product_2_l10 (n : Nat) : Int32 → Int32 → sg_F → sg_L → Int32 × sg_F :=
  Nat.rec (motive := fun _ => Int32 → Int32 → sg_F → sg_L → Int32 × sg_F) (fun _ _ f L => ((0 : Int32), f)) (fun _ r => sX12_product_2_h10 r) n
set_option maxRecDepth 100000 in
noncomputable def sX12_product_2 (f : sg_F) (L : sg_L) : Int32 × sg_F :=
  spl (α := Int32) (f 0 16) fun (v_1 : Int32) =>
  spl (α := Int32) (f 0 15) fun (v_3 : Int32) =>
  spl (α := Int32) (f 0 13) fun (v_5 : Int32) =>
  spl (α := Int32) (f 0 14) fun (v_7 : Int32) =>
  spl2 (sX12_one_2 f L) fun (r_180 : Int32) (f_177 : sg_F) =>
  spl (α := Int32) (f_177 0 13) fun (v_185 : Int32) =>
  spl (α := Int32) (f_177 0 16) fun (v_188 : Int32) =>
  spl (α := Int32) (f_177 0 15) fun (v_191 : Int32) =>
  spl (sX12_byteAt f_177 L) fun (r_200 : Int32) =>
  sX12_product_2_l10 121 r_180 r_200 f_177 L
set_option maxRecDepth 100000 in
noncomputable def sX12_sums_2_h5 (rec_5 : Int32 → sg_F → sg_L → Int32 × sg_F) (y1_5 : Int32) (fp_5 : sg_F) (L : sg_L) : Int32 × sg_F :=
  spl (α := Int32) (fp_5 0 13) fun (v_10 : Int32) =>
  spl (α := Int32) (fp_5 0 16) fun (v_13 : Int32) =>
  spl (α := Int32) (fp_5 0 15) fun (v_16 : Int32) =>
  if v_16.toInt < 0 then (
    spl (α := Int32) (fp_5 0 14) fun (v_26 : Int32) =>
    spl (sX12_byteAt fp_5 L) fun (r_32 : Int32) =>
    if r_32.toInt = 43 then (
      spl (α := Int32) (v_10 + 1) fun (v_47 : Int32) =>
      spl (α := sg_F) (sg_up fp_5 0 (sgu (fp_5 0) 13 v_47)) fun (f_49 : sg_F) =>
      spl2 (sX12_product_2 f_49 L) fun (r_57 : Int32) (f_54 : sg_F) =>
      spl (α := Int32) (f_54 0 13) fun (v_62 : Int32) =>
      spl (α := Int32) (f_54 0 16) fun (v_65 : Int32) =>
      spl (α := Int32) (f_54 0 15) fun (v_68 : Int32) =>
      spl (α := Int32) (y1_5 + r_57) fun (v_72 : Int32) =>
      rec_5 v_72 f_54 L) else (
      if r_32.toInt = 45 then (
        spl (α := Int32) (v_10 + 1) fun (v_97 : Int32) =>
        spl (α := sg_F) (sg_up fp_5 0 (sgu (fp_5 0) 13 v_97)) fun (f_99 : sg_F) =>
        spl2 (sX12_product_2 f_99 L) fun (r_107 : Int32) (f_104 : sg_F) =>
        spl (α := Int32) (f_104 0 13) fun (v_112 : Int32) =>
        spl (α := Int32) (f_104 0 16) fun (v_115 : Int32) =>
        spl (α := Int32) (f_104 0 15) fun (v_118 : Int32) =>
        spl (α := Int32) (y1_5 - r_107) fun (v_122 : Int32) =>
        rec_5 v_122 f_104 L) else (
        ((y1_5 : Int32), fp_5)))) else (
    ((y1_5 : Int32), fp_5))
set_option maxRecDepth 100000 in
noncomputable def sX12_sums_2_l5 (n : Nat) : Int32 → sg_F → sg_L → Int32 × sg_F :=
  Nat.rec (motive := fun _ => Int32 → sg_F → sg_L → Int32 × sg_F) (fun _ f L => ((0 : Int32), f)) (fun _ r => sX12_sums_2_h5 r) n
set_option maxRecDepth 100000 in
noncomputable def sX12_sums_2 (f : sg_F) (L : sg_L) : Int32 × sg_F :=
  spl (α := Int32) (f 0 16) fun (v_1 : Int32) =>
  spl (α := Int32) (f 0 15) fun (v_3 : Int32) =>
  spl (α := Int32) (f 0 13) fun (v_5 : Int32) =>
  spl2 (sX12_product_2 f L) fun (r_130 : Int32) (f_127 : sg_F) =>
  spl (α := Int32) (f_127 0 13) fun (v_135 : Int32) =>
  spl (α := Int32) (f_127 0 16) fun (v_138 : Int32) =>
  spl (α := Int32) (f_127 0 15) fun (v_141 : Int32) =>
  sX12_sums_2_l5 121 r_130 f_127 L
set_option maxRecDepth 100000 in
noncomputable def sX12_compared_2 (f : sg_F) (L : sg_L) : Int32 × sg_F :=
  spl (α := Int32) (f 0 16) fun (v_1 : Int32) =>
  spl (α := Int32) (f 0 15) fun (v_3 : Int32) =>
  spl (α := Int32) (f 0 13) fun (v_5 : Int32) =>
  spl2 (sX12_sums_2 f L) fun (r_17 : Int32) (f_14 : sg_F) =>
  spl (α := Int32) (f_14 0 13) fun (v_22 : Int32) =>
  spl (α := Int32) (f_14 0 16) fun (v_25 : Int32) =>
  spl (α := Int32) (f_14 0 15) fun (v_28 : Int32) =>
  spl (α := Int32) (f_14 0 14) fun (v_33 : Int32) =>
  spl (sX12_byteAt f_14 L) fun (r_39 : Int32) =>
  if v_28.toInt < 0 then (
    if r_39.toInt = 60 then (
      spl (α := Int32) (v_22 + 1) fun (v_50 : Int32) =>
      spl (α := sg_F) (sg_up f_14 0 (sgu (f_14 0) 13 v_50)) fun (f_52 : sg_F) =>
      spl2 (sX12_sums_2 f_52 L) fun (r_60 : Int32) (f_57 : sg_F) =>
      spl (α := Int32) (f_57 0 13) fun (v_65 : Int32) =>
      spl (α := Int32) (f_57 0 16) fun (v_68 : Int32) =>
      spl (α := Int32) (f_57 0 15) fun (v_71 : Int32) =>
      if r_17.toInt < r_60.toInt then (
        ((1 : Int32), f_57)) else (
        ((0 : Int32), f_57))) else (
      if r_39.toInt = 61 then (
        spl (α := Int32) (v_22 + 1) fun (v_89 : Int32) =>
        spl (α := sg_F) (sg_up f_14 0 (sgu (f_14 0) 13 v_89)) fun (f_91 : sg_F) =>
        spl2 (sX12_sums_2 f_91 L) fun (r_99 : Int32) (f_96 : sg_F) =>
        spl (α := Int32) (f_96 0 13) fun (v_104 : Int32) =>
        spl (α := Int32) (f_96 0 16) fun (v_107 : Int32) =>
        spl (α := Int32) (f_96 0 15) fun (v_110 : Int32) =>
        if r_17.toInt = r_99.toInt then (
          ((1 : Int32), f_96)) else (
          ((0 : Int32), f_96))) else (
        if r_39.toInt = 62 then (
          spl (α := Int32) (v_22 + 1) fun (v_130 : Int32) =>
          spl (α := sg_F) (sg_up f_14 0 (sgu (f_14 0) 13 v_130)) fun (f_132 : sg_F) =>
          spl2 (sX12_sums_2 f_132 L) fun (r_140 : Int32) (f_137 : sg_F) =>
          spl (α := Int32) (f_137 0 13) fun (v_145 : Int32) =>
          spl (α := Int32) (f_137 0 16) fun (v_148 : Int32) =>
          spl (α := Int32) (f_137 0 15) fun (v_151 : Int32) =>
          if r_140.toInt < r_17.toInt then (
            ((1 : Int32), f_137)) else (
            ((0 : Int32), f_137))) else (
          ((r_17 : Int32), f_14))))) else (
    ((r_17 : Int32), f_14))
set_option maxRecDepth 100000 in
noncomputable def sX12_both_2_h5 (rec_5 : Int32 → sg_F → sg_L → Int32 × sg_F) (y1_5 : Int32) (fp_5 : sg_F) (L : sg_L) : Int32 × sg_F :=
  spl (α := Int32) (fp_5 0 13) fun (v_10 : Int32) =>
  spl (α := Int32) (fp_5 0 16) fun (v_13 : Int32) =>
  spl (α := Int32) (fp_5 0 15) fun (v_16 : Int32) =>
  spl (α := Int32) (fp_5 0 14) fun (v_21 : Int32) =>
  spl2 (sX12_takes_38 fp_5 L) fun (r_29 : Int32) (f_26 : sg_F) =>
  spl (α := Int32) (f_26 0 13) fun (v_31 : Int32) =>
  if r_29 = 1 then (
    spl2 (sX12_compared_2 f_26 L) fun (r_44 : Int32) (f_41 : sg_F) =>
    spl (α := Int32) (f_41 0 13) fun (v_49 : Int32) =>
    spl (α := Int32) (f_41 0 16) fun (v_52 : Int32) =>
    spl (α := Int32) (f_41 0 15) fun (v_55 : Int32) =>
    if y1_5.toInt = 0 then (
      rec_5 0 f_41 L) else (
      if r_44.toInt = 0 then (
        rec_5 0 f_41 L) else (
        rec_5 1 f_41 L))) else (
    ((y1_5 : Int32), f_26))
set_option maxRecDepth 100000 in
noncomputable def sX12_both_2_l5 (n : Nat) : Int32 → sg_F → sg_L → Int32 × sg_F :=
  Nat.rec (motive := fun _ => Int32 → sg_F → sg_L → Int32 × sg_F) (fun _ f L => ((0 : Int32), f)) (fun _ r => sX12_both_2_h5 r) n
set_option maxRecDepth 100000 in
noncomputable def sX12_both_2 (f : sg_F) (L : sg_L) : Int32 × sg_F :=
  spl (α := Int32) (f 0 16) fun (v_1 : Int32) =>
  spl (α := Int32) (f 0 15) fun (v_3 : Int32) =>
  spl (α := Int32) (f 0 13) fun (v_5 : Int32) =>
  spl2 (sX12_compared_2 f L) fun (r_74 : Int32) (f_71 : sg_F) =>
  spl (α := Int32) (f_71 0 13) fun (v_79 : Int32) =>
  spl (α := Int32) (f_71 0 16) fun (v_82 : Int32) =>
  spl (α := Int32) (f_71 0 15) fun (v_85 : Int32) =>
  sX12_both_2_l5 121 r_74 f_71 L
set_option maxRecDepth 100000 in
noncomputable def sX12_either_2_h5 (rec_5 : Int32 → sg_F → sg_L → Int32 × sg_F) (y1_5 : Int32) (fp_5 : sg_F) (L : sg_L) : Int32 × sg_F :=
  spl (α := Int32) (fp_5 0 13) fun (v_10 : Int32) =>
  spl (α := Int32) (fp_5 0 16) fun (v_13 : Int32) =>
  spl (α := Int32) (fp_5 0 15) fun (v_16 : Int32) =>
  spl (α := Int32) (fp_5 0 14) fun (v_21 : Int32) =>
  spl2 (sX12_takes_124 fp_5 L) fun (r_29 : Int32) (f_26 : sg_F) =>
  spl (α := Int32) (f_26 0 13) fun (v_31 : Int32) =>
  if r_29 = 1 then (
    spl2 (sX12_both_2 f_26 L) fun (r_44 : Int32) (f_41 : sg_F) =>
    spl (α := Int32) (f_41 0 13) fun (v_49 : Int32) =>
    spl (α := Int32) (f_41 0 16) fun (v_52 : Int32) =>
    spl (α := Int32) (f_41 0 15) fun (v_55 : Int32) =>
    if y1_5.toInt = 0 then (
      if r_44.toInt = 0 then (
        rec_5 0 f_41 L) else (
        rec_5 1 f_41 L)) else (
      rec_5 1 f_41 L)) else (
    ((y1_5 : Int32), f_26))
set_option maxRecDepth 100000 in
noncomputable def sX12_either_2_l5 (n : Nat) : Int32 → sg_F → sg_L → Int32 × sg_F :=
  Nat.rec (motive := fun _ => Int32 → sg_F → sg_L → Int32 × sg_F) (fun _ f L => ((0 : Int32), f)) (fun _ r => sX12_either_2_h5 r) n
set_option maxRecDepth 100000 in
noncomputable def sX12_either_2 (f : sg_F) (L : sg_L) : Int32 × sg_F :=
  spl (α := Int32) (f 0 16) fun (v_1 : Int32) =>
  spl (α := Int32) (f 0 15) fun (v_3 : Int32) =>
  spl (α := Int32) (f 0 13) fun (v_5 : Int32) =>
  spl2 (sX12_both_2 f L) fun (r_74 : Int32) (f_71 : sg_F) =>
  spl (α := Int32) (f_71 0 13) fun (v_79 : Int32) =>
  spl (α := Int32) (f_71 0 16) fun (v_82 : Int32) =>
  spl (α := Int32) (f_71 0 15) fun (v_85 : Int32) =>
  sX12_either_2_l5 121 r_74 f_71 L
set_option maxRecDepth 100000 in
noncomputable def sX12_one_1_b229 (y3_229 : Int32) (y4_229 : Int32) (fp_229 : sg_F) (L : sg_L) : Int32 × sg_F :=
  spl (α := Int32) (fp_229 0 15) fun (v_10 : Int32) =>
  spl (α := Int32) (fp_229 0 13) fun (v_13 : Int32) =>
  spl (α := Int32) (fp_229 0 16) fun (v_16 : Int32) =>
  if y4_229.toInt = 0 then (
    spl2 (sX12_wrong fp_229 L) fun (r_28 : Int32) (f_25 : sg_F) =>
    spl (α := Int32) (f_25 0 15) fun (v_31 : Int32) =>
    ((0 : Int32), f_25)) else (
    ((y3_229 : Int32), fp_229))
set_option maxRecDepth 100000 in
noncomputable def sX12_one_1_h176 (rec_176 : Int32 → Int32 → sg_F → sg_L → Int32 × sg_F) (y3_176 : Int32) (y4_176 : Int32) (fp_176 : sg_F) (L : sg_L) : Int32 × sg_F :=
  spl (α := Int32) (fp_176 0 15) fun (v_38 : Int32) =>
  spl (α := Int32) (fp_176 0 13) fun (v_41 : Int32) =>
  spl (α := Int32) (fp_176 0 16) fun (v_44 : Int32) =>
  if y4_176.toInt < 4 then (
    spl (α := Int32) (fp_176 0 14) fun (v_50 : Int32) =>
    spl (sX12_byteAt fp_176 L) fun (r_56 : Int32) =>
    if r_56.toInt < 48 then (
      sX12_one_1_b229 y3_176 y4_176 fp_176 L) else (
      if 57 < r_56.toInt then (
        sX12_one_1_b229 y3_176 y4_176 fp_176 L) else (
        spl (α := Int32) (10 * y3_176) fun (v_71 : Int32) =>
        spl (α := Int32) (v_71 + r_56) fun (v_80 : Int32) =>
        spl (α := Int32) (v_80 - 48) fun (v_81 : Int32) =>
        spl (α := Int32) (y4_176 + 1) fun (v_82 : Int32) =>
        spl (α := Int32) (v_41 + 1) fun (v_84 : Int32) =>
        spl (α := sg_F) (sg_up fp_176 0 (sgu (fp_176 0) 13 v_84)) fun (f_86 : sg_F) =>
        rec_176 v_81 v_82 f_86 L))) else (
    sX12_one_1_b229 y3_176 y4_176 fp_176 L)
set_option maxRecDepth 100000 in
noncomputable def sX12_one_1_l176 (n : Nat) : Int32 → Int32 → sg_F → sg_L → Int32 × sg_F :=
  Nat.rec (motive := fun _ => Int32 → Int32 → sg_F → sg_L → Int32 × sg_F) (fun _ _ f L => ((0 : Int32), f)) (fun _ r => sX12_one_1_h176 r) n
set_option maxRecDepth 100000 in
noncomputable def sX12_one_1 (f : sg_F) (L : sg_L) : Int32 × sg_F :=
  spl (α := Int32) (f 0 16) fun (v_1 : Int32) =>
  spl (α := Int32) (f 0 15) fun (v_3 : Int32) =>
  spl (α := Int32) (f 0 13) fun (v_5 : Int32) =>
  if v_3.toInt < 0 then (
    spl (α := Int32) (f 0 14) fun (v_90 : Int32) =>
    spl (sX12_byteAt f L) fun (r_96 : Int32) =>
    if r_96.toInt = 33 then (
      spl (α := sg_F) (sg_up f 0 (sgu (f 0) 16 2)) fun (f_102 : sg_F) =>
      spl (α := Int32) (v_5 + 1) fun (v_103 : Int32) =>
      spl (α := sg_F) (sg_up f_102 0 (sgu (f_102 0) 13 v_103)) fun (f_105 : sg_F) =>
      spl2 (sX12_one_2 f_105 L) fun (r_115 : Int32) (f_112 : sg_F) =>
      spl (α := Int32) (f_112 0 13) fun (v_120 : Int32) =>
      spl (α := Int32) (f_112 0 16) fun (v_123 : Int32) =>
      spl (α := Int32) (f_112 0 15) fun (v_126 : Int32) =>
      spl (α := Int32) (v_123 - 1) fun (v_132 : Int32) =>
      spl (α := sg_F) (sg_up f_112 0 (sgu (f_112 0) 16 v_132)) fun (f_134 : sg_F) =>
      if r_115.toInt = 0 then (
        ((1 : Int32), f_134)) else (
        ((0 : Int32), f_134))) else (
      if r_96.toInt = 45 then (
        spl (α := sg_F) (sg_up f 0 (sgu (f 0) 16 2)) fun (f_152 : sg_F) =>
        spl (α := Int32) (v_5 + 1) fun (v_153 : Int32) =>
        spl (α := sg_F) (sg_up f_152 0 (sgu (f_152 0) 13 v_153)) fun (f_155 : sg_F) =>
        spl2 (sX12_one_2 f_155 L) fun (r_165 : Int32) (f_162 : sg_F) =>
        spl (α := Int32) (f_162 0 13) fun (v_170 : Int32) =>
        spl (α := Int32) (f_162 0 16) fun (v_173 : Int32) =>
        spl (α := Int32) (f_162 0 15) fun (v_176 : Int32) =>
        spl (α := Int32) (v_173 - 1) fun (v_182 : Int32) =>
        spl (α := sg_F) (sg_up f_162 0 (sgu (f_162 0) 16 v_182)) fun (f_184 : sg_F) =>
        spl (α := Int32) ((-r_165)) fun (v_189 : Int32) =>
        ((v_189 : Int32), f_184)) else (
        if r_96.toInt = 40 then (
          spl (α := sg_F) (sg_up f 0 (sgu (f 0) 16 2)) fun (f_214 : sg_F) =>
          spl (α := Int32) (v_5 + 1) fun (v_215 : Int32) =>
          spl (α := sg_F) (sg_up f_214 0 (sgu (f_214 0) 13 v_215)) fun (f_217 : sg_F) =>
          spl2 (sX12_either_2 f_217 L) fun (r_227 : Int32) (f_224 : sg_F) =>
          spl (α := Int32) (f_224 0 13) fun (v_232 : Int32) =>
          spl (α := Int32) (f_224 0 16) fun (v_235 : Int32) =>
          spl (α := Int32) (f_224 0 15) fun (v_238 : Int32) =>
          spl2 (sX12_takes_41 f_224 L) fun (r_252 : Int32) (f_249 : sg_F) =>
          spl (α := Int32) (f_249 0 13) fun (v_254 : Int32) =>
          if r_252 = 1 then (
            spl (α := Int32) (v_235 - 1) fun (v_260 : Int32) =>
            spl (α := sg_F) (sg_up f_249 0 (sgu (f_249 0) 16 v_260)) fun (f_262 : sg_F) =>
            ((r_227 : Int32), f_262)) else (
            spl2 (sX12_wrong f_249 L) fun (r_272 : Int32) (f_269 : sg_F) =>
            spl (α := Int32) (f_269 0 15) fun (v_275 : Int32) =>
            ((0 : Int32), f_269))) else (
          spl (sX12_nameOf r_96 f L) fun (r_199 : Int32) =>
          if r_199.toInt < 0 then (
            sX12_one_1_l176 5 0 0 f L) else (
            spl (α := Int32) (v_5 + 1) fun (v_204 : Int32) =>
            spl (α := sg_F) (sg_up f 0 (sgu (f 0) 13 v_204)) fun (f_206 : sg_F) =>
            spl (α := Int32) (f_206 8 (Int32.toNatClampNeg r_199)) fun (v_207 : Int32) =>
            ((v_207 : Int32), f_206)))))) else (
    ((0 : Int32), f))
set_option maxRecDepth 100000 in
noncomputable def sX12_product_1_h10 (rec_10 : Int32 → Int32 → sg_F → sg_L → Int32 × sg_F) (y1_10 : Int32) (y2_10 : Int32) (fp_10 : sg_F) (L : sg_L) : Int32 × sg_F :=
  spl (α := Int32) (fp_10 0 13) fun (v_13 : Int32) =>
  spl (α := Int32) (fp_10 0 16) fun (v_16 : Int32) =>
  spl (α := Int32) (fp_10 0 15) fun (v_19 : Int32) =>
  spl (α := Int32) (fp_10 0 14) fun (v_22 : Int32) =>
  if v_19.toInt < 0 then (
    if y2_10.toInt = 42 then (
      spl (α := Int32) (v_13 + 1) fun (v_33 : Int32) =>
      spl (α := sg_F) (sg_up fp_10 0 (sgu (fp_10 0) 13 v_33)) fun (f_35 : sg_F) =>
      spl2 (sX12_one_1 f_35 L) fun (r_43 : Int32) (f_40 : sg_F) =>
      spl (α := Int32) (f_40 0 13) fun (v_48 : Int32) =>
      spl (α := Int32) (f_40 0 16) fun (v_51 : Int32) =>
      spl (α := Int32) (f_40 0 15) fun (v_54 : Int32) =>
      spl (α := Int32) (y1_10 * r_43) fun (v_60 : Int32) =>
      spl (sX12_byteAt f_40 L) fun (r_66 : Int32) =>
      rec_10 v_60 r_66 f_40 L) else (
      if y2_10.toInt = 47 then (
        spl (α := Int32) (v_13 + 1) fun (v_71 : Int32) =>
        spl (α := sg_F) (sg_up fp_10 0 (sgu (fp_10 0) 13 v_71)) fun (f_73 : sg_F) =>
        spl2 (sX12_one_1 f_73 L) fun (r_81 : Int32) (f_78 : sg_F) =>
        spl (α := Int32) (f_78 0 13) fun (v_86 : Int32) =>
        spl (α := Int32) (f_78 0 16) fun (v_89 : Int32) =>
        spl (α := Int32) (f_78 0 15) fun (v_92 : Int32) =>
        if r_81.toInt = 0 then (
          spl (sX12_byteAt f_78 L) fun (r_116 : Int32) =>
          rec_10 0 r_116 f_78 L) else (
          spl (α := Int32) (y1_10 / r_81) fun (v_102 : Int32) =>
          spl (sX12_byteAt f_78 L) fun (r_108 : Int32) =>
          rec_10 v_102 r_108 f_78 L)) else (
        if y2_10.toInt = 37 then (
          spl (α := Int32) (v_13 + 1) fun (v_125 : Int32) =>
          spl (α := sg_F) (sg_up fp_10 0 (sgu (fp_10 0) 13 v_125)) fun (f_127 : sg_F) =>
          spl2 (sX12_one_1 f_127 L) fun (r_135 : Int32) (f_132 : sg_F) =>
          spl (α := Int32) (f_132 0 13) fun (v_140 : Int32) =>
          spl (α := Int32) (f_132 0 16) fun (v_143 : Int32) =>
          spl (α := Int32) (f_132 0 15) fun (v_146 : Int32) =>
          if r_135.toInt = 0 then (
            spl (sX12_byteAt f_132 L) fun (r_170 : Int32) =>
            rec_10 0 r_170 f_132 L) else (
            spl (α := Int32) (y1_10 - y1_10 / r_135 * r_135) fun (v_156 : Int32) =>
            spl (sX12_byteAt f_132 L) fun (r_162 : Int32) =>
            rec_10 v_156 r_162 f_132 L)) else (
          ((y1_10 : Int32), fp_10))))) else (
    ((y1_10 : Int32), fp_10))
set_option maxRecDepth 100000 in
noncomputable def sX12_product_1_l10 (n : Nat) : Int32 → Int32 → sg_F → sg_L → Int32 × sg_F :=
  Nat.rec (motive := fun _ => Int32 → Int32 → sg_F → sg_L → Int32 × sg_F) (fun _ _ f L => ((0 : Int32), f)) (fun _ r => sX12_product_1_h10 r) n
set_option maxRecDepth 100000 in
noncomputable def sX12_product_1 (f : sg_F) (L : sg_L) : Int32 × sg_F :=
  spl (α := Int32) (f 0 16) fun (v_1 : Int32) =>
  spl (α := Int32) (f 0 15) fun (v_3 : Int32) =>
  spl (α := Int32) (f 0 13) fun (v_5 : Int32) =>
  spl (α := Int32) (f 0 14) fun (v_7 : Int32) =>
  spl2 (sX12_one_1 f L) fun (r_180 : Int32) (f_177 : sg_F) =>
  spl (α := Int32) (f_177 0 13) fun (v_185 : Int32) =>
  spl (α := Int32) (f_177 0 16) fun (v_188 : Int32) =>
  spl (α := Int32) (f_177 0 15) fun (v_191 : Int32) =>
  spl (sX12_byteAt f_177 L) fun (r_200 : Int32) =>
  sX12_product_1_l10 121 r_180 r_200 f_177 L
set_option maxRecDepth 100000 in
noncomputable def sX12_sums_1_h5 (rec_5 : Int32 → sg_F → sg_L → Int32 × sg_F) (y1_5 : Int32) (fp_5 : sg_F) (L : sg_L) : Int32 × sg_F :=
  spl (α := Int32) (fp_5 0 13) fun (v_10 : Int32) =>
  spl (α := Int32) (fp_5 0 16) fun (v_13 : Int32) =>
  spl (α := Int32) (fp_5 0 15) fun (v_16 : Int32) =>
  if v_16.toInt < 0 then (
    spl (α := Int32) (fp_5 0 14) fun (v_26 : Int32) =>
    spl (sX12_byteAt fp_5 L) fun (r_32 : Int32) =>
    if r_32.toInt = 43 then (
      spl (α := Int32) (v_10 + 1) fun (v_47 : Int32) =>
      spl (α := sg_F) (sg_up fp_5 0 (sgu (fp_5 0) 13 v_47)) fun (f_49 : sg_F) =>
      spl2 (sX12_product_1 f_49 L) fun (r_57 : Int32) (f_54 : sg_F) =>
      spl (α := Int32) (f_54 0 13) fun (v_62 : Int32) =>
      spl (α := Int32) (f_54 0 16) fun (v_65 : Int32) =>
      spl (α := Int32) (f_54 0 15) fun (v_68 : Int32) =>
      spl (α := Int32) (y1_5 + r_57) fun (v_72 : Int32) =>
      rec_5 v_72 f_54 L) else (
      if r_32.toInt = 45 then (
        spl (α := Int32) (v_10 + 1) fun (v_97 : Int32) =>
        spl (α := sg_F) (sg_up fp_5 0 (sgu (fp_5 0) 13 v_97)) fun (f_99 : sg_F) =>
        spl2 (sX12_product_1 f_99 L) fun (r_107 : Int32) (f_104 : sg_F) =>
        spl (α := Int32) (f_104 0 13) fun (v_112 : Int32) =>
        spl (α := Int32) (f_104 0 16) fun (v_115 : Int32) =>
        spl (α := Int32) (f_104 0 15) fun (v_118 : Int32) =>
        spl (α := Int32) (y1_5 - r_107) fun (v_122 : Int32) =>
        rec_5 v_122 f_104 L) else (
        ((y1_5 : Int32), fp_5)))) else (
    ((y1_5 : Int32), fp_5))
set_option maxRecDepth 100000 in
noncomputable def sX12_sums_1_l5 (n : Nat) : Int32 → sg_F → sg_L → Int32 × sg_F :=
  Nat.rec (motive := fun _ => Int32 → sg_F → sg_L → Int32 × sg_F) (fun _ f L => ((0 : Int32), f)) (fun _ r => sX12_sums_1_h5 r) n
set_option maxRecDepth 100000 in
noncomputable def sX12_sums_1 (f : sg_F) (L : sg_L) : Int32 × sg_F :=
  spl (α := Int32) (f 0 16) fun (v_1 : Int32) =>
  spl (α := Int32) (f 0 15) fun (v_3 : Int32) =>
  spl (α := Int32) (f 0 13) fun (v_5 : Int32) =>
  spl2 (sX12_product_1 f L) fun (r_130 : Int32) (f_127 : sg_F) =>
  spl (α := Int32) (f_127 0 13) fun (v_135 : Int32) =>
  spl (α := Int32) (f_127 0 16) fun (v_138 : Int32) =>
  spl (α := Int32) (f_127 0 15) fun (v_141 : Int32) =>
  sX12_sums_1_l5 121 r_130 f_127 L
set_option maxRecDepth 100000 in
noncomputable def sX12_compared_1 (f : sg_F) (L : sg_L) : Int32 × sg_F :=
  spl (α := Int32) (f 0 16) fun (v_1 : Int32) =>
  spl (α := Int32) (f 0 15) fun (v_3 : Int32) =>
  spl (α := Int32) (f 0 13) fun (v_5 : Int32) =>
  spl2 (sX12_sums_1 f L) fun (r_17 : Int32) (f_14 : sg_F) =>
  spl (α := Int32) (f_14 0 13) fun (v_22 : Int32) =>
  spl (α := Int32) (f_14 0 16) fun (v_25 : Int32) =>
  spl (α := Int32) (f_14 0 15) fun (v_28 : Int32) =>
  spl (α := Int32) (f_14 0 14) fun (v_33 : Int32) =>
  spl (sX12_byteAt f_14 L) fun (r_39 : Int32) =>
  if v_28.toInt < 0 then (
    if r_39.toInt = 60 then (
      spl (α := Int32) (v_22 + 1) fun (v_50 : Int32) =>
      spl (α := sg_F) (sg_up f_14 0 (sgu (f_14 0) 13 v_50)) fun (f_52 : sg_F) =>
      spl2 (sX12_sums_1 f_52 L) fun (r_60 : Int32) (f_57 : sg_F) =>
      spl (α := Int32) (f_57 0 13) fun (v_65 : Int32) =>
      spl (α := Int32) (f_57 0 16) fun (v_68 : Int32) =>
      spl (α := Int32) (f_57 0 15) fun (v_71 : Int32) =>
      if r_17.toInt < r_60.toInt then (
        ((1 : Int32), f_57)) else (
        ((0 : Int32), f_57))) else (
      if r_39.toInt = 61 then (
        spl (α := Int32) (v_22 + 1) fun (v_89 : Int32) =>
        spl (α := sg_F) (sg_up f_14 0 (sgu (f_14 0) 13 v_89)) fun (f_91 : sg_F) =>
        spl2 (sX12_sums_1 f_91 L) fun (r_99 : Int32) (f_96 : sg_F) =>
        spl (α := Int32) (f_96 0 13) fun (v_104 : Int32) =>
        spl (α := Int32) (f_96 0 16) fun (v_107 : Int32) =>
        spl (α := Int32) (f_96 0 15) fun (v_110 : Int32) =>
        if r_17.toInt = r_99.toInt then (
          ((1 : Int32), f_96)) else (
          ((0 : Int32), f_96))) else (
        if r_39.toInt = 62 then (
          spl (α := Int32) (v_22 + 1) fun (v_130 : Int32) =>
          spl (α := sg_F) (sg_up f_14 0 (sgu (f_14 0) 13 v_130)) fun (f_132 : sg_F) =>
          spl2 (sX12_sums_1 f_132 L) fun (r_140 : Int32) (f_137 : sg_F) =>
          spl (α := Int32) (f_137 0 13) fun (v_145 : Int32) =>
          spl (α := Int32) (f_137 0 16) fun (v_148 : Int32) =>
          spl (α := Int32) (f_137 0 15) fun (v_151 : Int32) =>
          if r_140.toInt < r_17.toInt then (
            ((1 : Int32), f_137)) else (
            ((0 : Int32), f_137))) else (
          ((r_17 : Int32), f_14))))) else (
    ((r_17 : Int32), f_14))
set_option maxRecDepth 100000 in
noncomputable def sX12_both_1_h5 (rec_5 : Int32 → sg_F → sg_L → Int32 × sg_F) (y1_5 : Int32) (fp_5 : sg_F) (L : sg_L) : Int32 × sg_F :=
  spl (α := Int32) (fp_5 0 13) fun (v_10 : Int32) =>
  spl (α := Int32) (fp_5 0 16) fun (v_13 : Int32) =>
  spl (α := Int32) (fp_5 0 15) fun (v_16 : Int32) =>
  spl (α := Int32) (fp_5 0 14) fun (v_21 : Int32) =>
  spl2 (sX12_takes_38 fp_5 L) fun (r_29 : Int32) (f_26 : sg_F) =>
  spl (α := Int32) (f_26 0 13) fun (v_31 : Int32) =>
  if r_29 = 1 then (
    spl2 (sX12_compared_1 f_26 L) fun (r_44 : Int32) (f_41 : sg_F) =>
    spl (α := Int32) (f_41 0 13) fun (v_49 : Int32) =>
    spl (α := Int32) (f_41 0 16) fun (v_52 : Int32) =>
    spl (α := Int32) (f_41 0 15) fun (v_55 : Int32) =>
    if y1_5.toInt = 0 then (
      rec_5 0 f_41 L) else (
      if r_44.toInt = 0 then (
        rec_5 0 f_41 L) else (
        rec_5 1 f_41 L))) else (
    ((y1_5 : Int32), f_26))
set_option maxRecDepth 100000 in
noncomputable def sX12_both_1_l5 (n : Nat) : Int32 → sg_F → sg_L → Int32 × sg_F :=
  Nat.rec (motive := fun _ => Int32 → sg_F → sg_L → Int32 × sg_F) (fun _ f L => ((0 : Int32), f)) (fun _ r => sX12_both_1_h5 r) n
set_option maxRecDepth 100000 in
noncomputable def sX12_both_1 (f : sg_F) (L : sg_L) : Int32 × sg_F :=
  spl (α := Int32) (f 0 16) fun (v_1 : Int32) =>
  spl (α := Int32) (f 0 15) fun (v_3 : Int32) =>
  spl (α := Int32) (f 0 13) fun (v_5 : Int32) =>
  spl2 (sX12_compared_1 f L) fun (r_74 : Int32) (f_71 : sg_F) =>
  spl (α := Int32) (f_71 0 13) fun (v_79 : Int32) =>
  spl (α := Int32) (f_71 0 16) fun (v_82 : Int32) =>
  spl (α := Int32) (f_71 0 15) fun (v_85 : Int32) =>
  sX12_both_1_l5 121 r_74 f_71 L
set_option maxRecDepth 100000 in
noncomputable def sX12_either_1_h5 (rec_5 : Int32 → sg_F → sg_L → Int32 × sg_F) (y1_5 : Int32) (fp_5 : sg_F) (L : sg_L) : Int32 × sg_F :=
  spl (α := Int32) (fp_5 0 13) fun (v_10 : Int32) =>
  spl (α := Int32) (fp_5 0 16) fun (v_13 : Int32) =>
  spl (α := Int32) (fp_5 0 15) fun (v_16 : Int32) =>
  spl (α := Int32) (fp_5 0 14) fun (v_21 : Int32) =>
  spl2 (sX12_takes_124 fp_5 L) fun (r_29 : Int32) (f_26 : sg_F) =>
  spl (α := Int32) (f_26 0 13) fun (v_31 : Int32) =>
  if r_29 = 1 then (
    spl2 (sX12_both_1 f_26 L) fun (r_44 : Int32) (f_41 : sg_F) =>
    spl (α := Int32) (f_41 0 13) fun (v_49 : Int32) =>
    spl (α := Int32) (f_41 0 16) fun (v_52 : Int32) =>
    spl (α := Int32) (f_41 0 15) fun (v_55 : Int32) =>
    if y1_5.toInt = 0 then (
      if r_44.toInt = 0 then (
        rec_5 0 f_41 L) else (
        rec_5 1 f_41 L)) else (
      rec_5 1 f_41 L)) else (
    ((y1_5 : Int32), f_26))
set_option maxRecDepth 100000 in
noncomputable def sX12_either_1_l5 (n : Nat) : Int32 → sg_F → sg_L → Int32 × sg_F :=
  Nat.rec (motive := fun _ => Int32 → sg_F → sg_L → Int32 × sg_F) (fun _ f L => ((0 : Int32), f)) (fun _ r => sX12_either_1_h5 r) n
set_option maxRecDepth 100000 in
noncomputable def sX12_either_1 (f : sg_F) (L : sg_L) : Int32 × sg_F :=
  spl (α := Int32) (f 0 16) fun (v_1 : Int32) =>
  spl (α := Int32) (f 0 15) fun (v_3 : Int32) =>
  spl (α := Int32) (f 0 13) fun (v_5 : Int32) =>
  spl2 (sX12_both_1 f L) fun (r_74 : Int32) (f_71 : sg_F) =>
  spl (α := Int32) (f_71 0 13) fun (v_79 : Int32) =>
  spl (α := Int32) (f_71 0 16) fun (v_82 : Int32) =>
  spl (α := Int32) (f_71 0 15) fun (v_85 : Int32) =>
  sX12_either_1_l5 121 r_74 f_71 L
set_option maxRecDepth 100000 in
noncomputable def sX12_one_0_b229 (y3_229 : Int32) (y4_229 : Int32) (fp_229 : sg_F) (L : sg_L) : Int32 × sg_F :=
  spl (α := Int32) (fp_229 0 15) fun (v_10 : Int32) =>
  spl (α := Int32) (fp_229 0 13) fun (v_13 : Int32) =>
  spl (α := Int32) (fp_229 0 16) fun (v_16 : Int32) =>
  if y4_229.toInt = 0 then (
    spl2 (sX12_wrong fp_229 L) fun (r_28 : Int32) (f_25 : sg_F) =>
    spl (α := Int32) (f_25 0 15) fun (v_31 : Int32) =>
    ((0 : Int32), f_25)) else (
    ((y3_229 : Int32), fp_229))
set_option maxRecDepth 100000 in
noncomputable def sX12_one_0_h176 (rec_176 : Int32 → Int32 → sg_F → sg_L → Int32 × sg_F) (y3_176 : Int32) (y4_176 : Int32) (fp_176 : sg_F) (L : sg_L) : Int32 × sg_F :=
  spl (α := Int32) (fp_176 0 15) fun (v_38 : Int32) =>
  spl (α := Int32) (fp_176 0 13) fun (v_41 : Int32) =>
  spl (α := Int32) (fp_176 0 16) fun (v_44 : Int32) =>
  if y4_176.toInt < 4 then (
    spl (α := Int32) (fp_176 0 14) fun (v_50 : Int32) =>
    spl (sX12_byteAt fp_176 L) fun (r_56 : Int32) =>
    if r_56.toInt < 48 then (
      sX12_one_0_b229 y3_176 y4_176 fp_176 L) else (
      if 57 < r_56.toInt then (
        sX12_one_0_b229 y3_176 y4_176 fp_176 L) else (
        spl (α := Int32) (10 * y3_176) fun (v_71 : Int32) =>
        spl (α := Int32) (v_71 + r_56) fun (v_80 : Int32) =>
        spl (α := Int32) (v_80 - 48) fun (v_81 : Int32) =>
        spl (α := Int32) (y4_176 + 1) fun (v_82 : Int32) =>
        spl (α := Int32) (v_41 + 1) fun (v_84 : Int32) =>
        spl (α := sg_F) (sg_up fp_176 0 (sgu (fp_176 0) 13 v_84)) fun (f_86 : sg_F) =>
        rec_176 v_81 v_82 f_86 L))) else (
    sX12_one_0_b229 y3_176 y4_176 fp_176 L)
set_option maxRecDepth 100000 in
noncomputable def sX12_one_0_l176 (n : Nat) : Int32 → Int32 → sg_F → sg_L → Int32 × sg_F :=
  Nat.rec (motive := fun _ => Int32 → Int32 → sg_F → sg_L → Int32 × sg_F) (fun _ _ f L => ((0 : Int32), f)) (fun _ r => sX12_one_0_h176 r) n
set_option maxRecDepth 100000 in
noncomputable def sX12_one_0 (f : sg_F) (L : sg_L) : Int32 × sg_F :=
  spl (α := Int32) (f 0 16) fun (v_1 : Int32) =>
  spl (α := Int32) (f 0 15) fun (v_3 : Int32) =>
  spl (α := Int32) (f 0 13) fun (v_5 : Int32) =>
  if v_3.toInt < 0 then (
    spl (α := Int32) (f 0 14) fun (v_90 : Int32) =>
    spl (sX12_byteAt f L) fun (r_96 : Int32) =>
    if r_96.toInt = 33 then (
      spl (α := sg_F) (sg_up f 0 (sgu (f 0) 16 1)) fun (f_102 : sg_F) =>
      spl (α := Int32) (v_5 + 1) fun (v_103 : Int32) =>
      spl (α := sg_F) (sg_up f_102 0 (sgu (f_102 0) 13 v_103)) fun (f_105 : sg_F) =>
      spl2 (sX12_one_1 f_105 L) fun (r_115 : Int32) (f_112 : sg_F) =>
      spl (α := Int32) (f_112 0 13) fun (v_120 : Int32) =>
      spl (α := Int32) (f_112 0 16) fun (v_123 : Int32) =>
      spl (α := Int32) (f_112 0 15) fun (v_126 : Int32) =>
      spl (α := Int32) (v_123 - 1) fun (v_132 : Int32) =>
      spl (α := sg_F) (sg_up f_112 0 (sgu (f_112 0) 16 v_132)) fun (f_134 : sg_F) =>
      if r_115.toInt = 0 then (
        ((1 : Int32), f_134)) else (
        ((0 : Int32), f_134))) else (
      if r_96.toInt = 45 then (
        spl (α := sg_F) (sg_up f 0 (sgu (f 0) 16 1)) fun (f_152 : sg_F) =>
        spl (α := Int32) (v_5 + 1) fun (v_153 : Int32) =>
        spl (α := sg_F) (sg_up f_152 0 (sgu (f_152 0) 13 v_153)) fun (f_155 : sg_F) =>
        spl2 (sX12_one_1 f_155 L) fun (r_165 : Int32) (f_162 : sg_F) =>
        spl (α := Int32) (f_162 0 13) fun (v_170 : Int32) =>
        spl (α := Int32) (f_162 0 16) fun (v_173 : Int32) =>
        spl (α := Int32) (f_162 0 15) fun (v_176 : Int32) =>
        spl (α := Int32) (v_173 - 1) fun (v_182 : Int32) =>
        spl (α := sg_F) (sg_up f_162 0 (sgu (f_162 0) 16 v_182)) fun (f_184 : sg_F) =>
        spl (α := Int32) ((-r_165)) fun (v_189 : Int32) =>
        ((v_189 : Int32), f_184)) else (
        if r_96.toInt = 40 then (
          spl (α := sg_F) (sg_up f 0 (sgu (f 0) 16 1)) fun (f_214 : sg_F) =>
          spl (α := Int32) (v_5 + 1) fun (v_215 : Int32) =>
          spl (α := sg_F) (sg_up f_214 0 (sgu (f_214 0) 13 v_215)) fun (f_217 : sg_F) =>
          spl2 (sX12_either_1 f_217 L) fun (r_227 : Int32) (f_224 : sg_F) =>
          spl (α := Int32) (f_224 0 13) fun (v_232 : Int32) =>
          spl (α := Int32) (f_224 0 16) fun (v_235 : Int32) =>
          spl (α := Int32) (f_224 0 15) fun (v_238 : Int32) =>
          spl2 (sX12_takes_41 f_224 L) fun (r_252 : Int32) (f_249 : sg_F) =>
          spl (α := Int32) (f_249 0 13) fun (v_254 : Int32) =>
          if r_252 = 1 then (
            spl (α := Int32) (v_235 - 1) fun (v_260 : Int32) =>
            spl (α := sg_F) (sg_up f_249 0 (sgu (f_249 0) 16 v_260)) fun (f_262 : sg_F) =>
            ((r_227 : Int32), f_262)) else (
            spl2 (sX12_wrong f_249 L) fun (r_272 : Int32) (f_269 : sg_F) =>
            spl (α := Int32) (f_269 0 15) fun (v_275 : Int32) =>
            ((0 : Int32), f_269))) else (
          spl (sX12_nameOf r_96 f L) fun (r_199 : Int32) =>
          if r_199.toInt < 0 then (
            sX12_one_0_l176 5 0 0 f L) else (
            spl (α := Int32) (v_5 + 1) fun (v_204 : Int32) =>
            spl (α := sg_F) (sg_up f 0 (sgu (f 0) 13 v_204)) fun (f_206 : sg_F) =>
            spl (α := Int32) (f_206 8 (Int32.toNatClampNeg r_199)) fun (v_207 : Int32) =>
            ((v_207 : Int32), f_206)))))) else (
    ((0 : Int32), f))
set_option maxRecDepth 100000 in
noncomputable def sX12_product_0_h10 (rec_10 : Int32 → Int32 → sg_F → sg_L → Int32 × sg_F) (y1_10 : Int32) (y2_10 : Int32) (fp_10 : sg_F) (L : sg_L) : Int32 × sg_F :=
  spl (α := Int32) (fp_10 0 13) fun (v_13 : Int32) =>
  spl (α := Int32) (fp_10 0 16) fun (v_16 : Int32) =>
  spl (α := Int32) (fp_10 0 15) fun (v_19 : Int32) =>
  spl (α := Int32) (fp_10 0 14) fun (v_22 : Int32) =>
  if v_19.toInt < 0 then (
    if y2_10.toInt = 42 then (
      spl (α := Int32) (v_13 + 1) fun (v_33 : Int32) =>
      spl (α := sg_F) (sg_up fp_10 0 (sgu (fp_10 0) 13 v_33)) fun (f_35 : sg_F) =>
      spl2 (sX12_one_0 f_35 L) fun (r_43 : Int32) (f_40 : sg_F) =>
      spl (α := Int32) (f_40 0 13) fun (v_48 : Int32) =>
      spl (α := Int32) (f_40 0 16) fun (v_51 : Int32) =>
      spl (α := Int32) (f_40 0 15) fun (v_54 : Int32) =>
      spl (α := Int32) (y1_10 * r_43) fun (v_60 : Int32) =>
      spl (sX12_byteAt f_40 L) fun (r_66 : Int32) =>
      rec_10 v_60 r_66 f_40 L) else (
      if y2_10.toInt = 47 then (
        spl (α := Int32) (v_13 + 1) fun (v_71 : Int32) =>
        spl (α := sg_F) (sg_up fp_10 0 (sgu (fp_10 0) 13 v_71)) fun (f_73 : sg_F) =>
        spl2 (sX12_one_0 f_73 L) fun (r_81 : Int32) (f_78 : sg_F) =>
        spl (α := Int32) (f_78 0 13) fun (v_86 : Int32) =>
        spl (α := Int32) (f_78 0 16) fun (v_89 : Int32) =>
        spl (α := Int32) (f_78 0 15) fun (v_92 : Int32) =>
        if r_81.toInt = 0 then (
          spl (sX12_byteAt f_78 L) fun (r_116 : Int32) =>
          rec_10 0 r_116 f_78 L) else (
          spl (α := Int32) (y1_10 / r_81) fun (v_102 : Int32) =>
          spl (sX12_byteAt f_78 L) fun (r_108 : Int32) =>
          rec_10 v_102 r_108 f_78 L)) else (
        if y2_10.toInt = 37 then (
          spl (α := Int32) (v_13 + 1) fun (v_125 : Int32) =>
          spl (α := sg_F) (sg_up fp_10 0 (sgu (fp_10 0) 13 v_125)) fun (f_127 : sg_F) =>
          spl2 (sX12_one_0 f_127 L) fun (r_135 : Int32) (f_132 : sg_F) =>
          spl (α := Int32) (f_132 0 13) fun (v_140 : Int32) =>
          spl (α := Int32) (f_132 0 16) fun (v_143 : Int32) =>
          spl (α := Int32) (f_132 0 15) fun (v_146 : Int32) =>
          if r_135.toInt = 0 then (
            spl (sX12_byteAt f_132 L) fun (r_170 : Int32) =>
            rec_10 0 r_170 f_132 L) else (
            spl (α := Int32) (y1_10 - y1_10 / r_135 * r_135) fun (v_156 : Int32) =>
            spl (sX12_byteAt f_132 L) fun (r_162 : Int32) =>
            rec_10 v_156 r_162 f_132 L)) else (
          ((y1_10 : Int32), fp_10))))) else (
    ((y1_10 : Int32), fp_10))
set_option maxRecDepth 100000 in
noncomputable def sX12_product_0_l10 (n : Nat) : Int32 → Int32 → sg_F → sg_L → Int32 × sg_F :=
  Nat.rec (motive := fun _ => Int32 → Int32 → sg_F → sg_L → Int32 × sg_F) (fun _ _ f L => ((0 : Int32), f)) (fun _ r => sX12_product_0_h10 r) n
set_option maxRecDepth 100000 in
noncomputable def sX12_product_0 (f : sg_F) (L : sg_L) : Int32 × sg_F :=
  spl (α := Int32) (f 0 16) fun (v_1 : Int32) =>
  spl (α := Int32) (f 0 15) fun (v_3 : Int32) =>
  spl (α := Int32) (f 0 13) fun (v_5 : Int32) =>
  spl (α := Int32) (f 0 14) fun (v_7 : Int32) =>
  spl2 (sX12_one_0 f L) fun (r_180 : Int32) (f_177 : sg_F) =>
  spl (α := Int32) (f_177 0 13) fun (v_185 : Int32) =>
  spl (α := Int32) (f_177 0 16) fun (v_188 : Int32) =>
  spl (α := Int32) (f_177 0 15) fun (v_191 : Int32) =>
  spl (sX12_byteAt f_177 L) fun (r_200 : Int32) =>
  sX12_product_0_l10 121 r_180 r_200 f_177 L
set_option maxRecDepth 100000 in
noncomputable def sX12_sums_0_h5 (rec_5 : Int32 → sg_F → sg_L → Int32 × sg_F) (y1_5 : Int32) (fp_5 : sg_F) (L : sg_L) : Int32 × sg_F :=
  spl (α := Int32) (fp_5 0 13) fun (v_10 : Int32) =>
  spl (α := Int32) (fp_5 0 16) fun (v_13 : Int32) =>
  spl (α := Int32) (fp_5 0 15) fun (v_16 : Int32) =>
  if v_16.toInt < 0 then (
    spl (α := Int32) (fp_5 0 14) fun (v_26 : Int32) =>
    spl (sX12_byteAt fp_5 L) fun (r_32 : Int32) =>
    if r_32.toInt = 43 then (
      spl (α := Int32) (v_10 + 1) fun (v_47 : Int32) =>
      spl (α := sg_F) (sg_up fp_5 0 (sgu (fp_5 0) 13 v_47)) fun (f_49 : sg_F) =>
      spl2 (sX12_product_0 f_49 L) fun (r_57 : Int32) (f_54 : sg_F) =>
      spl (α := Int32) (f_54 0 13) fun (v_62 : Int32) =>
      spl (α := Int32) (f_54 0 16) fun (v_65 : Int32) =>
      spl (α := Int32) (f_54 0 15) fun (v_68 : Int32) =>
      spl (α := Int32) (y1_5 + r_57) fun (v_72 : Int32) =>
      rec_5 v_72 f_54 L) else (
      if r_32.toInt = 45 then (
        spl (α := Int32) (v_10 + 1) fun (v_97 : Int32) =>
        spl (α := sg_F) (sg_up fp_5 0 (sgu (fp_5 0) 13 v_97)) fun (f_99 : sg_F) =>
        spl2 (sX12_product_0 f_99 L) fun (r_107 : Int32) (f_104 : sg_F) =>
        spl (α := Int32) (f_104 0 13) fun (v_112 : Int32) =>
        spl (α := Int32) (f_104 0 16) fun (v_115 : Int32) =>
        spl (α := Int32) (f_104 0 15) fun (v_118 : Int32) =>
        spl (α := Int32) (y1_5 - r_107) fun (v_122 : Int32) =>
        rec_5 v_122 f_104 L) else (
        ((y1_5 : Int32), fp_5)))) else (
    ((y1_5 : Int32), fp_5))
set_option maxRecDepth 100000 in
noncomputable def sX12_sums_0_l5 (n : Nat) : Int32 → sg_F → sg_L → Int32 × sg_F :=
  Nat.rec (motive := fun _ => Int32 → sg_F → sg_L → Int32 × sg_F) (fun _ f L => ((0 : Int32), f)) (fun _ r => sX12_sums_0_h5 r) n
set_option maxRecDepth 100000 in
noncomputable def sX12_sums_0 (f : sg_F) (L : sg_L) : Int32 × sg_F :=
  spl (α := Int32) (f 0 16) fun (v_1 : Int32) =>
  spl (α := Int32) (f 0 15) fun (v_3 : Int32) =>
  spl (α := Int32) (f 0 13) fun (v_5 : Int32) =>
  spl2 (sX12_product_0 f L) fun (r_130 : Int32) (f_127 : sg_F) =>
  spl (α := Int32) (f_127 0 13) fun (v_135 : Int32) =>
  spl (α := Int32) (f_127 0 16) fun (v_138 : Int32) =>
  spl (α := Int32) (f_127 0 15) fun (v_141 : Int32) =>
  sX12_sums_0_l5 121 r_130 f_127 L
set_option maxRecDepth 100000 in
noncomputable def sX12_compared_0 (f : sg_F) (L : sg_L) : Int32 × sg_F :=
  spl (α := Int32) (f 0 16) fun (v_1 : Int32) =>
  spl (α := Int32) (f 0 15) fun (v_3 : Int32) =>
  spl (α := Int32) (f 0 13) fun (v_5 : Int32) =>
  spl2 (sX12_sums_0 f L) fun (r_17 : Int32) (f_14 : sg_F) =>
  spl (α := Int32) (f_14 0 13) fun (v_22 : Int32) =>
  spl (α := Int32) (f_14 0 16) fun (v_25 : Int32) =>
  spl (α := Int32) (f_14 0 15) fun (v_28 : Int32) =>
  spl (α := Int32) (f_14 0 14) fun (v_33 : Int32) =>
  spl (sX12_byteAt f_14 L) fun (r_39 : Int32) =>
  if v_28.toInt < 0 then (
    if r_39.toInt = 60 then (
      spl (α := Int32) (v_22 + 1) fun (v_50 : Int32) =>
      spl (α := sg_F) (sg_up f_14 0 (sgu (f_14 0) 13 v_50)) fun (f_52 : sg_F) =>
      spl2 (sX12_sums_0 f_52 L) fun (r_60 : Int32) (f_57 : sg_F) =>
      spl (α := Int32) (f_57 0 13) fun (v_65 : Int32) =>
      spl (α := Int32) (f_57 0 16) fun (v_68 : Int32) =>
      spl (α := Int32) (f_57 0 15) fun (v_71 : Int32) =>
      if r_17.toInt < r_60.toInt then (
        ((1 : Int32), f_57)) else (
        ((0 : Int32), f_57))) else (
      if r_39.toInt = 61 then (
        spl (α := Int32) (v_22 + 1) fun (v_89 : Int32) =>
        spl (α := sg_F) (sg_up f_14 0 (sgu (f_14 0) 13 v_89)) fun (f_91 : sg_F) =>
        spl2 (sX12_sums_0 f_91 L) fun (r_99 : Int32) (f_96 : sg_F) =>
        spl (α := Int32) (f_96 0 13) fun (v_104 : Int32) =>
        spl (α := Int32) (f_96 0 16) fun (v_107 : Int32) =>
        spl (α := Int32) (f_96 0 15) fun (v_110 : Int32) =>
        if r_17.toInt = r_99.toInt then (
          ((1 : Int32), f_96)) else (
          ((0 : Int32), f_96))) else (
        if r_39.toInt = 62 then (
          spl (α := Int32) (v_22 + 1) fun (v_130 : Int32) =>
          spl (α := sg_F) (sg_up f_14 0 (sgu (f_14 0) 13 v_130)) fun (f_132 : sg_F) =>
          spl2 (sX12_sums_0 f_132 L) fun (r_140 : Int32) (f_137 : sg_F) =>
          spl (α := Int32) (f_137 0 13) fun (v_145 : Int32) =>
          spl (α := Int32) (f_137 0 16) fun (v_148 : Int32) =>
          spl (α := Int32) (f_137 0 15) fun (v_151 : Int32) =>
          if r_140.toInt < r_17.toInt then (
            ((1 : Int32), f_137)) else (
            ((0 : Int32), f_137))) else (
          ((r_17 : Int32), f_14))))) else (
    ((r_17 : Int32), f_14))
set_option maxRecDepth 100000 in
noncomputable def sX12_both_0_h5 (rec_5 : Int32 → sg_F → sg_L → Int32 × sg_F) (y1_5 : Int32) (fp_5 : sg_F) (L : sg_L) : Int32 × sg_F :=
  spl (α := Int32) (fp_5 0 13) fun (v_10 : Int32) =>
  spl (α := Int32) (fp_5 0 16) fun (v_13 : Int32) =>
  spl (α := Int32) (fp_5 0 15) fun (v_16 : Int32) =>
  spl (α := Int32) (fp_5 0 14) fun (v_21 : Int32) =>
  spl2 (sX12_takes_38 fp_5 L) fun (r_29 : Int32) (f_26 : sg_F) =>
  spl (α := Int32) (f_26 0 13) fun (v_31 : Int32) =>
  if r_29 = 1 then (
    spl2 (sX12_compared_0 f_26 L) fun (r_44 : Int32) (f_41 : sg_F) =>
    spl (α := Int32) (f_41 0 13) fun (v_49 : Int32) =>
    spl (α := Int32) (f_41 0 16) fun (v_52 : Int32) =>
    spl (α := Int32) (f_41 0 15) fun (v_55 : Int32) =>
    if y1_5.toInt = 0 then (
      rec_5 0 f_41 L) else (
      if r_44.toInt = 0 then (
        rec_5 0 f_41 L) else (
        rec_5 1 f_41 L))) else (
    ((y1_5 : Int32), f_26))
set_option maxRecDepth 100000 in
noncomputable def sX12_both_0_l5 (n : Nat) : Int32 → sg_F → sg_L → Int32 × sg_F :=
  Nat.rec (motive := fun _ => Int32 → sg_F → sg_L → Int32 × sg_F) (fun _ f L => ((0 : Int32), f)) (fun _ r => sX12_both_0_h5 r) n
set_option maxRecDepth 100000 in
noncomputable def sX12_both_0 (f : sg_F) (L : sg_L) : Int32 × sg_F :=
  spl (α := Int32) (f 0 16) fun (v_1 : Int32) =>
  spl (α := Int32) (f 0 15) fun (v_3 : Int32) =>
  spl (α := Int32) (f 0 13) fun (v_5 : Int32) =>
  spl2 (sX12_compared_0 f L) fun (r_74 : Int32) (f_71 : sg_F) =>
  spl (α := Int32) (f_71 0 13) fun (v_79 : Int32) =>
  spl (α := Int32) (f_71 0 16) fun (v_82 : Int32) =>
  spl (α := Int32) (f_71 0 15) fun (v_85 : Int32) =>
  sX12_both_0_l5 121 r_74 f_71 L
set_option maxRecDepth 100000 in
noncomputable def sX12_either_0_h5 (rec_5 : Int32 → sg_F → sg_L → Int32 × sg_F) (y1_5 : Int32) (fp_5 : sg_F) (L : sg_L) : Int32 × sg_F :=
  spl (α := Int32) (fp_5 0 13) fun (v_10 : Int32) =>
  spl (α := Int32) (fp_5 0 16) fun (v_13 : Int32) =>
  spl (α := Int32) (fp_5 0 15) fun (v_16 : Int32) =>
  spl (α := Int32) (fp_5 0 14) fun (v_21 : Int32) =>
  spl2 (sX12_takes_124 fp_5 L) fun (r_29 : Int32) (f_26 : sg_F) =>
  spl (α := Int32) (f_26 0 13) fun (v_31 : Int32) =>
  if r_29 = 1 then (
    spl2 (sX12_both_0 f_26 L) fun (r_44 : Int32) (f_41 : sg_F) =>
    spl (α := Int32) (f_41 0 13) fun (v_49 : Int32) =>
    spl (α := Int32) (f_41 0 16) fun (v_52 : Int32) =>
    spl (α := Int32) (f_41 0 15) fun (v_55 : Int32) =>
    if y1_5.toInt = 0 then (
      if r_44.toInt = 0 then (
        rec_5 0 f_41 L) else (
        rec_5 1 f_41 L)) else (
      rec_5 1 f_41 L)) else (
    ((y1_5 : Int32), f_26))
set_option maxRecDepth 100000 in
noncomputable def sX12_either_0_l5 (n : Nat) : Int32 → sg_F → sg_L → Int32 × sg_F :=
  Nat.rec (motive := fun _ => Int32 → sg_F → sg_L → Int32 × sg_F) (fun _ f L => ((0 : Int32), f)) (fun _ r => sX12_either_0_h5 r) n
set_option maxRecDepth 100000 in
noncomputable def sX12_either_0 (f : sg_F) (L : sg_L) : Int32 × sg_F :=
  spl (α := Int32) (f 0 16) fun (v_1 : Int32) =>
  spl (α := Int32) (f 0 15) fun (v_3 : Int32) =>
  spl (α := Int32) (f 0 13) fun (v_5 : Int32) =>
  spl2 (sX12_both_0 f L) fun (r_74 : Int32) (f_71 : sg_F) =>
  spl (α := Int32) (f_71 0 13) fun (v_79 : Int32) =>
  spl (α := Int32) (f_71 0 16) fun (v_82 : Int32) =>
  spl (α := Int32) (f_71 0 15) fun (v_85 : Int32) =>
  sX12_either_0_l5 121 r_74 f_71 L
set_option maxRecDepth 100000 in
noncomputable def sX12_takes_63 (f : sg_F) (L : sg_L) : Int32 × sg_F :=
  spl (α := Int32) (f 0 15) fun (v_1 : Int32) =>
  spl (α := Int32) (f 0 13) fun (v_3 : Int32) =>
  spl (α := Int32) (f 0 14) fun (v_5 : Int32) =>
  if v_1.toInt < 0 then (
    spl (sX12_byteAt f L) fun (r_19 : Int32) =>
    if r_19.toInt = 63 then (
      spl (α := Int32) (v_3 + 1) fun (v_24 : Int32) =>
      spl (α := sg_F) (sg_up f 0 (sgu (f 0) 13 v_24)) fun (f_26 : sg_F) =>
      ((1 : Int32), f_26)) else (
      ((0 : Int32), f))) else (
    ((0 : Int32), f))
set_option maxRecDepth 100000 in
noncomputable def sX12_takes_59 (f : sg_F) (L : sg_L) : Int32 × sg_F :=
  spl (α := Int32) (f 0 15) fun (v_1 : Int32) =>
  spl (α := Int32) (f 0 13) fun (v_3 : Int32) =>
  spl (α := Int32) (f 0 14) fun (v_5 : Int32) =>
  if v_1.toInt < 0 then (
    spl (sX12_byteAt f L) fun (r_19 : Int32) =>
    if r_19.toInt = 59 then (
      spl (α := Int32) (v_3 + 1) fun (v_24 : Int32) =>
      spl (α := sg_F) (sg_up f 0 (sgu (f 0) 13 v_24)) fun (f_26 : sg_F) =>
      ((1 : Int32), f_26)) else (
      ((0 : Int32), f))) else (
    ((0 : Int32), f))
set_option maxRecDepth 100000 in
noncomputable def sX12_workOut_b96 (rec_33 : Int32 → Int32 → Int32 → sg_F → sg_L → Int32 × sg_F) (x0 : Int32) (x1 : Int32) (y3_96 : Int32) (y4_96 : Int32) (fp_96 : sg_F) (L : sg_L) : Int32 × sg_F :=
  spl (α := Int32) (fp_96 0 15) fun (v_7 : Int32) =>
  spl (α := Int32) (fp_96 0 16) fun (v_10 : Int32) =>
  spl (α := Int32) (fp_96 0 13) fun (v_13 : Int32) =>
  spl (α := Int32) (fp_96 0 14) fun (v_18 : Int32) =>
  spl2 (sX12_takes_59 fp_96 L) fun (r_26 : Int32) (f_23 : sg_F) =>
  spl (α := Int32) (f_23 0 13) fun (v_28 : Int32) =>
  if r_26 = 1 then (
    rec_33 y3_96 y4_96 1 f_23 L) else (
    rec_33 y3_96 y4_96 0 f_23 L)
set_option maxRecDepth 100000 in
noncomputable def sX12_workOut_b74 (rec_33 : Int32 → Int32 → Int32 → sg_F → sg_L → Int32 × sg_F) (x0 : Int32) (x1 : Int32) (y3_74 : Int32) (y4_74 : Int32) (y6_74 : Int32) (y7_74 : Int32) (fp_74 : sg_F) (L : sg_L) : Int32 × sg_F :=
  spl (α := Int32) (fp_74 0 15) fun (v_34 : Int32) =>
  spl (α := Int32) (fp_74 0 16) fun (v_37 : Int32) =>
  spl (α := Int32) (fp_74 0 13) fun (v_40 : Int32) =>
  if v_34.toInt < 0 then (
    if y7_74.toInt = 0 then (
      sX12_workOut_b96 rec_33 x0 x1 y3_74 y4_74 fp_74 L) else (
      if y3_74.toInt = 0 then (
        sX12_workOut_b96 rec_33 x0 x1 1 y6_74 fp_74 L) else (
        sX12_workOut_b96 rec_33 x0 x1 y3_74 y4_74 fp_74 L))) else (
    sX12_workOut_b96 rec_33 x0 x1 y3_74 y4_74 fp_74 L)
set_option maxRecDepth 100000 in
noncomputable def sX12_workOut_h33 (x0 : Int32) (x1 : Int32) (rec_33 : Int32 → Int32 → Int32 → sg_F → sg_L → Int32 × sg_F) (y3_33 : Int32) (y4_33 : Int32) (y5_33 : Int32) (fp_33 : sg_F) (L : sg_L) : Int32 × sg_F :=
  spl (α := Int32) (fp_33 0 15) fun (v_49 : Int32) =>
  spl (α := Int32) (fp_33 0 16) fun (v_52 : Int32) =>
  spl (α := Int32) (fp_33 0 13) fun (v_55 : Int32) =>
  if y5_33.toInt = 0 then (
    if v_49.toInt < 0 then (
      spl (α := Int32) (fp_33 0 14) fun (v_62 : Int32) =>
      if v_55.toInt < v_62.toInt then (
        spl2 (sX12_wrong fp_33 L) fun (r_69 : Int32) (f_66 : sg_F) =>
        spl (α := Int32) (f_66 0 15) fun (v_72 : Int32) =>
        ((0 : Int32), f_66)) else (
        ((y4_33 : Int32), fp_33))) else (
      ((y4_33 : Int32), fp_33))) else (
    spl2 (sX12_either_0 fp_33 L) fun (r_82 : Int32) (f_79 : sg_F) =>
    spl (α := Int32) (f_79 0 13) fun (v_87 : Int32) =>
    spl (α := Int32) (f_79 0 16) fun (v_90 : Int32) =>
    spl (α := Int32) (f_79 0 15) fun (v_93 : Int32) =>
    spl (α := Int32) (f_79 0 14) fun (v_99 : Int32) =>
    spl2 (sX12_takes_63 f_79 L) fun (r_107 : Int32) (f_104 : sg_F) =>
    spl (α := Int32) (f_104 0 13) fun (v_109 : Int32) =>
    if r_107 = 1 then (
      if r_82.toInt = 0 then (
        spl2 (sX12_either_0 f_104 L) fun (r_124 : Int32) (f_121 : sg_F) =>
        spl (α := Int32) (f_121 0 13) fun (v_129 : Int32) =>
        spl (α := Int32) (f_121 0 16) fun (v_132 : Int32) =>
        spl (α := Int32) (f_121 0 15) fun (v_135 : Int32) =>
        sX12_workOut_b74 rec_33 x0 x1 y3_33 y4_33 r_124 0 f_121 L) else (
        spl2 (sX12_either_0 f_104 L) fun (r_146 : Int32) (f_143 : sg_F) =>
        spl (α := Int32) (f_143 0 13) fun (v_151 : Int32) =>
        spl (α := Int32) (f_143 0 16) fun (v_154 : Int32) =>
        spl (α := Int32) (f_143 0 15) fun (v_157 : Int32) =>
        sX12_workOut_b74 rec_33 x0 x1 y3_33 y4_33 r_146 1 f_143 L)) else (
      sX12_workOut_b74 rec_33 x0 x1 y3_33 y4_33 r_82 1 f_104 L))
set_option maxRecDepth 100000 in
noncomputable def sX12_workOut_l33 (x0 : Int32) (x1 : Int32) (n : Nat) : Int32 → Int32 → Int32 → sg_F → sg_L → Int32 × sg_F :=
  Nat.rec (motive := fun _ => Int32 → Int32 → Int32 → sg_F → sg_L → Int32 × sg_F) (fun _ _ _ f L => ((0 : Int32), f)) (fun _ r => sX12_workOut_h33 x0 x1 r) n
set_option maxRecDepth 100000 in
noncomputable def sX12_workOut (x0 : Int32) (x1 : Int32) (f : sg_F) (L : sg_L) : Int32 × sg_F :=
  spl (α := Int32) (f 0 15) fun (v_1 : Int32) =>
  spl (α := Int32) (f 0 16) fun (v_3 : Int32) =>
  spl (α := sg_F) (sg_up f 0 (sgu (f 0) 12 x0)) fun (f_161 : sg_F) =>
  spl (α := sg_F) (sg_up f_161 0 (sgu (f_161 0) 13 0)) fun (f_162 : sg_F) =>
  spl (α := sg_F) (sg_up f_162 0 (sgu (f_162 0) 14 x1)) fun (f_163 : sg_F) =>
  spl (α := sg_F) (sg_up f_163 0 (sgu (f_163 0) 15 (-1))) fun (f_164 : sg_F) =>
  spl (α := sg_F) (sg_up f_164 0 (sgu (f_164 0) 16 0)) fun (f_165 : sg_F) =>
  sX12_workOut_l33 x0 x1 300 0 0 1 f_165 L
set_option maxRecDepth 100000 in
noncomputable def sX12_law_h37 (rec_37 : Int32 → Int32 → sg_F → sg_L → Int32 × sg_F) (y2_37 : Int32) (y3_37 : Int32) (fp_37 : sg_F) (L : sg_L) : Int32 × sg_F :=
  spl (α := Int32) (fp_37 0 15) fun (v_1 : Int32) =>
  spl (α := Int32) (fp_37 0 9) fun (v_4 : Int32) =>
  if y3_37.toInt < y2_37.toInt then (
    spl (α := Int32) (fp_37 6 (Int32.toNatClampNeg y3_37)) fun (v_10 : Int32) =>
    spl (α := sg_F) (sg_up fp_37 7 (sgu (fp_37 7) (Int32.toNatClampNeg y3_37) v_10)) fun (f_12 : sg_F) =>
    spl (α := Int32) (y3_37 + 1) fun (v_13 : Int32) =>
    rec_37 y2_37 v_13 f_12 L) else (
    spl (α := sg_F) (sg_up fp_37 0 (sgu (fp_37 0) 11 y2_37)) fun (f_9 : sg_F) =>
    ((1 : Int32), f_9))
set_option maxRecDepth 100000 in
noncomputable def sX12_law_l37 (n : Nat) : Int32 → Int32 → sg_F → sg_L → Int32 × sg_F :=
  Nat.rec (motive := fun _ => Int32 → Int32 → sg_F → sg_L → Int32 × sg_F) (fun _ _ f L => ((0 : Int32), f)) (fun _ r => sX12_law_h37 r) n
set_option maxRecDepth 100000 in
noncomputable def sX12_law (f : sg_F) (L : sg_L) : Int32 × sg_F :=
  spl (α := Int32) (f 0 9) fun (v_15 : Int32) =>
  spl2 (sX12_workOut (-1) v_15 f L) fun (r_20 : Int32) (f_17 : sg_F) =>
  spl (α := sg_F) (sg_up f_17 0 (sgu (f_17 0) 9 0)) fun (f_22 : sg_F) =>
  spl (α := Int32) (f_22 0 15) fun (v_23 : Int32) =>
  if v_23.toInt < 0 then (
    sX12_law_l37 121 v_15 0 f_22 L) else (
    spl (α := Int32) ((-100) - v_23) fun (v_27 : Int32) =>
    ((v_27 : Int32), f_22))
set_option maxRecDepth 100000 in
noncomputable def sX12_numberOf (x0 : Int32) (x1 : Int32) (f : sg_F) (L : sg_L) : Int32 :=
  spl (α := Int32) (8 * x1) fun (v_1 : Int32) =>
  spl (α := Int32) (v_1 + x0) fun (v_3 : Int32) =>
  spl (α := Int32) (f 1 (Int32.toNatClampNeg v_3)) fun (v_5 : Int32) =>
  ((v_5 : Int32))
set_option maxRecDepth 100000 in
noncomputable def sX12_sizeOf (x0 : Int32) (f : sg_F) (L : sg_L) : Int32 :=
  if x0.toInt < 0 then (
    spl (α := Int32) ((-x0)) fun (v_3 : Int32) =>
    ((v_3 : Int32))) else (
    ((x0 : Int32)))
set_option maxRecDepth 100000 in
noncomputable def sX12_lossOf (x0 : Int32) (x1 : Int32) (x2 : Int32) (f : sg_F) (L : sg_L) : Int32 × sg_F :=
  spl (sX12_numberOf x0 x1 f L) fun (r_4 : Int32) =>
  spl (α := Int32) (x2 - r_4) fun (v_6 : Int32) =>
  spl (sX12_sizeOf v_6 f L) fun (r_11 : Int32) =>
  spl (α := Int32) (f 0 11) fun (v_13 : Int32) =>
  if v_13.toInt < 0 then (
    if r_4.toInt < x2.toInt then (
      spl (sX12_numberOf x0 3 f L) fun (r_75 : Int32) =>
      spl (α := Int32) (r_11 * r_75) fun (v_77 : Int32) =>
      spl (sX12_numberOf x0 5 f L) fun (r_81 : Int32) =>
      spl (α := Int32) (v_77 * r_81) fun (v_83 : Int32) =>
      ((v_83 : Int32), f)) else (
      spl (sX12_numberOf x0 4 f L) fun (r_63 : Int32) =>
      spl (α := Int32) (r_11 * r_63) fun (v_65 : Int32) =>
      spl (sX12_numberOf x0 5 f L) fun (r_69 : Int32) =>
      spl (α := Int32) (v_65 * r_69) fun (v_71 : Int32) =>
      ((v_71 : Int32), f))) else (
    spl (α := sg_F) (sg_up f 8 (sgu (f 8) (Int32.toNatClampNeg 0) r_11)) fun (f_17 : sg_F) =>
    if r_4.toInt < x2.toInt then (
      spl (α := sg_F) (sg_up f_17 8 (sgu (f_17 8) (Int32.toNatClampNeg 1) 1)) fun (f_39 : sg_F) =>
      spl (α := sg_F) (sg_up f_39 8 (sgu (f_39 8) (Int32.toNatClampNeg 2) x2)) fun (f_40 : sg_F) =>
      spl (α := sg_F) (sg_up f_40 8 (sgu (f_40 8) (Int32.toNatClampNeg 3) r_4)) fun (f_41 : sg_F) =>
      spl (sX12_numberOf x0 5 f_41 L) fun (r_45 : Int32) =>
      spl (α := sg_F) (sg_up f_41 8 (sgu (f_41 8) (Int32.toNatClampNeg 4) r_45)) fun (f_47 : sg_F) =>
      spl (α := sg_F) (sg_up f_47 8 (sgu (f_47 8) (Int32.toNatClampNeg 5) x1)) fun (f_48 : sg_F) =>
      spl2 (sX12_workOut 0 v_13 f_48 L) fun (r_52 : Int32) (f_49 : sg_F) =>
      if r_52.toInt < 0 then (
        ((0 : Int32), f_49)) else (
        if 9999 < r_52.toInt then (
          ((9999 : Int32), f_49)) else (
          ((r_52 : Int32), f_49)))) else (
      spl (α := sg_F) (sg_up f_17 8 (sgu (f_17 8) (Int32.toNatClampNeg 1) 0)) fun (f_20 : sg_F) =>
      spl (α := sg_F) (sg_up f_20 8 (sgu (f_20 8) (Int32.toNatClampNeg 2) x2)) fun (f_21 : sg_F) =>
      spl (α := sg_F) (sg_up f_21 8 (sgu (f_21 8) (Int32.toNatClampNeg 3) r_4)) fun (f_22 : sg_F) =>
      spl (sX12_numberOf x0 5 f_22 L) fun (r_26 : Int32) =>
      spl (α := sg_F) (sg_up f_22 8 (sgu (f_22 8) (Int32.toNatClampNeg 4) r_26)) fun (f_28 : sg_F) =>
      spl (α := sg_F) (sg_up f_28 8 (sgu (f_28 8) (Int32.toNatClampNeg 5) x1)) fun (f_29 : sg_F) =>
      spl2 (sX12_workOut 0 v_13 f_29 L) fun (r_33 : Int32) (f_30 : sg_F) =>
      if r_33.toInt < 0 then (
        ((0 : Int32), f_30)) else (
        if 9999 < r_33.toInt then (
          ((9999 : Int32), f_30)) else (
          ((r_33 : Int32), f_30)))))
set_option maxRecDepth 100000 in
noncomputable def sX12_loss (x0 : Int32) (x1 : Int32) (x2 : Int32) (f : sg_F) (L : sg_L) : Int32 × sg_F :=
  spl (α := Int64) (Int32.toInt64 x0) fun (w_1 : Int64) =>
  spl (α := Int32) (f 0 6) fun (v_3 : Int32) =>
  spl (sX12_isSitter w_1 f L) fun (r_10 : Int32) =>
  if r_10 = 1 then (
    spl (sX12_isPart x1 f L) fun (r_16 : Int32) =>
    if r_16 = 1 then (
      spl (α := Int64) (Int32.toInt64 x2) fun (w_19 : Int64) =>
      spl (sX12_isSetting w_19 f L) fun (r_24 : Int32) =>
      if r_24 = 1 then (
        spl2 (sX12_lossOf x0 x1 x2 f L) fun (r_30 : Int32) (f_27 : sg_F) =>
        ((r_30 : Int32), f_27)) else (
        (((-1) : Int32), f))) else (
      (((-1) : Int32), f))) else (
    (((-1) : Int32), f))
set_option maxRecDepth 100000 in
noncomputable def sX12_bytesIs (x0 : Int32) (f : sg_F) (L : sg_L) : Int32 :=
  spl (sX12_isShelf x0 f L) fun (r_4 : Int32) =>
  if r_4 = 1 then (
    spl (α := Int32) (f 22 (Int32.toNatClampNeg x0)) fun (v_7 : Int32) =>
    if v_7.toInt < 0 then (
      (((-11) : Int32))) else (
      if v_7.toInt = 50 then (
        ((1 : Int32))) else (
        (((-12) : Int32))))) else (
    (((-1) : Int32)))
set_option maxRecDepth 100000 in
noncomputable def sX12_shiftsOf (x0 : Int32) (f : sg_F) (L : sg_L) : Int32 :=
  spl (α := Int32) (f 23 (Int32.toNatClampNeg x0)) fun (v_1 : Int32) =>
  if v_1.toInt < 21 then (
    ((v_1 : Int32))) else (
    ((21 : Int32)))
set_option maxRecDepth 100000 in
noncomputable def sX12_whoSits (x0 : Int32) (x1 : Int32) (f : sg_F) (L : sg_L) : Int32 :=
  spl (α := Int32) (60 * x0) fun (v_1 : Int32) =>
  spl (α := Int32) (v_1 + x1) fun (v_3 : Int32) =>
  spl (α := Int64) (L 24 (Int32.toNatClampNeg v_3)) fun (w_5 : Int64) =>
  spl (α := Int32) (f 0 6) fun (v_6 : Int32) =>
  spl (sX12_isSitter w_5 f L) fun (r_13 : Int32) =>
  if r_13 = 1 then (
    spl (α := Int32) (Int64.toInt32 w_5) fun (v_16 : Int32) =>
    ((v_16 : Int32))) else (
    (((-1) : Int32)))
set_option maxRecDepth 100000 in
noncomputable def sX12_neverOf_h6 (x0 : Int32) (x1 : Int32) (x2 : Int32) (rec_6 : Int32 → Int32 → sg_F → sg_L → Int32 × sg_F) (y4_6 : Int32) (y5_6 : Int32) (fp_6 : sg_F) (L : sg_L) : Int32 × sg_F :=
  spl (sX12_shiftsOf x0 fp_6 L) fun (r_4 : Int32) =>
  if y5_6.toInt < r_4.toInt then (
    spl (sX12_whoSits x0 y5_6 fp_6 L) fun (r_11 : Int32) =>
    if r_11.toInt < 0 then (
      spl (α := Int32) (y5_6 + 1) fun (v_15 : Int32) =>
      rec_6 y4_6 v_15 fp_6 L) else (
      spl2 (sX12_lossOf r_11 x1 x2 fp_6 L) fun (r_25 : Int32) (f_22 : sg_F) =>
      spl (α := Int32) (y4_6 + r_25) fun (v_27 : Int32) =>
      spl (α := Int32) (y5_6 + 1) fun (v_28 : Int32) =>
      rec_6 v_27 v_28 f_22 L)) else (
    ((y4_6 : Int32), fp_6))
set_option maxRecDepth 100000 in
noncomputable def sX12_neverOf_l6 (x0 : Int32) (x1 : Int32) (x2 : Int32) (n : Nat) : Int32 → Int32 → sg_F → sg_L → Int32 × sg_F :=
  Nat.rec (motive := fun _ => Int32 → Int32 → sg_F → sg_L → Int32 × sg_F) (fun _ _ f L => ((0 : Int32), f)) (fun _ r => sX12_neverOf_h6 x0 x1 x2 r) n
set_option maxRecDepth 100000 in
noncomputable def sX12_neverOf (x0 : Int32) (x1 : Int32) (x2 : Int32) (f : sg_F) (L : sg_L) : Int32 × sg_F :=
  sX12_neverOf_l6 x0 x1 x2 22 0 0 f L
set_option maxRecDepth 100000 in
noncomputable def sX12_never (x0 : Int32) (x1 : Int32) (x2 : Int32) (f : sg_F) (L : sg_L) : Int32 × sg_F :=
  spl (sX12_bytesIs x0 f L) fun (r_4 : Int32) =>
  if r_4 = 1 then (
    spl (sX12_isPart x1 f L) fun (r_10 : Int32) =>
    if r_10 = 1 then (
      spl (α := Int64) (Int32.toInt64 x2) fun (w_13 : Int64) =>
      spl (sX12_isSetting w_13 f L) fun (r_18 : Int32) =>
      if r_18 = 1 then (
        spl2 (sX12_neverOf x0 x1 x2 f L) fun (r_29 : Int32) (f_26 : sg_F) =>
        ((r_29 : Int32), f_26)) else (
        (((-1) : Int32), f))) else (
      (((-1) : Int32), f))) else (
    if r_4 = (-1) then (
      (((-1) : Int32), f)) else (
      spl (sX12_isPart x1 f L) fun (r_36 : Int32) =>
      if r_36 = 1 then (
        spl (α := Int64) (Int32.toInt64 x2) fun (w_39 : Int64) =>
        spl (sX12_isSetting w_39 f L) fun (r_44 : Int32) =>
        if r_44 = 1 then (
          ((r_4 : Int32), f)) else (
          (((-1) : Int32), f))) else (
        (((-1) : Int32), f))))
set_option maxRecDepth 100000 in
noncomputable def sX12_anySits_h2 (x0 : Int32) (rec_2 : Int32 → sg_F → sg_L → Int32) (y2_2 : Int32) (f : sg_F) (L : sg_L) : Int32 :=
  spl (sX12_shiftsOf x0 f L) fun (r_4 : Int32) =>
  if y2_2.toInt < r_4.toInt then (
    spl (sX12_whoSits x0 y2_2 f L) fun (r_11 : Int32) =>
    if r_11.toInt < 0 then (
      spl (α := Int32) (y2_2 + 1) fun (v_15 : Int32) =>
      rec_2 v_15 f L) else (
      ((1 : Int32)))) else (
    ((0 : Int32)))
set_option maxRecDepth 100000 in
noncomputable def sX12_anySits_l2 (x0 : Int32) (n : Nat) : Int32 → sg_F → sg_L → Int32 :=
  Nat.rec (motive := fun _ => Int32 → sg_F → sg_L → Int32) (fun _ f L => ((0 : Int32))) (fun _ r => sX12_anySits_h2 x0 r) n
set_option maxRecDepth 100000 in
noncomputable def sX12_anySits (x0 : Int32) (f : sg_F) (L : sg_L) : Int32 :=
  sX12_anySits_l2 x0 22 0 f L
set_option maxRecDepth 100000 in
noncomputable def sX12_worstOf_h6 (x0 : Int32) (x1 : Int32) (x2 : Int32) (rec_6 : Int32 → Int32 → sg_F → sg_L → Int32 × sg_F) (y4_6 : Int32) (y5_6 : Int32) (fp_6 : sg_F) (L : sg_L) : Int32 × sg_F :=
  spl (sX12_shiftsOf x0 fp_6 L) fun (r_4 : Int32) =>
  if y5_6.toInt < r_4.toInt then (
    spl (sX12_whoSits x0 y5_6 fp_6 L) fun (r_11 : Int32) =>
    if r_11.toInt < 0 then (
      spl (α := Int32) (y5_6 + 1) fun (v_17 : Int32) =>
      rec_6 y4_6 v_17 fp_6 L) else (
      spl2 (sX12_lossOf r_11 x1 x2 fp_6 L) fun (r_27 : Int32) (f_24 : sg_F) =>
      if y4_6.toInt < r_27.toInt then (
        spl (α := Int32) (y5_6 + 1) fun (v_33 : Int32) =>
        rec_6 r_27 v_33 f_24 L) else (
        spl (α := Int32) (y5_6 + 1) fun (v_31 : Int32) =>
        rec_6 y4_6 v_31 f_24 L))) else (
    ((y4_6 : Int32), fp_6))
set_option maxRecDepth 100000 in
noncomputable def sX12_worstOf_l6 (x0 : Int32) (x1 : Int32) (x2 : Int32) (n : Nat) : Int32 → Int32 → sg_F → sg_L → Int32 × sg_F :=
  Nat.rec (motive := fun _ => Int32 → Int32 → sg_F → sg_L → Int32 × sg_F) (fun _ _ f L => ((0 : Int32), f)) (fun _ r => sX12_worstOf_h6 x0 x1 x2 r) n
set_option maxRecDepth 100000 in
noncomputable def sX12_worstOf (x0 : Int32) (x1 : Int32) (x2 : Int32) (f : sg_F) (L : sg_L) : Int32 × sg_F :=
  sX12_worstOf_l6 x0 x1 x2 22 0 0 f L
set_option maxRecDepth 100000 in
noncomputable def sX12_best_b117 (rec_64 : Int32 → Int32 → Int32 → sg_F → sg_L → Int32 × sg_F) (x0 : Int32) (x1 : Int32) (x2 : Int32) (y4_117 : Int32) (y5_117 : Int32) (y6_117 : Int32) (fp_117 : sg_F) (L : sg_L) : Int32 × sg_F :=
  spl (α := Int32) (y6_117 + 1) fun (v_1 : Int32) =>
  rec_64 y4_117 y5_117 v_1 fp_117 L
set_option maxRecDepth 100000 in
noncomputable def sX12_best_b109 (rec_64 : Int32 → Int32 → Int32 → sg_F → sg_L → Int32 × sg_F) (x0 : Int32) (x1 : Int32) (x2 : Int32) (y6_109 : Int32) (y7_109 : Int32) (fp_109 : sg_F) (L : sg_L) : Int32 × sg_F :=
  sX12_best_b117 rec_64 x0 x1 x2 y6_109 y7_109 y6_109 fp_109 L
set_option maxRecDepth 100000 in
noncomputable def sX12_best_h64 (x0 : Int32) (x1 : Int32) (x2 : Int32) (rec_64 : Int32 → Int32 → Int32 → sg_F → sg_L → Int32 × sg_F) (y4_64 : Int32) (y5_64 : Int32) (y6_64 : Int32) (fp_64 : sg_F) (L : sg_L) : Int32 × sg_F :=
  if y6_64.toInt < 61 then (
    if x2.toInt < 2 then (
      spl2 (sX12_neverOf x0 x1 y6_64 fp_64 L) fun (r_23 : Int32) (f_20 : sg_F) =>
      if y4_64.toInt < 0 then (
        sX12_best_b109 rec_64 x0 x1 x2 y6_64 r_23 f_20 L) else (
        if r_23.toInt < y5_64.toInt then (
          sX12_best_b109 rec_64 x0 x1 x2 y6_64 r_23 f_20 L) else (
          sX12_best_b117 rec_64 x0 x1 x2 y4_64 y5_64 y6_64 f_20 L))) else (
      spl2 (sX12_worstOf x0 x1 y6_64 fp_64 L) fun (r_14 : Int32) (f_11 : sg_F) =>
      if y4_64.toInt < 0 then (
        sX12_best_b109 rec_64 x0 x1 x2 y6_64 r_14 f_11 L) else (
        if r_14.toInt < y5_64.toInt then (
          sX12_best_b109 rec_64 x0 x1 x2 y6_64 r_14 f_11 L) else (
          sX12_best_b117 rec_64 x0 x1 x2 y4_64 y5_64 y6_64 f_11 L)))) else (
    spl (α := Int32) (x2 - x2 / 2 * 2) fun (v_5 : Int32) =>
    if v_5.toInt = 0 then (
      ((y4_64 : Int32), fp_64)) else (
      ((y5_64 : Int32), fp_64)))
set_option maxRecDepth 100000 in
noncomputable def sX12_best_l64 (x0 : Int32) (x1 : Int32) (x2 : Int32) (n : Nat) : Int32 → Int32 → Int32 → sg_F → sg_L → Int32 × sg_F :=
  Nat.rec (motive := fun _ => Int32 → Int32 → Int32 → sg_F → sg_L → Int32 × sg_F) (fun _ _ _ f L => ((0 : Int32), f)) (fun _ r => sX12_best_h64 x0 x1 x2 r) n
set_option maxRecDepth 100000 in
noncomputable def sX12_best (x0 : Int32) (x1 : Int32) (x2 : Int32) (f : sg_F) (L : sg_L) : Int32 × sg_F :=
  spl (sX12_bytesIs x0 f L) fun (r_32 : Int32) =>
  if r_32 = 1 then (
    spl (sX12_isPart x1 f L) fun (r_38 : Int32) =>
    if r_38 = 1 then (
      spl (α := Int64) (Int32.toInt64 x2) fun (w_41 : Int64) =>
      spl (sX12_within w_41 0 3 f L) fun (r_46 : Int32) =>
      if r_46 = 1 then (
        spl (sX12_anySits x0 f L) fun (r_59 : Int32) =>
        if r_59.toInt = 0 then (
          (((-2) : Int32), f)) else (
          sX12_best_l64 x0 x1 x2 62 (-1) 0 0 f L)) else (
        (((-1) : Int32), f))) else (
      (((-1) : Int32), f))) else (
    if r_32 = (-1) then (
      (((-1) : Int32), f)) else (
      spl (sX12_isPart x1 f L) fun (r_68 : Int32) =>
      if r_68 = 1 then (
        spl (α := Int64) (Int32.toInt64 x2) fun (w_71 : Int64) =>
        spl (sX12_within w_71 0 3 f L) fun (r_76 : Int32) =>
        if r_76 = 1 then (
          ((r_32 : Int32), f)) else (
          (((-1) : Int32), f))) else (
        (((-1) : Int32), f))))
set_option maxRecDepth 100000 in
noncomputable def sX12_weightOf (x0 : Int32) (f : sg_F) (L : sg_L) : Int32 :=
  spl (sX12_numberOf x0 5 f L) fun (r_4 : Int32) =>
  spl (sX12_numberOf x0 3 f L) fun (r_9 : Int32) =>
  spl (sX12_numberOf x0 4 f L) fun (r_14 : Int32) =>
  spl (α := Int32) (r_9 + r_14) fun (v_16 : Int32) =>
  spl (α := Int32) (r_4 * v_16) fun (v_18 : Int32) =>
  ((v_18 : Int32))
set_option maxRecDepth 100000 in
noncomputable def sX12_weightTo_h6 (x0 : Int32) (x1 : Int32) (x2 : Int32) (rec_6 : Int32 → Int32 → sg_F → sg_L → Int32) (y4_6 : Int32) (y5_6 : Int32) (f : sg_F) (L : sg_L) : Int32 :=
  spl (sX12_shiftsOf x0 f L) fun (r_4 : Int32) =>
  if y5_6.toInt < r_4.toInt then (
    spl (sX12_whoSits x0 y5_6 f L) fun (r_11 : Int32) =>
    if r_11.toInt < 0 then (
      spl (α := Int32) (y5_6 + 1) fun (v_15 : Int32) =>
      rec_6 y4_6 v_15 f L) else (
      spl (sX12_numberOf r_11 x1 f L) fun (r_20 : Int32) =>
      if x2.toInt < r_20.toInt then (
        spl (α := Int32) (y5_6 + 1) fun (v_24 : Int32) =>
        rec_6 y4_6 v_24 f L) else (
        spl (sX12_weightOf r_11 f L) fun (r_29 : Int32) =>
        spl (α := Int32) (y4_6 + r_29) fun (v_31 : Int32) =>
        spl (α := Int32) (y5_6 + 1) fun (v_32 : Int32) =>
        rec_6 v_31 v_32 f L))) else (
    ((y4_6 : Int32)))
set_option maxRecDepth 100000 in
noncomputable def sX12_weightTo_l6 (x0 : Int32) (x1 : Int32) (x2 : Int32) (n : Nat) : Int32 → Int32 → sg_F → sg_L → Int32 :=
  Nat.rec (motive := fun _ => Int32 → Int32 → sg_F → sg_L → Int32) (fun _ _ f L => ((0 : Int32))) (fun _ r => sX12_weightTo_h6 x0 x1 x2 r) n
set_option maxRecDepth 100000 in
noncomputable def sX12_weightTo (x0 : Int32) (x1 : Int32) (x2 : Int32) (f : sg_F) (L : sg_L) : Int32 :=
  sX12_weightTo_l6 x0 x1 x2 22 0 0 f L
set_option maxRecDepth 100000 in
noncomputable def sX12_isWanted_b41 (rec_3 : Int32 → sg_F → sg_L → Int32) (x0 : Int32) (x1 : Int32) (x2 : Int32) (y4_41 : Int32) (f : sg_F) (L : sg_L) : Int32 :=
  spl (α := Int32) (y4_41 + 1) fun (v_1 : Int32) =>
  rec_3 v_1 f L
set_option maxRecDepth 100000 in
noncomputable def sX12_isWanted_h3 (x0 : Int32) (x1 : Int32) (x2 : Int32) (rec_3 : Int32 → sg_F → sg_L → Int32) (y4_3 : Int32) (f : sg_F) (L : sg_L) : Int32 :=
  spl (sX12_shiftsOf x0 f L) fun (r_6 : Int32) =>
  if y4_3.toInt < r_6.toInt then (
    spl (sX12_whoSits x0 y4_3 f L) fun (r_13 : Int32) =>
    if r_13.toInt < 0 then (
      sX12_isWanted_b41 rec_3 x0 x1 x2 y4_3 f L) else (
      spl (sX12_numberOf r_13 x1 f L) fun (r_25 : Int32) =>
      if r_25.toInt = x2.toInt then (
        ((1 : Int32))) else (
        sX12_isWanted_b41 rec_3 x0 x1 x2 y4_3 f L))) else (
    ((0 : Int32)))
set_option maxRecDepth 100000 in
noncomputable def sX12_isWanted_l3 (x0 : Int32) (x1 : Int32) (x2 : Int32) (n : Nat) : Int32 → sg_F → sg_L → Int32 :=
  Nat.rec (motive := fun _ => Int32 → sg_F → sg_L → Int32) (fun _ f L => ((0 : Int32))) (fun _ r => sX12_isWanted_h3 x0 x1 x2 r) n
set_option maxRecDepth 100000 in
noncomputable def sX12_isWanted (x0 : Int32) (x1 : Int32) (x2 : Int32) (f : sg_F) (L : sg_L) : Int32 :=
  sX12_isWanted_l3 x0 x1 x2 22 0 f L
set_option maxRecDepth 100000 in
noncomputable def sX12_middle_b79 (rec_44 : Int32 → Int32 → sg_F → sg_L → Int32) (x0 : Int32) (x1 : Int32) (y3_79 : Int32) (y4_79 : Int32) (f : sg_F) (L : sg_L) : Int32 :=
  spl (α := Int32) (y4_79 + 1) fun (v_1 : Int32) =>
  rec_44 y3_79 v_1 f L
set_option maxRecDepth 100000 in
noncomputable def sX12_middle_h44 (x0 : Int32) (x1 : Int32) (rec_44 : Int32 → Int32 → sg_F → sg_L → Int32) (y3_44 : Int32) (y4_44 : Int32) (f : sg_F) (L : sg_L) : Int32 :=
  if y4_44.toInt < 61 then (
    spl (sX12_isWanted x0 x1 y4_44 f L) fun (r_8 : Int32) =>
    if r_8.toInt = 0 then (
      sX12_middle_b79 rec_44 x0 x1 y3_44 y4_44 f L) else (
      spl (sX12_weightTo x0 x1 y4_44 f L) fun (r_15 : Int32) =>
      spl (α := Int32) (2 * r_15) fun (v_17 : Int32) =>
      if v_17.toInt < y3_44.toInt then (
        sX12_middle_b79 rec_44 x0 x1 y3_44 y4_44 f L) else (
        ((y4_44 : Int32))))) else (
    (((-2) : Int32)))
set_option maxRecDepth 100000 in
noncomputable def sX12_middle_l44 (x0 : Int32) (x1 : Int32) (n : Nat) : Int32 → Int32 → sg_F → sg_L → Int32 :=
  Nat.rec (motive := fun _ => Int32 → Int32 → sg_F → sg_L → Int32) (fun _ _ f L => ((0 : Int32))) (fun _ r => sX12_middle_h44 x0 x1 r) n
set_option maxRecDepth 100000 in
noncomputable def sX12_middle (x0 : Int32) (x1 : Int32) (f : sg_F) (L : sg_L) : Int32 :=
  spl (sX12_bytesIs x0 f L) fun (r_23 : Int32) =>
  if r_23 = 1 then (
    spl (sX12_isPart x1 f L) fun (r_29 : Int32) =>
    if r_29 = 1 then (
      spl (sX12_weightTo x0 x1 60 f L) fun (r_40 : Int32) =>
      sX12_middle_l44 x0 x1 62 r_40 0 f L) else (
      (((-1) : Int32)))) else (
    if r_23 = (-1) then (
      (((-1) : Int32))) else (
      spl (sX12_isPart x1 f L) fun (r_47 : Int32) =>
      if r_47 = 1 then (
        ((r_23 : Int32))) else (
        (((-1) : Int32)))))
set_option maxRecDepth 100000 in
noncomputable def sX12_asksLosses_h14 (rec_2 : Int32 → sg_F → sg_L → sg_F) (x0 : Int32) (x1 : Int32) (rec_14 : Int32 → Int32 → sg_F → sg_L → sg_F) (y3_14 : Int32) (y4_14 : Int32) (fp_14 : sg_F) (L : sg_L) : sg_F :=
  if y4_14.toInt < 61 then (
    spl (α := Int32) (61 * y3_14) fun (v_5 : Int32) =>
    spl (α := Int32) (v_5 + y4_14) fun (v_7 : Int32) =>
    spl (sX12_whoSits x0 y3_14 fp_14 L) fun (r_12 : Int32) =>
    if r_12.toInt < 0 then (
      spl (α := sg_F) (sg_up fp_14 9 (sgu (fp_14 9) (Int32.toNatClampNeg v_7) 0)) fun (f_16 : sg_F) =>
      spl (α := Int32) (y4_14 + 1) fun (v_17 : Int32) =>
      rec_14 y3_14 v_17 f_16 L) else (
      spl2 (sX12_lossOf r_12 x1 y4_14 fp_14 L) fun (r_27 : Int32) (f_24 : sg_F) =>
      spl (α := sg_F) (sg_up f_24 9 (sgu (f_24 9) (Int32.toNatClampNeg v_7) r_27)) fun (f_29 : sg_F) =>
      spl (α := Int32) (y4_14 + 1) fun (v_30 : Int32) =>
      rec_14 y3_14 v_30 f_29 L)) else (
    spl (α := Int32) (y3_14 + 1) fun (v_3 : Int32) =>
    rec_2 v_3 fp_14 L)
set_option maxRecDepth 100000 in
noncomputable def sX12_asksLosses_l14 (rec_2 : Int32 → sg_F → sg_L → sg_F) (x0 : Int32) (x1 : Int32) (n : Nat) : Int32 → Int32 → sg_F → sg_L → sg_F :=
  Nat.rec (motive := fun _ => Int32 → Int32 → sg_F → sg_L → sg_F) (fun _ _ f L => (f)) (fun _ r => sX12_asksLosses_h14 rec_2 x0 x1 r) n
set_option maxRecDepth 100000 in
noncomputable def sX12_asksLosses_h2 (x0 : Int32) (x1 : Int32) (rec_2 : Int32 → sg_F → sg_L → sg_F) (y3_2 : Int32) (fp_2 : sg_F) (L : sg_L) : sg_F :=
  spl (sX12_shiftsOf x0 fp_2 L) fun (r_35 : Int32) =>
  if y3_2.toInt < r_35.toInt then (
    sX12_asksLosses_l14 rec_2 x0 x1 62 y3_2 0 fp_2 L) else (
    (fp_2))
set_option maxRecDepth 100000 in
noncomputable def sX12_asksLosses_l2 (x0 : Int32) (x1 : Int32) (n : Nat) : Int32 → sg_F → sg_L → sg_F :=
  Nat.rec (motive := fun _ => Int32 → sg_F → sg_L → sg_F) (fun _ f L => (f)) (fun _ r => sX12_asksLosses_h2 x0 x1 r) n
set_option maxRecDepth 100000 in
noncomputable def sX12_asksLosses (x0 : Int32) (x1 : Int32) (f : sg_F) (L : sg_L) : sg_F :=
  sX12_asksLosses_l2 x0 x1 22 0 f L
set_option maxRecDepth 100000 in
noncomputable def sX12_slipped (x0 : Int32) (x1 : Int32) (f : sg_F) (L : sg_L) : Int32 :=
  spl (α := Int32) (64 + x0) fun (v_1 : Int32) =>
  spl (α := Int32) (f 1 (Int32.toNatClampNeg v_1)) fun (v_3 : Int32) =>
  spl (α := Int32) (x1 - v_3) fun (v_6 : Int32) =>
  if v_6.toInt < 0 then (
    ((0 : Int32))) else (
    ((v_6 : Int32)))
set_option maxRecDepth 100000 in
noncomputable def sX12_costBy (x0 : Int32) (x1 : Int32) (x2 : Int32) (x3 : Int32) (f : sg_F) (L : sg_L) : Int32 :=
  spl (α := Int32) (x3 - x2) fun (v_1 : Int32) =>
  spl (sX12_sizeOf v_1 f L) fun (r_6 : Int32) =>
  spl (α := Int32) (67 + x0) fun (v_8 : Int32) =>
  spl (α := Int32) (f 1 (Int32.toNatClampNeg v_8)) fun (v_10 : Int32) =>
  spl (α := Int32) (r_6 * v_10) fun (v_13 : Int32) =>
  spl (α := Int32) (61 * x1) fun (v_14 : Int32) =>
  spl (α := Int32) (v_14 + x3) fun (v_16 : Int32) =>
  spl (α := Int32) (f 9 (Int32.toNatClampNeg v_16)) fun (v_18 : Int32) =>
  spl (α := Int32) (v_13 + v_18) fun (v_19 : Int32) =>
  spl (α := Int32) (x1 + 1) fun (v_20 : Int32) =>
  spl (α := Int32) (61 * v_20) fun (v_22 : Int32) =>
  spl (sX12_slipped x0 x3 f L) fun (r_27 : Int32) =>
  spl (α := Int32) (v_22 + r_27) fun (v_29 : Int32) =>
  spl (α := Int32) (f 10 (Int32.toNatClampNeg v_29)) fun (v_31 : Int32) =>
  spl (α := Int32) (v_19 + v_31) fun (v_32 : Int32) =>
  ((v_32 : Int32))
set_option maxRecDepth 100000 in
noncomputable def sX12_shifts_b303 (x0 : Int32) (x1 : Int32) (x2 : Int32) (y4_303 : Int32) (y6_303 : Int32) (fp_303 : sg_F) (L : sg_L) : Int32 × sg_F :=
  if x2.toInt < y4_303.toInt then (
    ((y6_303 : Int32), fp_303)) else (
    (((-2) : Int32), fp_303))
set_option maxRecDepth 100000 in
noncomputable def sX12_shifts_b288 (rec_216 : Int32 → Int32 → Int32 → Int32 → sg_F → sg_L → Int32 × sg_F) (x0 : Int32) (x1 : Int32) (x2 : Int32) (y4_288 : Int32) (y6_288 : Int32) (y7_288 : Int32) (fp_288 : sg_F) (L : sg_L) : Int32 × sg_F :=
  spl (sX12_slipped x1 y6_288 fp_288 L) fun (r_6 : Int32) =>
  spl (α := Int32) (y7_288 + 1) fun (v_8 : Int32) =>
  rec_216 y4_288 r_6 y6_288 v_8 fp_288 L
set_option maxRecDepth 100000 in
noncomputable def sX12_shifts_h235 (rec_216 : Int32 → Int32 → Int32 → Int32 → sg_F → sg_L → Int32 × sg_F) (x0 : Int32) (x1 : Int32) (x2 : Int32) (rec_235 : Int32 → Int32 → Int32 → Int32 → Int32 → sg_F → sg_L → Int32 × sg_F) (y4_235 : Int32) (y5_235 : Int32) (y6_235 : Int32) (y7_235 : Int32) (y8_235 : Int32) (fp_235 : sg_F) (L : sg_L) : Int32 × sg_F :=
  if y8_235.toInt < 61 then (
    if y6_235.toInt < 0 then (
      spl (sX12_costBy x1 y7_235 y5_235 y8_235 fp_235 L) fun (r_17 : Int32) =>
      spl (α := Int32) (61 * y7_235) fun (v_19 : Int32) =>
      spl (α := Int32) (v_19 + y5_235) fun (v_21 : Int32) =>
      spl (α := Int32) (fp_235 10 (Int32.toNatClampNeg v_21)) fun (v_23 : Int32) =>
      if r_17.toInt = v_23.toInt then (
        spl (α := Int32) (y8_235 + 1) fun (v_28 : Int32) =>
        rec_235 y4_235 y5_235 y8_235 y7_235 v_28 fp_235 L) else (
        spl (α := Int32) (y8_235 + 1) fun (v_26 : Int32) =>
        rec_235 y4_235 y5_235 (-1) y7_235 v_26 fp_235 L)) else (
      sX12_shifts_b288 rec_216 x0 x1 x2 y4_235 y6_235 y7_235 fp_235 L)) else (
    sX12_shifts_b288 rec_216 x0 x1 x2 y4_235 y6_235 y7_235 fp_235 L)
set_option maxRecDepth 100000 in
noncomputable def sX12_shifts_l235 (rec_216 : Int32 → Int32 → Int32 → Int32 → sg_F → sg_L → Int32 × sg_F) (x0 : Int32) (x1 : Int32) (x2 : Int32) (n : Nat) : Int32 → Int32 → Int32 → Int32 → Int32 → sg_F → sg_L → Int32 × sg_F :=
  Nat.rec (motive := fun _ => Int32 → Int32 → Int32 → Int32 → Int32 → sg_F → sg_L → Int32 × sg_F) (fun _ _ _ _ _ f L => ((0 : Int32), f)) (fun _ r => sX12_shifts_h235 rec_216 x0 x1 x2 r) n
set_option maxRecDepth 100000 in
noncomputable def sX12_shifts_h216 (x0 : Int32) (x1 : Int32) (x2 : Int32) (rec_216 : Int32 → Int32 → Int32 → Int32 → sg_F → sg_L → Int32 × sg_F) (y4_216 : Int32) (y5_216 : Int32) (y6_216 : Int32) (y7_216 : Int32) (fp_216 : sg_F) (L : sg_L) : Int32 × sg_F :=
  if y7_216.toInt < y4_216.toInt then (
    if x2.toInt < y7_216.toInt then (
      sX12_shifts_b303 x0 x1 x2 y4_216 y6_216 fp_216 L) else (
      sX12_shifts_l235 rec_216 x0 x1 x2 62 y4_216 y5_216 (-1) y7_216 0 fp_216 L)) else (
    sX12_shifts_b303 x0 x1 x2 y4_216 y6_216 fp_216 L)
set_option maxRecDepth 100000 in
noncomputable def sX12_shifts_l216 (x0 : Int32) (x1 : Int32) (x2 : Int32) (n : Nat) : Int32 → Int32 → Int32 → Int32 → sg_F → sg_L → Int32 × sg_F :=
  Nat.rec (motive := fun _ => Int32 → Int32 → Int32 → Int32 → sg_F → sg_L → Int32 × sg_F) (fun _ _ _ _ f L => ((0 : Int32), f)) (fun _ r => sX12_shifts_h216 x0 x1 x2 r) n
set_option maxRecDepth 100000 in
noncomputable def sX12_shifts_h116 (rec_86 : Int32 → Int32 → sg_F → sg_L → Int32 × sg_F) (rec_94 : Int32 → Int32 → Int32 → sg_F → sg_L → Int32 × sg_F) (x0 : Int32) (x1 : Int32) (x2 : Int32) (rec_116 : Int32 → Int32 → Int32 → Int32 → Int32 → sg_F → sg_L → Int32 × sg_F) (y4_116 : Int32) (y5_116 : Int32) (y6_116 : Int32) (y7_116 : Int32) (y8_116 : Int32) (fp_116 : sg_F) (L : sg_L) : Int32 × sg_F :=
  if y8_116.toInt < 61 then (
    spl (sX12_costBy x1 y5_116 y6_116 y8_116 fp_116 L) fun (r_46 : Int32) =>
    if r_46.toInt < y7_116.toInt then (
      spl (α := Int32) (y8_116 + 1) fun (v_52 : Int32) =>
      rec_116 y4_116 y5_116 y6_116 r_46 v_52 fp_116 L) else (
      spl (α := Int32) (y8_116 + 1) fun (v_50 : Int32) =>
      rec_116 y4_116 y5_116 y6_116 y7_116 v_50 fp_116 L)) else (
    spl (α := Int32) (61 * y5_116) fun (v_36 : Int32) =>
    spl (α := Int32) (v_36 + y6_116) fun (v_38 : Int32) =>
    spl (α := sg_F) (sg_up fp_116 10 (sgu (fp_116 10) (Int32.toNatClampNeg v_38) y7_116)) fun (f_40 : sg_F) =>
    spl (α := Int32) (y6_116 + 1) fun (v_41 : Int32) =>
    rec_94 y4_116 y5_116 v_41 f_40 L)
set_option maxRecDepth 100000 in
noncomputable def sX12_shifts_l116 (rec_86 : Int32 → Int32 → sg_F → sg_L → Int32 × sg_F) (rec_94 : Int32 → Int32 → Int32 → sg_F → sg_L → Int32 × sg_F) (x0 : Int32) (x1 : Int32) (x2 : Int32) (n : Nat) : Int32 → Int32 → Int32 → Int32 → Int32 → sg_F → sg_L → Int32 × sg_F :=
  Nat.rec (motive := fun _ => Int32 → Int32 → Int32 → Int32 → Int32 → sg_F → sg_L → Int32 × sg_F) (fun _ _ _ _ _ f L => ((0 : Int32), f)) (fun _ r => sX12_shifts_h116 rec_86 rec_94 x0 x1 x2 r) n
set_option maxRecDepth 100000 in
noncomputable def sX12_shifts_h94 (rec_86 : Int32 → Int32 → sg_F → sg_L → Int32 × sg_F) (x0 : Int32) (x1 : Int32) (x2 : Int32) (rec_94 : Int32 → Int32 → Int32 → sg_F → sg_L → Int32 × sg_F) (y4_94 : Int32) (y5_94 : Int32) (y6_94 : Int32) (fp_94 : sg_F) (L : sg_L) : Int32 × sg_F :=
  if y6_94.toInt < 61 then (
    spl (sX12_costBy x1 y5_94 y6_94 0 fp_94 L) fun (r_61 : Int32) =>
    sX12_shifts_l116 rec_86 rec_94 x0 x1 x2 61 y4_94 y5_94 y6_94 r_61 1 fp_94 L) else (
    spl (α := Int32) (y5_94 + (-1)) fun (v_56 : Int32) =>
    rec_86 y4_94 v_56 fp_94 L)
set_option maxRecDepth 100000 in
noncomputable def sX12_shifts_l94 (rec_86 : Int32 → Int32 → sg_F → sg_L → Int32 × sg_F) (x0 : Int32) (x1 : Int32) (x2 : Int32) (n : Nat) : Int32 → Int32 → Int32 → sg_F → sg_L → Int32 × sg_F :=
  Nat.rec (motive := fun _ => Int32 → Int32 → Int32 → sg_F → sg_L → Int32 × sg_F) (fun _ _ _ f L => ((0 : Int32), f)) (fun _ r => sX12_shifts_h94 rec_86 x0 x1 x2 r) n
set_option maxRecDepth 100000 in
noncomputable def sX12_shifts_h86 (x0 : Int32) (x1 : Int32) (x2 : Int32) (rec_86 : Int32 → Int32 → sg_F → sg_L → Int32 × sg_F) (y4_86 : Int32) (y5_86 : Int32) (fp_86 : sg_F) (L : sg_L) : Int32 × sg_F :=
  if y5_86.toInt < 0 then (
    if x2.toInt < 0 then (
      spl (α := Int32) (fp_86 5 (Int32.toNatClampNeg x1)) fun (v_69 : Int32) =>
      spl (α := Int32) (fp_86 10 (Int32.toNatClampNeg v_69)) fun (v_71 : Int32) =>
      ((v_71 : Int32), fp_86)) else (
      spl (α := Int32) (fp_86 5 (Int32.toNatClampNeg x1)) fun (v_67 : Int32) =>
      sX12_shifts_l216 x0 x1 x2 22 y4_86 v_67 (-2) 0 fp_86 L)) else (
    sX12_shifts_l94 rec_86 x0 x1 x2 62 y4_86 y5_86 0 fp_86 L)
set_option maxRecDepth 100000 in
noncomputable def sX12_shifts_l86 (x0 : Int32) (x1 : Int32) (x2 : Int32) (n : Nat) : Int32 → Int32 → sg_F → sg_L → Int32 × sg_F :=
  Nat.rec (motive := fun _ => Int32 → Int32 → sg_F → sg_L → Int32 × sg_F) (fun _ _ f L => ((0 : Int32), f)) (fun _ r => sX12_shifts_h86 x0 x1 x2 r) n
set_option maxRecDepth 100000 in
noncomputable def sX12_shifts_h53 (x0 : Int32) (x1 : Int32) (x2 : Int32) (rec_53 : Int32 → Int32 → sg_F → sg_L → Int32 × sg_F) (y4_53 : Int32) (y5_53 : Int32) (fp_53 : sg_F) (L : sg_L) : Int32 × sg_F :=
  if y5_53.toInt < 61 then (
    spl (α := Int32) (61 * y4_53) fun (v_76 : Int32) =>
    spl (α := Int32) (v_76 + y5_53) fun (v_78 : Int32) =>
    spl (α := sg_F) (sg_up fp_53 10 (sgu (fp_53 10) (Int32.toNatClampNeg v_78) 0)) fun (f_80 : sg_F) =>
    spl (α := Int32) (y5_53 + 1) fun (v_81 : Int32) =>
    rec_53 y4_53 v_81 f_80 L) else (
    spl (α := Int32) (y4_53 - 1) fun (v_74 : Int32) =>
    sX12_shifts_l86 x0 x1 x2 22 y4_53 v_74 fp_53 L)
set_option maxRecDepth 100000 in
noncomputable def sX12_shifts_l53 (x0 : Int32) (x1 : Int32) (x2 : Int32) (n : Nat) : Int32 → Int32 → sg_F → sg_L → Int32 × sg_F :=
  Nat.rec (motive := fun _ => Int32 → Int32 → sg_F → sg_L → Int32 × sg_F) (fun _ _ f L => ((0 : Int32), f)) (fun _ r => sX12_shifts_h53 x0 x1 x2 r) n
set_option maxRecDepth 100000 in
noncomputable def sX12_shifts (x0 : Int32) (x1 : Int32) (x2 : Int32) (f : sg_F) (L : sg_L) : Int32 × sg_F :=
  spl (sX12_bytesIs x0 f L) fun (r_86 : Int32) =>
  if r_86 = 1 then (
    spl (sX12_isPart x1 f L) fun (r_92 : Int32) =>
    if r_92 = 1 then (
      if x2.toInt < (-1) then (
        (((-1) : Int32), f)) else (
        spl (sX12_shiftsOf x0 f L) fun (r_105 : Int32) =>
        spl (sX12_asksLosses x0 x1 f L) fun (f_107 : sg_F) =>
        sX12_shifts_l53 x0 x1 x2 62 r_105 0 f_107 L)) else (
      (((-1) : Int32), f))) else (
    if r_86 = (-1) then (
      (((-1) : Int32), f)) else (
      spl (sX12_isPart x1 f L) fun (r_116 : Int32) =>
      if r_116 = 1 then (
        if x2.toInt < (-1) then (
          (((-1) : Int32), f)) else (
          ((r_86 : Int32), f))) else (
        (((-1) : Int32), f))))
set_option maxRecDepth 100000 in
noncomputable def sX12_once_b245 (rec_71 : Int32 → Int32 → Int32 → Int32 → Int32 → sg_F → sg_L → Int32 × sg_F) (rec_81 : Int32 → Int32 → Int32 → Int32 → Int32 → Int32 → sg_F → sg_L → Int32 × sg_F) (x0 : Int32) (x1 : Int32) (x2 : Int32) (y4_245 : Int32) (y5_245 : Int32) (y6_245 : Int32) (y7_245 : Int32) (y8_245 : Int32) (y9_245 : Int32) (fp_245 : sg_F) (L : sg_L) : Int32 × sg_F :=
  spl (α := Int32) (y9_245 + 1) fun (v_1 : Int32) =>
  rec_81 y4_245 y5_245 y6_245 y7_245 y8_245 v_1 fp_245 L
set_option maxRecDepth 100000 in
noncomputable def sX12_once_b213 (rec_71 : Int32 → Int32 → Int32 → Int32 → Int32 → sg_F → sg_L → Int32 × sg_F) (rec_81 : Int32 → Int32 → Int32 → Int32 → Int32 → Int32 → sg_F → sg_L → Int32 × sg_F) (x0 : Int32) (x1 : Int32) (x2 : Int32) (y11_213 : Int32) (y4_213 : Int32) (y8_213 : Int32) (y9_213 : Int32) (fp_213 : sg_F) (L : sg_L) : Int32 × sg_F :=
  if y8_213.toInt < 0 then (
    sX12_once_b245 rec_71 rec_81 x0 x1 x2 y4_213 y11_213 (-2) (-2) y8_213 y9_213 fp_213 L) else (
    sX12_once_b245 rec_71 rec_81 x0 x1 x2 y4_213 y11_213 y8_213 y9_213 y8_213 y9_213 fp_213 L)
set_option maxRecDepth 100000 in
noncomputable def sX12_once_h111 (rec_71 : Int32 → Int32 → Int32 → Int32 → Int32 → sg_F → sg_L → Int32 × sg_F) (rec_81 : Int32 → Int32 → Int32 → Int32 → Int32 → Int32 → sg_F → sg_L → Int32 × sg_F) (x0 : Int32) (x1 : Int32) (x2 : Int32) (rec_111 : Int32 → Int32 → Int32 → Int32 → Int32 → Int32 → Int32 → Int32 → Int32 → sg_F → sg_L → Int32 × sg_F) (y10_111 : Int32) (y11_111 : Int32) (y12_111 : Int32) (y4_111 : Int32) (y5_111 : Int32) (y6_111 : Int32) (y7_111 : Int32) (y8_111 : Int32) (y9_111 : Int32) (fp_111 : sg_F) (L : sg_L) : Int32 × sg_F :=
  if y12_111.toInt < y4_111.toInt then (
    if y12_111.toInt = y8_111.toInt then (
      spl (α := Int32) (y9_111 - y10_111) fun (v_45 : Int32) =>
      spl (sX12_sizeOf v_45 fp_111 L) fun (r_50 : Int32) =>
      spl (α := Int32) (67 + x1) fun (v_52 : Int32) =>
      spl (α := Int32) (fp_111 1 (Int32.toNatClampNeg v_52)) fun (v_54 : Int32) =>
      spl (α := Int32) (r_50 * v_54) fun (v_57 : Int32) =>
      spl (α := Int32) (y11_111 + v_57) fun (v_58 : Int32) =>
      if y12_111.toInt = y8_111.toInt then (
        spl (α := Int32) (61 * y12_111) fun (v_74 : Int32) =>
        spl (α := Int32) (v_74 + y9_111) fun (v_76 : Int32) =>
        spl (α := Int32) (fp_111 9 (Int32.toNatClampNeg v_76)) fun (v_78 : Int32) =>
        spl (α := Int32) (v_58 + v_78) fun (v_79 : Int32) =>
        spl (sX12_slipped x1 y9_111 fp_111 L) fun (r_83 : Int32) =>
        spl (α := Int32) (y12_111 + 1) fun (v_85 : Int32) =>
        rec_111 r_83 v_79 v_85 y4_111 y5_111 y6_111 y7_111 y8_111 y9_111 fp_111 L) else (
        spl (α := Int32) (61 * y12_111) fun (v_61 : Int32) =>
        spl (α := Int32) (v_61 + y10_111) fun (v_63 : Int32) =>
        spl (α := Int32) (fp_111 9 (Int32.toNatClampNeg v_63)) fun (v_65 : Int32) =>
        spl (α := Int32) (v_58 + v_65) fun (v_66 : Int32) =>
        spl (sX12_slipped x1 y10_111 fp_111 L) fun (r_70 : Int32) =>
        spl (α := Int32) (y12_111 + 1) fun (v_72 : Int32) =>
        rec_111 r_70 v_66 v_72 y4_111 y5_111 y6_111 y7_111 y8_111 y9_111 fp_111 L)) else (
      if y12_111.toInt = y8_111.toInt then (
        spl (α := Int32) (61 * y12_111) fun (v_32 : Int32) =>
        spl (α := Int32) (v_32 + y9_111) fun (v_34 : Int32) =>
        spl (α := Int32) (fp_111 9 (Int32.toNatClampNeg v_34)) fun (v_36 : Int32) =>
        spl (α := Int32) (y11_111 + v_36) fun (v_37 : Int32) =>
        spl (sX12_slipped x1 y9_111 fp_111 L) fun (r_41 : Int32) =>
        spl (α := Int32) (y12_111 + 1) fun (v_43 : Int32) =>
        rec_111 r_41 v_37 v_43 y4_111 y5_111 y6_111 y7_111 y8_111 y9_111 fp_111 L) else (
        spl (α := Int32) (61 * y12_111) fun (v_19 : Int32) =>
        spl (α := Int32) (v_19 + y10_111) fun (v_21 : Int32) =>
        spl (α := Int32) (fp_111 9 (Int32.toNatClampNeg v_21)) fun (v_23 : Int32) =>
        spl (α := Int32) (y11_111 + v_23) fun (v_24 : Int32) =>
        spl (sX12_slipped x1 y10_111 fp_111 L) fun (r_28 : Int32) =>
        spl (α := Int32) (y12_111 + 1) fun (v_30 : Int32) =>
        rec_111 r_28 v_24 v_30 y4_111 y5_111 y6_111 y7_111 y8_111 y9_111 fp_111 L))) else (
    if y8_111.toInt < 0 then (
      sX12_once_b213 rec_71 rec_81 x0 x1 x2 y11_111 y4_111 y8_111 y9_111 fp_111 L) else (
      if y11_111.toInt < y5_111.toInt then (
        sX12_once_b213 rec_71 rec_81 x0 x1 x2 y11_111 y4_111 y8_111 y9_111 fp_111 L) else (
        sX12_once_b245 rec_71 rec_81 x0 x1 x2 y4_111 y5_111 y6_111 y7_111 y8_111 y9_111 fp_111 L)))
set_option maxRecDepth 100000 in
noncomputable def sX12_once_l111 (rec_71 : Int32 → Int32 → Int32 → Int32 → Int32 → sg_F → sg_L → Int32 × sg_F) (rec_81 : Int32 → Int32 → Int32 → Int32 → Int32 → Int32 → sg_F → sg_L → Int32 × sg_F) (x0 : Int32) (x1 : Int32) (x2 : Int32) (n : Nat) : Int32 → Int32 → Int32 → Int32 → Int32 → Int32 → Int32 → Int32 → Int32 → sg_F → sg_L → Int32 × sg_F :=
  Nat.rec (motive := fun _ => Int32 → Int32 → Int32 → Int32 → Int32 → Int32 → Int32 → Int32 → Int32 → sg_F → sg_L → Int32 × sg_F) (fun _ _ _ _ _ _ _ _ _ f L => ((0 : Int32), f)) (fun _ r => sX12_once_h111 rec_71 rec_81 x0 x1 x2 r) n
set_option maxRecDepth 100000 in
noncomputable def sX12_once_h81 (rec_71 : Int32 → Int32 → Int32 → Int32 → Int32 → sg_F → sg_L → Int32 × sg_F) (x0 : Int32) (x1 : Int32) (x2 : Int32) (rec_81 : Int32 → Int32 → Int32 → Int32 → Int32 → Int32 → sg_F → sg_L → Int32 × sg_F) (y4_81 : Int32) (y5_81 : Int32) (y6_81 : Int32) (y7_81 : Int32) (y8_81 : Int32) (y9_81 : Int32) (fp_81 : sg_F) (L : sg_L) : Int32 × sg_F :=
  if y8_81.toInt < 0 then (
    if y9_81.toInt < 1 then (
      spl (α := Int32) (fp_81 5 (Int32.toNatClampNeg x1)) fun (v_99 : Int32) =>
      sX12_once_l111 rec_71 rec_81 x0 x1 x2 22 v_99 0 0 y4_81 y5_81 y6_81 y7_81 y8_81 y9_81 fp_81 L) else (
      spl (α := Int32) (y8_81 + 1) fun (v_97 : Int32) =>
      rec_71 y4_81 y5_81 y6_81 y7_81 v_97 fp_81 L)) else (
    if y9_81.toInt < 61 then (
      spl (α := Int32) (fp_81 5 (Int32.toNatClampNeg x1)) fun (v_93 : Int32) =>
      sX12_once_l111 rec_71 rec_81 x0 x1 x2 22 v_93 0 0 y4_81 y5_81 y6_81 y7_81 y8_81 y9_81 fp_81 L) else (
      spl (α := Int32) (y8_81 + 1) fun (v_91 : Int32) =>
      rec_71 y4_81 y5_81 y6_81 y7_81 v_91 fp_81 L))
set_option maxRecDepth 100000 in
noncomputable def sX12_once_l81 (rec_71 : Int32 → Int32 → Int32 → Int32 → Int32 → sg_F → sg_L → Int32 × sg_F) (x0 : Int32) (x1 : Int32) (x2 : Int32) (n : Nat) : Int32 → Int32 → Int32 → Int32 → Int32 → Int32 → sg_F → sg_L → Int32 × sg_F :=
  Nat.rec (motive := fun _ => Int32 → Int32 → Int32 → Int32 → Int32 → Int32 → sg_F → sg_L → Int32 × sg_F) (fun _ _ _ _ _ _ f L => ((0 : Int32), f)) (fun _ r => sX12_once_h81 rec_71 x0 x1 x2 r) n
set_option maxRecDepth 100000 in
noncomputable def sX12_once_h71 (x0 : Int32) (x1 : Int32) (x2 : Int32) (rec_71 : Int32 → Int32 → Int32 → Int32 → Int32 → sg_F → sg_L → Int32 × sg_F) (y4_71 : Int32) (y5_71 : Int32) (y6_71 : Int32) (y7_71 : Int32) (y8_71 : Int32) (fp_71 : sg_F) (L : sg_L) : Int32 × sg_F :=
  if y8_71.toInt < y4_71.toInt then (
    sX12_once_l81 rec_71 x0 x1 x2 62 y4_71 y5_71 y6_71 y7_71 y8_71 0 fp_71 L) else (
    if x2.toInt = 0 then (
      ((y5_71 : Int32), fp_71)) else (
      if x2.toInt = 1 then (
        ((y6_71 : Int32), fp_71)) else (
        ((y7_71 : Int32), fp_71))))
set_option maxRecDepth 100000 in
noncomputable def sX12_once_l71 (x0 : Int32) (x1 : Int32) (x2 : Int32) (n : Nat) : Int32 → Int32 → Int32 → Int32 → Int32 → sg_F → sg_L → Int32 × sg_F :=
  Nat.rec (motive := fun _ => Int32 → Int32 → Int32 → Int32 → Int32 → sg_F → sg_L → Int32 × sg_F) (fun _ _ _ _ _ f L => ((0 : Int32), f)) (fun _ r => sX12_once_h71 x0 x1 x2 r) n
set_option maxRecDepth 100000 in
noncomputable def sX12_once (x0 : Int32) (x1 : Int32) (x2 : Int32) (f : sg_F) (L : sg_L) : Int32 × sg_F :=
  spl (sX12_bytesIs x0 f L) fun (r_110 : Int32) =>
  if r_110 = 1 then (
    spl (sX12_isPart x1 f L) fun (r_116 : Int32) =>
    if r_116 = 1 then (
      spl (α := Int64) (Int32.toInt64 x2) fun (w_119 : Int64) =>
      spl (sX12_within w_119 0 2 f L) fun (r_124 : Int32) =>
      if r_124 = 1 then (
        spl (sX12_shiftsOf x0 f L) fun (r_137 : Int32) =>
        spl (sX12_asksLosses x0 x1 f L) fun (f_139 : sg_F) =>
        sX12_once_l71 x0 x1 x2 23 r_137 0 (-2) (-2) (-1) f_139 L) else (
        (((-1) : Int32), f))) else (
      (((-1) : Int32), f))) else (
    if r_110 = (-1) then (
      (((-1) : Int32), f)) else (
      spl (sX12_isPart x1 f L) fun (r_148 : Int32) =>
      if r_148 = 1 then (
        spl (α := Int64) (Int32.toInt64 x2) fun (w_151 : Int64) =>
        spl (sX12_within w_151 0 2 f L) fun (r_156 : Int32) =>
        if r_156 = 1 then (
          ((r_110 : Int32), f)) else (
          (((-1) : Int32), f))) else (
        (((-1) : Int32), f))))
set_option maxRecDepth 100000 in
noncomputable def sX12_beginsWeek_h2 (rec_2 : Int32 → sg_F → sg_L → sg_F) (y1_2 : Int32) (fp_2 : sg_F) (L : sg_L) : sg_F :=
  if y1_2.toInt < 3 then (
    spl (α := Int32) (fp_2 5 (Int32.toNatClampNeg y1_2)) fun (v_6 : Int32) =>
    spl (α := sg_F) (sg_up fp_2 12 (sgu (fp_2 12) (Int32.toNatClampNeg y1_2) v_6)) fun (f_8 : sg_F) =>
    spl (α := Int32) (y1_2 + 1) fun (v_9 : Int32) =>
    rec_2 v_9 f_8 L) else (
    spl (α := sg_F) (sg_up fp_2 0 (sgu (fp_2 0) 29 0)) fun (f_3 : sg_F) =>
    spl (α := sg_F) (sg_up f_3 0 (sgu (f_3 0) 30 0)) fun (f_4 : sg_F) =>
    spl (α := sg_F) (sg_up f_4 0 (sgu (f_4 0) 31 0)) fun (f_5 : sg_F) =>
    (f_5))
set_option maxRecDepth 100000 in
noncomputable def sX12_beginsWeek_l2 (n : Nat) : Int32 → sg_F → sg_L → sg_F :=
  Nat.rec (motive := fun _ => Int32 → sg_F → sg_L → sg_F) (fun _ f L => (f)) (fun _ r => sX12_beginsWeek_h2 r) n
set_option maxRecDepth 100000 in
noncomputable def sX12_beginsWeek (f : sg_F) (L : sg_L) : sg_F :=
  sX12_beginsWeek_l2 4 0 f L
set_option maxRecDepth 100000 in
noncomputable def sX12_nearBy (x0 : Int32) (f : sg_F) (L : sg_L) : Int32 :=
  spl (α := Int32) (f 0 20) fun (v_1 : Int32) =>
  if x0.toInt = v_1.toInt then (
    spl (α := Int32) (f 0 21) fun (v_10 : Int32) =>
    ((v_10 : Int32))) else (
    spl (sX12_numberOf x0 6 f L) fun (r_8 : Int32) =>
    ((r_8 : Int32)))
set_option maxRecDepth 100000 in
noncomputable def sX12_priceOf (x0 : Int32) (f : sg_F) (L : sg_L) : Int32 :=
  spl (α := Int32) (f 0 23) fun (v_1 : Int32) =>
  if v_1.toInt = 0 then (
    spl (α := Int32) (67 + x0) fun (v_5 : Int32) =>
    spl (α := Int32) (f 1 (Int32.toNatClampNeg v_5)) fun (v_7 : Int32) =>
    ((v_7 : Int32))) else (
    spl (α := Int32) (67 + x0) fun (v_10 : Int32) =>
    spl (α := Int32) (f 1 (Int32.toNatClampNeg v_10)) fun (v_12 : Int32) =>
    spl (α := Int32) (v_12 / 2) fun (v_15 : Int32) =>
    ((v_15 : Int32)))
set_option maxRecDepth 100000 in
noncomputable def sX12_isIn (x0 : Int32) (x1 : Int32) (f : sg_F) (L : sg_L) : Int32 :=
  spl (α := Int32) (x0 >>> (x1 &&& 31)) fun (v_1 : Int32) =>
  spl (α := Int32) (v_1 &&& 1) fun (v_2 : Int32) =>
  if v_2.toInt = 1 then (
    ((1 : Int32))) else (
    ((0 : Int32)))
set_option maxRecDepth 100000 in
noncomputable def sX12_turnsTo (x0 : Int32) (x1 : Int32) (x2 : Int32) (f : sg_F) (L : sg_L) : sg_F :=
  spl (α := Int32) (f 12 (Int32.toNatClampNeg x0)) fun (v_1 : Int32) =>
  spl (α := Int32) (x1 - v_1) fun (v_3 : Int32) =>
  spl (sX12_sizeOf v_3 f L) fun (r_8 : Int32) =>
  spl (sX12_priceOf x0 f L) fun (r_13 : Int32) =>
  spl (α := Int32) (r_8 * r_13) fun (v_15 : Int32) =>
  spl (α := Int32) (f 0 29) fun (v_16 : Int32) =>
  spl (α := Int32) (v_16 + r_8) fun (v_17 : Int32) =>
  spl (α := sg_F) (sg_up f 0 (sgu (f 0) 29 v_17)) fun (f_18 : sg_F) =>
  spl (α := Int32) (f_18 0 31) fun (v_19 : Int32) =>
  if x2.toInt < 0 then (
    spl (α := Int32) (v_19 + v_15) fun (v_22 : Int32) =>
    spl (α := sg_F) (sg_up f_18 0 (sgu (f_18 0) 31 v_22)) fun (f_23 : sg_F) =>
    spl (α := sg_F) (sg_up f_23 12 (sgu (f_23 12) (Int32.toNatClampNeg x0) x1)) fun (f_24 : sg_F) =>
    (f_24)) else (
    spl (α := Int32) (f_18 0 22) fun (v_25 : Int32) =>
    spl (sX12_isIn v_25 x2 f_18 L) fun (r_30 : Int32) =>
    if r_30.toInt = 0 then (
      spl (α := Int32) (v_19 + v_15) fun (v_34 : Int32) =>
      spl (α := sg_F) (sg_up f_18 0 (sgu (f_18 0) 31 v_34)) fun (f_35 : sg_F) =>
      spl (α := sg_F) (sg_up f_35 12 (sgu (f_35 12) (Int32.toNatClampNeg x0) x1)) fun (f_36 : sg_F) =>
      (f_36)) else (
      spl (α := Int32) (f_18 1 (Int32.toNatClampNeg 70)) fun (v_37 : Int32) =>
      if v_37.toInt < v_15.toInt then (
        spl (α := Int32) (v_19 + v_37) fun (v_45 : Int32) =>
        spl (α := sg_F) (sg_up f_18 0 (sgu (f_18 0) 31 v_45)) fun (f_46 : sg_F) =>
        spl (α := sg_F) (sg_up f_46 12 (sgu (f_46 12) (Int32.toNatClampNeg x0) x1)) fun (f_47 : sg_F) =>
        (f_47)) else (
        spl (α := Int32) (v_19 + v_15) fun (v_42 : Int32) =>
        spl (α := sg_F) (sg_up f_18 0 (sgu (f_18 0) 31 v_42)) fun (f_43 : sg_F) =>
        spl (α := sg_F) (sg_up f_43 12 (sgu (f_43 12) (Int32.toNatClampNeg x0) x1)) fun (f_44 : sg_F) =>
        (f_44))))
set_option maxRecDepth 100000 in
noncomputable def sX12_comes_h82 (x0 : Int32) (rec_82 : Int32 → sg_F → sg_L → sg_F) (y2_82 : Int32) (fp_82 : sg_F) (L : sg_L) : sg_F :=
  if y2_82.toInt < 3 then (
    spl (α := Int32) (fp_82 0 24) fun (v_3 : Int32) =>
    if x0.toInt = v_3.toInt then (
      spl (α := Int32) (fp_82 0 25) fun (v_7 : Int32) =>
      spl (sX12_turnsTo y2_82 v_7 (-1) fp_82 L) fun (f_9 : sg_F) =>
      spl (α := Int32) (y2_82 + 1) fun (v_13 : Int32) =>
      rec_82 v_13 f_9 L) else (
      (fp_82))) else (
    (fp_82))
set_option maxRecDepth 100000 in
noncomputable def sX12_comes_l82 (x0 : Int32) (n : Nat) : Int32 → sg_F → sg_L → sg_F :=
  Nat.rec (motive := fun _ => Int32 → sg_F → sg_L → sg_F) (fun _ f L => (f)) (fun _ r => sX12_comes_h82 x0 r) n
set_option maxRecDepth 100000 in
noncomputable def sX12_comes_h48 (x0 : Int32) (rec_48 : Int32 → sg_F → sg_L → sg_F) (y2_48 : Int32) (fp_48 : sg_F) (L : sg_L) : sg_F :=
  if y2_48.toInt < 3 then (
    spl (α := Int32) (fp_48 0 30) fun (v_17 : Int32) =>
    spl (α := Int32) (fp_48 12 (Int32.toNatClampNeg y2_48)) fun (v_18 : Int32) =>
    spl2 (sX12_lossOf x0 y2_48 v_18 fp_48 L) fun (r_23 : Int32) (f_20 : sg_F) =>
    spl (α := Int32) (v_17 + r_23) fun (v_25 : Int32) =>
    spl (α := sg_F) (sg_up f_20 0 (sgu (f_20 0) 30 v_25)) fun (f_26 : sg_F) =>
    spl (α := Int32) (y2_48 + 1) fun (v_27 : Int32) =>
    rec_48 v_27 f_26 L) else (
    sX12_comes_l82 x0 4 0 fp_48 L)
set_option maxRecDepth 100000 in
noncomputable def sX12_comes_l48 (x0 : Int32) (n : Nat) : Int32 → sg_F → sg_L → sg_F :=
  Nat.rec (motive := fun _ => Int32 → sg_F → sg_L → sg_F) (fun _ f L => (f)) (fun _ r => sX12_comes_h48 x0 r) n
set_option maxRecDepth 100000 in
noncomputable def sX12_comes_b40 (rec_2 : Int32 → sg_F → sg_L → sg_F) (x0 : Int32) (y2_40 : Int32) (fp_40 : sg_F) (L : sg_L) : sg_F :=
  spl (α := Int32) (y2_40 + 1) fun (v_29 : Int32) =>
  rec_2 v_29 fp_40 L
set_option maxRecDepth 100000 in
noncomputable def sX12_comes_h2 (x0 : Int32) (rec_2 : Int32 → sg_F → sg_L → sg_F) (y2_2 : Int32) (fp_2 : sg_F) (L : sg_L) : sg_F :=
  if y2_2.toInt < 3 then (
    spl (sX12_numberOf x0 y2_2 fp_2 L) fun (r_36 : Int32) =>
    spl (α := Int32) (fp_2 12 (Int32.toNatClampNeg y2_2)) fun (v_38 : Int32) =>
    spl (α := Int32) (r_36 - v_38) fun (v_40 : Int32) =>
    spl (sX12_sizeOf v_40 fp_2 L) fun (r_45 : Int32) =>
    spl (sX12_nearBy x0 fp_2 L) fun (r_50 : Int32) =>
    if r_50.toInt < r_45.toInt then (
      spl (sX12_turnsTo y2_2 r_36 x0 fp_2 L) fun (f_54 : sg_F) =>
      sX12_comes_b40 rec_2 x0 y2_2 f_54 L) else (
      sX12_comes_b40 rec_2 x0 y2_2 fp_2 L)) else (
    sX12_comes_l48 x0 4 0 fp_2 L)
set_option maxRecDepth 100000 in
noncomputable def sX12_comes_l2 (x0 : Int32) (n : Nat) : Int32 → sg_F → sg_L → sg_F :=
  Nat.rec (motive := fun _ => Int32 → sg_F → sg_L → sg_F) (fun _ f L => (f)) (fun _ r => sX12_comes_h2 x0 r) n
set_option maxRecDepth 100000 in
noncomputable def sX12_comes (x0 : Int32) (f : sg_F) (L : sg_L) : sg_F :=
  sX12_comes_l2 x0 4 0 f L
set_option maxRecDepth 100000 in
noncomputable def sX12_weekOf_h72 (rec_6 : Int32 → sg_F → sg_L → Int32 × sg_F) (x0 : Int32) (rec_72 : Int32 → Int32 → sg_F → sg_L → Int32 × sg_F) (y2_72 : Int32) (y4_72 : Int32) (fp_72 : sg_F) (L : sg_L) : Int32 × sg_F :=
  if y4_72.toInt < 3 then (
    spl (α := Int32) (fp_72 12 (Int32.toNatClampNeg y4_72)) fun (v_5 : Int32) =>
    spl (sX12_slipped y4_72 v_5 fp_72 L) fun (r_10 : Int32) =>
    spl (α := sg_F) (sg_up fp_72 12 (sgu (fp_72 12) (Int32.toNatClampNeg y4_72) r_10)) fun (f_12 : sg_F) =>
    spl (α := Int32) (y2_72 + 1) fun (v_13 : Int32) =>
    spl (α := Int32) (3 * v_13) fun (v_15 : Int32) =>
    spl (α := Int32) (v_15 + y4_72) fun (v_17 : Int32) =>
    spl (α := sg_F) (sg_up f_12 13 (sgu (f_12 13) (Int32.toNatClampNeg v_17) r_10)) fun (f_19 : sg_F) =>
    spl (α := Int32) (y4_72 + 1) fun (v_20 : Int32) =>
    rec_72 y2_72 v_20 f_19 L) else (
    spl (α := Int32) (y2_72 + 1) fun (v_3 : Int32) =>
    rec_6 v_3 fp_72 L)
set_option maxRecDepth 100000 in
noncomputable def sX12_weekOf_l72 (rec_6 : Int32 → sg_F → sg_L → Int32 × sg_F) (x0 : Int32) (n : Nat) : Int32 → Int32 → sg_F → sg_L → Int32 × sg_F :=
  Nat.rec (motive := fun _ => Int32 → Int32 → sg_F → sg_L → Int32 × sg_F) (fun _ _ f L => ((0 : Int32), f)) (fun _ r => sX12_weekOf_h72 rec_6 x0 r) n
set_option maxRecDepth 100000 in
noncomputable def sX12_weekOf_b69 (rec_6 : Int32 → sg_F → sg_L → Int32 × sg_F) (x0 : Int32) (y2_69 : Int32) (fp_69 : sg_F) (L : sg_L) : Int32 × sg_F :=
  sX12_weekOf_l72 rec_6 x0 4 y2_69 0 fp_69 L
set_option maxRecDepth 100000 in
noncomputable def sX12_weekOf_h17 (rec_6 : Int32 → sg_F → sg_L → Int32 × sg_F) (x0 : Int32) (rec_17 : Int32 → Int32 → sg_F → sg_L → Int32 × sg_F) (y2_17 : Int32) (y3_17 : Int32) (fp_17 : sg_F) (L : sg_L) : Int32 × sg_F :=
  if y3_17.toInt < 3 then (
    spl (α := Int32) (3 * y2_17) fun (v_39 : Int32) =>
    spl (α := Int32) (v_39 + y3_17) fun (v_41 : Int32) =>
    spl (α := Int32) (fp_17 12 (Int32.toNatClampNeg y3_17)) fun (v_43 : Int32) =>
    spl (α := sg_F) (sg_up fp_17 13 (sgu (fp_17 13) (Int32.toNatClampNeg v_41) v_43)) fun (f_45 : sg_F) =>
    spl (α := Int32) (y3_17 + 1) fun (v_46 : Int32) =>
    rec_17 y2_17 v_46 f_45 L) else (
    spl (sX12_whoSits x0 y2_17 fp_17 L) fun (r_27 : Int32) =>
    if r_27.toInt < 0 then (
      sX12_weekOf_b69 rec_6 x0 y2_17 fp_17 L) else (
      spl (α := Int32) (fp_17 11 (Int32.toNatClampNeg y2_17)) fun (v_31 : Int32) =>
      if v_31.toInt = 0 then (
        spl (sX12_comes r_27 fp_17 L) fun (f_35 : sg_F) =>
        sX12_weekOf_b69 rec_6 x0 y2_17 f_35 L) else (
        sX12_weekOf_b69 rec_6 x0 y2_17 fp_17 L)))
set_option maxRecDepth 100000 in
noncomputable def sX12_weekOf_l17 (rec_6 : Int32 → sg_F → sg_L → Int32 × sg_F) (x0 : Int32) (n : Nat) : Int32 → Int32 → sg_F → sg_L → Int32 × sg_F :=
  Nat.rec (motive := fun _ => Int32 → Int32 → sg_F → sg_L → Int32 × sg_F) (fun _ _ f L => ((0 : Int32), f)) (fun _ r => sX12_weekOf_h17 rec_6 x0 r) n
set_option maxRecDepth 100000 in
noncomputable def sX12_weekOf_h6 (x0 : Int32) (rec_6 : Int32 → sg_F → sg_L → Int32 × sg_F) (y2_6 : Int32) (fp_6 : sg_F) (L : sg_L) : Int32 × sg_F :=
  spl (sX12_shiftsOf x0 fp_6 L) fun (r_51 : Int32) =>
  if y2_6.toInt < r_51.toInt then (
    sX12_weekOf_l17 rec_6 x0 4 y2_6 0 fp_6 L) else (
    spl (α := Int32) (fp_6 0 31) fun (v_55 : Int32) =>
    spl (α := Int32) (fp_6 0 30) fun (v_56 : Int32) =>
    spl (α := Int32) (v_55 + v_56) fun (v_57 : Int32) =>
    ((v_57 : Int32), fp_6))
set_option maxRecDepth 100000 in
noncomputable def sX12_weekOf_l6 (x0 : Int32) (n : Nat) : Int32 → sg_F → sg_L → Int32 × sg_F :=
  Nat.rec (motive := fun _ => Int32 → sg_F → sg_L → Int32 × sg_F) (fun _ f L => ((0 : Int32), f)) (fun _ r => sX12_weekOf_h6 x0 r) n
set_option maxRecDepth 100000 in
noncomputable def sX12_weekOf (x0 : Int32) (f : sg_F) (L : sg_L) : Int32 × sg_F :=
  spl (sX12_beginsWeek f L) fun (f_58 : sg_F) =>
  sX12_weekOf_l6 x0 22 0 f_58 L
set_option maxRecDepth 100000 in
noncomputable def sX12_week (x0 : Int32) (x1 : Int32) (f : sg_F) (L : sg_L) : Int32 × sg_F :=
  spl (sX12_bytesIs x0 f L) fun (r_4 : Int32) =>
  if r_4 = 1 then (
    spl (α := Int64) (Int32.toInt64 x1) fun (w_7 : Int64) =>
    spl (sX12_within w_7 0 2 f L) fun (r_12 : Int32) =>
    if r_12 = 1 then (
      spl2 (sX12_weekOf x0 f L) fun (r_25 : Int32) (f_22 : sg_F) =>
      if x1.toInt = 0 then (
        spl (α := Int32) (f_22 0 29) fun (v_32 : Int32) =>
        ((v_32 : Int32), f_22)) else (
        if x1.toInt = 1 then (
          spl (α := Int32) (f_22 0 30) fun (v_31 : Int32) =>
          ((v_31 : Int32), f_22)) else (
          ((r_25 : Int32), f_22)))) else (
      (((-1) : Int32), f))) else (
    if r_4 = (-1) then (
      (((-1) : Int32), f)) else (
      spl (α := Int64) (Int32.toInt64 x1) fun (w_35 : Int64) =>
      spl (sX12_within w_35 0 2 f L) fun (r_40 : Int32) =>
      if r_40 = 1 then (
        ((r_4 : Int32), f)) else (
        (((-1) : Int32), f))))
set_option maxRecDepth 100000 in
noncomputable def sX12_stands (x0 : Int32) (x1 : Int32) (x2 : Int32) (f : sg_F) (L : sg_L) : Int32 × sg_F :=
  spl (sX12_bytesIs x0 f L) fun (r_4 : Int32) =>
  if r_4 = 1 then (
    spl (sX12_isPart x1 f L) fun (r_10 : Int32) =>
    if r_10 = 1 then (
      if x2.toInt < 0 then (
        (((-1) : Int32), f)) else (
        spl (sX12_shiftsOf x0 f L) fun (r_23 : Int32) =>
        if r_23.toInt < x2.toInt then (
          (((-1) : Int32), f)) else (
          spl2 (sX12_weekOf x0 f L) fun (r_30 : Int32) (f_27 : sg_F) =>
          if x2.toInt = 0 then (
            spl (α := Int32) (f_27 5 (Int32.toNatClampNeg x1)) fun (v_40 : Int32) =>
            ((v_40 : Int32), f_27)) else (
            spl (α := Int32) (3 * x2) fun (v_34 : Int32) =>
            spl (α := Int32) (v_34 + x1) fun (v_36 : Int32) =>
            spl (α := Int32) (f_27 13 (Int32.toNatClampNeg v_36)) fun (v_38 : Int32) =>
            ((v_38 : Int32), f_27))))) else (
      (((-1) : Int32), f))) else (
    if r_4 = (-1) then (
      (((-1) : Int32), f)) else (
      spl (sX12_isPart x1 f L) fun (r_47 : Int32) =>
      if r_47 = 1 then (
        if x2.toInt < 0 then (
          (((-1) : Int32), f)) else (
          ((r_4 : Int32), f))) else (
        (((-1) : Int32), f))))
set_option maxRecDepth 100000 in
noncomputable def sX12_pays_b111 (rec_60 : Int32 → Int32 → sg_F → sg_L → Int32 × sg_F) (x0 : Int32) (x1 : Int32) (x2 : Int32) (y4_111 : Int32) (y6_111 : Int32) (fp_111 : sg_F) (L : sg_L) : Int32 × sg_F :=
  spl (α := Int32) (fp_111 0 20) fun (v_1 : Int32) =>
  spl (α := Int32) (fp_111 0 21) fun (v_4 : Int32) =>
  spl (α := Int32) (v_4 + 1) fun (v_7 : Int32) =>
  spl (α := sg_F) (sg_up fp_111 0 (sgu (fp_111 0) 21 v_7)) fun (f_9 : sg_F) =>
  rec_60 y4_111 y6_111 f_9 L
set_option maxRecDepth 100000 in
noncomputable def sX12_pays_b88 (rec_60 : Int32 → Int32 → sg_F → sg_L → Int32 × sg_F) (x0 : Int32) (x1 : Int32) (x2 : Int32) (y5_88 : Int32) (y6_88 : Int32) (fp_88 : sg_F) (L : sg_L) : Int32 × sg_F :=
  spl (α := Int32) (fp_88 0 20) fun (v_10 : Int32) =>
  spl (α := Int32) (fp_88 0 21) fun (v_13 : Int32) =>
  if y5_88.toInt < 0 then (
    sX12_pays_b111 rec_60 x0 x1 x2 v_13 y6_88 fp_88 L) else (
    if y6_88.toInt < y5_88.toInt then (
      sX12_pays_b111 rec_60 x0 x1 x2 v_13 y6_88 fp_88 L) else (
      spl (α := Int32) (v_13 + 1) fun (v_20 : Int32) =>
      spl (α := sg_F) (sg_up fp_88 0 (sgu (fp_88 0) 21 v_20)) fun (f_22 : sg_F) =>
      rec_60 v_13 y5_88 f_22 L))
set_option maxRecDepth 100000 in
noncomputable def sX12_pays_h60 (x0 : Int32) (x1 : Int32) (x2 : Int32) (rec_60 : Int32 → Int32 → sg_F → sg_L → Int32 × sg_F) (y4_60 : Int32) (y5_60 : Int32) (fp_60 : sg_F) (L : sg_L) : Int32 × sg_F :=
  spl (α := Int32) (fp_60 0 20) fun (v_23 : Int32) =>
  spl (α := Int32) (fp_60 0 21) fun (v_26 : Int32) =>
  if v_26.toInt < 61 then (
    spl2 (sX12_weekOf x0 fp_60 L) fun (r_37 : Int32) (f_34 : sg_F) =>
    if y5_60.toInt < 0 then (
      sX12_pays_b88 rec_60 x0 x1 x2 y5_60 r_37 f_34 L) else (
      if r_37.toInt < y5_60.toInt then (
        sX12_pays_b88 rec_60 x0 x1 x2 y5_60 r_37 f_34 L) else (
        if r_37.toInt < y5_60.toInt then (
          sX12_pays_b111 rec_60 x0 x1 x2 y4_60 r_37 f_34 L) else (
          spl (α := Int32) (v_26 + 1) fun (v_47 : Int32) =>
          spl (α := sg_F) (sg_up f_34 0 (sgu (f_34 0) 21 v_47)) fun (f_49 : sg_F) =>
          rec_60 y4_60 y5_60 f_49 L)))) else (
    spl (α := sg_F) (sg_up fp_60 0 (sgu (fp_60 0) 20 (-1))) fun (f_31 : sg_F) =>
    if x2.toInt = 0 then (
      ((y4_60 : Int32), f_31)) else (
      ((y5_60 : Int32), f_31)))
set_option maxRecDepth 100000 in
noncomputable def sX12_pays_l60 (x0 : Int32) (x1 : Int32) (x2 : Int32) (n : Nat) : Int32 → Int32 → sg_F → sg_L → Int32 × sg_F :=
  Nat.rec (motive := fun _ => Int32 → Int32 → sg_F → sg_L → Int32 × sg_F) (fun _ _ f L => ((0 : Int32), f)) (fun _ r => sX12_pays_h60 x0 x1 x2 r) n
set_option maxRecDepth 100000 in
noncomputable def sX12_pays (x0 : Int32) (x1 : Int32) (x2 : Int32) (f : sg_F) (L : sg_L) : Int32 × sg_F :=
  spl (sX12_bytesIs x0 f L) fun (r_53 : Int32) =>
  if r_53 = 1 then (
    spl (α := Int64) (Int32.toInt64 x1) fun (w_56 : Int64) =>
    spl (α := Int32) (f 0 6) fun (v_58 : Int32) =>
    spl (sX12_isSitter w_56 f L) fun (r_65 : Int32) =>
    if r_65 = 1 then (
      spl (α := Int64) (Int32.toInt64 x2) fun (w_68 : Int64) =>
      spl (sX12_within w_68 0 1 f L) fun (r_73 : Int32) =>
      if r_73 = 1 then (
        spl (α := sg_F) (sg_up f 0 (sgu (f 0) 20 x1)) fun (f_83 : sg_F) =>
        spl (α := sg_F) (sg_up f_83 0 (sgu (f_83 0) 21 0)) fun (f_84 : sg_F) =>
        sX12_pays_l60 x0 x1 x2 70 0 (-1) f_84 L) else (
        (((-1) : Int32), f))) else (
      (((-1) : Int32), f))) else (
    if r_53 = (-1) then (
      (((-1) : Int32), f)) else (
      spl (α := Int64) (Int32.toInt64 x1) fun (w_87 : Int64) =>
      spl (α := Int32) (f 0 6) fun (v_89 : Int32) =>
      spl (sX12_isSitter w_87 f L) fun (r_96 : Int32) =>
      if r_96 = 1 then (
        spl (α := Int64) (Int32.toInt64 x2) fun (w_99 : Int64) =>
        spl (sX12_within w_99 0 1 f L) fun (r_104 : Int32) =>
        if r_104 = 1 then (
          ((r_53 : Int32), f)) else (
          (((-1) : Int32), f))) else (
        (((-1) : Int32), f))))
set_option maxRecDepth 100000 in
noncomputable def sX12_bitsOf_h4 (x0 : Int32) (rec_4 : Int32 → Int32 → sg_F → sg_L → Int32) (y1_4 : Int32) (y2_4 : Int32) (f : sg_F) (L : sg_L) : Int32 :=
  if y2_4.toInt = 0 then (
    ((y1_4 : Int32))) else (
    spl (α := Int32) (y1_4 + 1) fun (v_3 : Int32) =>
    spl (α := Int32) (y2_4 - 1) fun (v_4 : Int32) =>
    spl (α := Int32) (y2_4 &&& v_4) fun (v_6 : Int32) =>
    rec_4 v_3 v_6 f L)
set_option maxRecDepth 100000 in
noncomputable def sX12_bitsOf_l4 (x0 : Int32) (n : Nat) : Int32 → Int32 → sg_F → sg_L → Int32 :=
  Nat.rec (motive := fun _ => Int32 → Int32 → sg_F → sg_L → Int32) (fun _ _ f L => ((0 : Int32))) (fun _ r => sX12_bitsOf_h4 x0 r) n
set_option maxRecDepth 100000 in
noncomputable def sX12_bitsOf (x0 : Int32) (f : sg_F) (L : sg_L) : Int32 :=
  sX12_bitsOf_l4 x0 300 0 x0 f L
set_option maxRecDepth 100000 in
noncomputable def sX12_memories_b143 (rec_56 : Int32 → Int32 → Int32 → sg_F → sg_L → Int32 × sg_F) (rec_67 : Int32 → Int32 → Int32 → sg_F → sg_L → Int32 × sg_F) (x0 : Int32) (x1 : Int32) (x2 : Int32) (y4_143 : Int32) (y5_143 : Int32) (y6_143 : Int32) (fp_143 : sg_F) (L : sg_L) : Int32 × sg_F :=
  spl (α := Int32) (fp_143 0 22) fun (v_1 : Int32) =>
  spl (α := Int32) (v_1 + 1) fun (v_4 : Int32) =>
  spl (α := sg_F) (sg_up fp_143 0 (sgu (fp_143 0) 22 v_4)) fun (f_6 : sg_F) =>
  rec_67 y4_143 y5_143 y6_143 f_6 L
set_option maxRecDepth 100000 in
noncomputable def sX12_memories_b134 (rec_56 : Int32 → Int32 → Int32 → sg_F → sg_L → Int32 × sg_F) (rec_67 : Int32 → Int32 → Int32 → sg_F → sg_L → Int32 × sg_F) (x0 : Int32) (x1 : Int32) (x2 : Int32) (y4_134 : Int32) (y6_134 : Int32) (y7_134 : Int32) (fp_134 : sg_F) (L : sg_L) : Int32 × sg_F :=
  spl (α := Int32) (fp_134 0 22) fun (v_7 : Int32) =>
  sX12_memories_b143 rec_56 rec_67 x0 x1 x2 y4_134 y7_134 y6_134 fp_134 L
set_option maxRecDepth 100000 in
noncomputable def sX12_memories_b111 (rec_56 : Int32 → Int32 → Int32 → sg_F → sg_L → Int32 × sg_F) (rec_67 : Int32 → Int32 → Int32 → sg_F → sg_L → Int32 × sg_F) (x0 : Int32) (x1 : Int32) (x2 : Int32) (y5_111 : Int32) (y6_111 : Int32) (y7_111 : Int32) (fp_111 : sg_F) (L : sg_L) : Int32 × sg_F :=
  spl (α := Int32) (fp_111 0 22) fun (v_10 : Int32) =>
  if y5_111.toInt < 0 then (
    sX12_memories_b134 rec_56 rec_67 x0 x1 x2 v_10 y6_111 y7_111 fp_111 L) else (
    if y7_111.toInt < y5_111.toInt then (
      sX12_memories_b134 rec_56 rec_67 x0 x1 x2 v_10 y6_111 y7_111 fp_111 L) else (
      sX12_memories_b143 rec_56 rec_67 x0 x1 x2 v_10 y5_111 y6_111 fp_111 L))
set_option maxRecDepth 100000 in
noncomputable def sX12_memories_h67 (rec_56 : Int32 → Int32 → Int32 → sg_F → sg_L → Int32 × sg_F) (x0 : Int32) (x1 : Int32) (x2 : Int32) (rec_67 : Int32 → Int32 → Int32 → sg_F → sg_L → Int32 × sg_F) (y4_67 : Int32) (y5_67 : Int32) (y6_67 : Int32) (fp_67 : sg_F) (L : sg_L) : Int32 × sg_F :=
  spl (α := Int32) (fp_67 0 22) fun (v_17 : Int32) =>
  spl (α := Int32) (fp_67 0 6) fun (v_20 : Int32) =>
  spl (α := Int32) ((1 : Int32) <<< ((v_20 : Int32) &&& 31)) fun (v_22 : Int32) =>
  if v_17.toInt < v_22.toInt then (
    spl (sX12_bitsOf v_17 fp_67 L) fun (r_31 : Int32) =>
    if r_31.toInt = y6_67.toInt then (
      spl2 (sX12_weekOf x0 fp_67 L) fun (r_38 : Int32) (f_35 : sg_F) =>
      if y5_67.toInt < 0 then (
        sX12_memories_b111 rec_56 rec_67 x0 x1 x2 y5_67 y6_67 r_38 f_35 L) else (
        if r_38.toInt < y5_67.toInt then (
          sX12_memories_b111 rec_56 rec_67 x0 x1 x2 y5_67 y6_67 r_38 f_35 L) else (
          if r_38.toInt < y5_67.toInt then (
            sX12_memories_b134 rec_56 rec_67 x0 x1 x2 y4_67 y6_67 r_38 f_35 L) else (
            sX12_memories_b143 rec_56 rec_67 x0 x1 x2 y4_67 y5_67 y6_67 f_35 L)))) else (
      sX12_memories_b143 rec_56 rec_67 x0 x1 x2 y4_67 y5_67 y6_67 fp_67 L)) else (
    spl (α := Int32) (y6_67 + 1) fun (v_26 : Int32) =>
    rec_56 y4_67 y5_67 v_26 fp_67 L)
set_option maxRecDepth 100000 in
noncomputable def sX12_memories_l67 (rec_56 : Int32 → Int32 → Int32 → sg_F → sg_L → Int32 × sg_F) (x0 : Int32) (x1 : Int32) (x2 : Int32) (n : Nat) : Int32 → Int32 → Int32 → sg_F → sg_L → Int32 × sg_F :=
  Nat.rec (motive := fun _ => Int32 → Int32 → Int32 → sg_F → sg_L → Int32 × sg_F) (fun _ _ _ f L => ((0 : Int32), f)) (fun _ r => sX12_memories_h67 rec_56 x0 x1 x2 r) n
set_option maxRecDepth 100000 in
noncomputable def sX12_memories_h56 (x0 : Int32) (x1 : Int32) (x2 : Int32) (rec_56 : Int32 → Int32 → Int32 → sg_F → sg_L → Int32 × sg_F) (y4_56 : Int32) (y5_56 : Int32) (y6_56 : Int32) (fp_56 : sg_F) (L : sg_L) : Int32 × sg_F :=
  if x1.toInt < y6_56.toInt then (
    spl (α := sg_F) (sg_up fp_56 0 (sgu (fp_56 0) 22 0)) fun (f_50 : sg_F) =>
    if x2.toInt = 0 then (
      ((y4_56 : Int32), f_50)) else (
      ((y5_56 : Int32), f_50))) else (
    spl (α := sg_F) (sg_up fp_56 0 (sgu (fp_56 0) 22 0)) fun (f_53 : sg_F) =>
    sX12_memories_l67 rec_56 x0 x1 x2 488 y4_56 y5_56 y6_56 f_53 L)
set_option maxRecDepth 100000 in
noncomputable def sX12_memories_l56 (x0 : Int32) (x1 : Int32) (x2 : Int32) (n : Nat) : Int32 → Int32 → Int32 → sg_F → sg_L → Int32 × sg_F :=
  Nat.rec (motive := fun _ => Int32 → Int32 → Int32 → sg_F → sg_L → Int32 × sg_F) (fun _ _ _ f L => ((0 : Int32), f)) (fun _ r => sX12_memories_h56 x0 x1 x2 r) n
set_option maxRecDepth 100000 in
noncomputable def sX12_memories (x0 : Int32) (x1 : Int32) (x2 : Int32) (f : sg_F) (L : sg_L) : Int32 × sg_F :=
  spl (sX12_bytesIs x0 f L) fun (r_57 : Int32) =>
  if r_57 = 1 then (
    spl (α := Int64) (Int32.toInt64 x1) fun (w_60 : Int64) =>
    spl (sX12_within w_60 0 3 f L) fun (r_65 : Int32) =>
    if r_65 = 1 then (
      spl (α := Int64) (Int32.toInt64 x2) fun (w_70 : Int64) =>
      spl (sX12_within w_70 0 1 f L) fun (r_75 : Int32) =>
      if r_75 = 1 then (
        sX12_memories_l56 x0 x1 x2 5 0 (-1) 0 f L) else (
        (((-1) : Int32), f))) else (
      (((-1) : Int32), f))) else (
    if r_57 = (-1) then (
      (((-1) : Int32), f)) else (
      spl (α := Int64) (Int32.toInt64 x1) fun (w_87 : Int64) =>
      spl (sX12_within w_87 0 3 f L) fun (r_92 : Int32) =>
      if r_92 = 1 then (
        spl (α := Int64) (Int32.toInt64 x2) fun (w_97 : Int64) =>
        spl (sX12_within w_97 0 1 f L) fun (r_102 : Int32) =>
        if r_102 = 1 then (
          ((r_57 : Int32), f)) else (
          (((-1) : Int32), f))) else (
        (((-1) : Int32), f))))
set_option maxRecDepth 100000 in
noncomputable def sX12_marked (x0 : Int32) (f : sg_F) (L : sg_L) : Int32 × sg_F :=
  spl (sX12_bytesIs x0 f L) fun (r_4 : Int32) =>
  if r_4 = 1 then (
    spl2 (sX12_weekOf x0 f L) fun (r_10 : Int32) (f_7 : sg_F) =>
    spl (α := sg_F) (sg_up f_7 0 (sgu (f_7 0) 23 1)) fun (f_12 : sg_F) =>
    spl2 (sX12_weekOf x0 f_12 L) fun (r_16 : Int32) (f_13 : sg_F) =>
    spl (α := sg_F) (sg_up f_13 0 (sgu (f_13 0) 23 0)) fun (f_18 : sg_F) =>
    spl (α := Int32) (r_10 - r_16) fun (v_19 : Int32) =>
    ((v_19 : Int32), f_18)) else (
    if r_4 = (-1) then (
      (((-1) : Int32), f)) else (
      ((r_4 : Int32), f)))
set_option maxRecDepth 100000 in
noncomputable def sX12_wilful (x0 : Int32) (x1 : Int32) (x2 : Int32) (f : sg_F) (L : sg_L) : Int32 × sg_F :=
  spl (sX12_bytesIs x0 f L) fun (r_4 : Int32) =>
  if r_4 = 1 then (
    spl (α := Int64) (Int32.toInt64 x1) fun (w_7 : Int64) =>
    spl (α := Int32) (f 0 6) fun (v_9 : Int32) =>
    spl (sX12_isSitter w_7 f L) fun (r_16 : Int32) =>
    if r_16 = 1 then (
      spl (α := Int64) (Int32.toInt64 x2) fun (w_19 : Int64) =>
      spl (sX12_isSetting w_19 f L) fun (r_24 : Int32) =>
      if r_24 = 1 then (
        spl2 (sX12_weekOf x0 f L) fun (r_30 : Int32) (f_27 : sg_F) =>
        spl (α := sg_F) (sg_up f_27 0 (sgu (f_27 0) 24 x1)) fun (f_32 : sg_F) =>
        spl (α := sg_F) (sg_up f_32 0 (sgu (f_32 0) 25 x2)) fun (f_33 : sg_F) =>
        spl2 (sX12_weekOf x0 f_33 L) fun (r_37 : Int32) (f_34 : sg_F) =>
        spl (α := sg_F) (sg_up f_34 0 (sgu (f_34 0) 24 (-1))) fun (f_39 : sg_F) =>
        spl (α := Int32) (r_37 - r_30) fun (v_40 : Int32) =>
        ((v_40 : Int32), f_39)) else (
        (((-2000000000) : Int32), f))) else (
      (((-2000000000) : Int32), f))) else (
    if r_4 = (-1) then (
      (((-2000000000) : Int32), f)) else (
      (((-2000000000) : Int32), f)))
set_option maxRecDepth 100000 in
noncomputable def sX12_sitsSet_h4 (x0 : Int32) (rec_4 : Int32 → Int32 → sg_F → sg_L → Int32) (y2_4 : Int32) (y3_4 : Int32) (f : sg_F) (L : sg_L) : Int32 :=
  spl (sX12_shiftsOf x0 f L) fun (r_4 : Int32) =>
  if y3_4.toInt < r_4.toInt then (
    spl (sX12_whoSits x0 y3_4 f L) fun (r_11 : Int32) =>
    if r_11.toInt < 0 then (
      spl (α := Int32) (y2_4 ||| 0) fun (v_15 : Int32) =>
      spl (α := Int32) (y3_4 + 1) fun (v_17 : Int32) =>
      rec_4 v_15 v_17 f L) else (
      spl (α := Int32) ((1 : Int32) <<< ((r_11 : Int32) &&& 31)) fun (v_24 : Int32) =>
      spl (α := Int32) (y2_4 ||| v_24) fun (v_26 : Int32) =>
      spl (α := Int32) (y3_4 + 1) fun (v_28 : Int32) =>
      rec_4 v_26 v_28 f L)) else (
    ((y2_4 : Int32)))
set_option maxRecDepth 100000 in
noncomputable def sX12_sitsSet_l4 (x0 : Int32) (n : Nat) : Int32 → Int32 → sg_F → sg_L → Int32 :=
  Nat.rec (motive := fun _ => Int32 → Int32 → sg_F → sg_L → Int32) (fun _ _ f L => ((0 : Int32))) (fun _ r => sX12_sitsSet_h4 x0 r) n
set_option maxRecDepth 100000 in
noncomputable def sX12_sitsSet (x0 : Int32) (f : sg_F) (L : sg_L) : Int32 :=
  sX12_sitsSet_l4 x0 22 0 0 f L
set_option maxRecDepth 100000 in
noncomputable def sX12_chairLoss_b85 (rec_5 : Int32 → Int32 → sg_F → sg_L → Int32) (x0 : Int32) (x1 : Int32) (y4_85 : Int32) (y5_85 : Int32) (f : sg_F) (L : sg_L) : Int32 :=
  spl (α := Int32) (y4_85 + 1) fun (v_1 : Int32) =>
  rec_5 y5_85 v_1 f L
set_option maxRecDepth 100000 in
noncomputable def sX12_chairLoss_h18 (rec_5 : Int32 → Int32 → sg_F → sg_L → Int32) (x0 : Int32) (x1 : Int32) (rec_18 : Int32 → Int32 → Int32 → Int32 → sg_F → sg_L → Int32) (y3_18 : Int32) (y4_18 : Int32) (y5_18 : Int32) (y6_18 : Int32) (f : sg_F) (L : sg_L) : Int32 :=
  spl (α := Int32) (f 0 6) fun (v_3 : Int32) =>
  if y6_18.toInt < v_3.toInt then (
    spl (sX12_isIn x0 y6_18 f L) fun (r_16 : Int32) =>
    if r_16.toInt = 0 then (
      spl (α := Int32) (y6_18 + 1) fun (v_20 : Int32) =>
      rec_18 y3_18 y4_18 y5_18 v_20 f L) else (
      spl (α := Int32) (f 15 (Int32.toNatClampNeg y6_18)) fun (v_22 : Int32) =>
      if v_22.toInt = x1.toInt then (
        spl (α := Int32) (61 * y6_18) fun (v_28 : Int32) =>
        spl (α := Int32) (v_28 + y4_18) fun (v_30 : Int32) =>
        spl (α := Int32) (f 14 (Int32.toNatClampNeg v_30)) fun (v_32 : Int32) =>
        spl (α := Int32) (y5_18 + v_32) fun (v_33 : Int32) =>
        spl (α := Int32) (y6_18 + 1) fun (v_34 : Int32) =>
        rec_18 y3_18 y4_18 v_33 v_34 f L) else (
        spl (α := Int32) (y6_18 + 1) fun (v_26 : Int32) =>
        rec_18 y3_18 y4_18 y5_18 v_26 f L))) else (
    if y3_18.toInt < 0 then (
      sX12_chairLoss_b85 rec_5 x0 x1 y4_18 y5_18 f L) else (
      if y5_18.toInt < y3_18.toInt then (
        sX12_chairLoss_b85 rec_5 x0 x1 y4_18 y5_18 f L) else (
        spl (α := Int32) (y4_18 + 1) fun (v_11 : Int32) =>
        rec_5 y3_18 v_11 f L)))
set_option maxRecDepth 100000 in
noncomputable def sX12_chairLoss_l18 (rec_5 : Int32 → Int32 → sg_F → sg_L → Int32) (x0 : Int32) (x1 : Int32) (n : Nat) : Int32 → Int32 → Int32 → Int32 → sg_F → sg_L → Int32 :=
  Nat.rec (motive := fun _ => Int32 → Int32 → Int32 → Int32 → sg_F → sg_L → Int32) (fun _ _ _ _ f L => ((0 : Int32))) (fun _ r => sX12_chairLoss_h18 rec_5 x0 x1 r) n
set_option maxRecDepth 100000 in
noncomputable def sX12_chairLoss_h5 (x0 : Int32) (x1 : Int32) (rec_5 : Int32 → Int32 → sg_F → sg_L → Int32) (y3_5 : Int32) (y4_5 : Int32) (f : sg_F) (L : sg_L) : Int32 :=
  if y4_5.toInt < 61 then (
    sX12_chairLoss_l18 rec_5 x0 x1 9 y3_5 y4_5 0 0 f L) else (
    ((y3_5 : Int32)))
set_option maxRecDepth 100000 in
noncomputable def sX12_chairLoss_l5 (x0 : Int32) (x1 : Int32) (n : Nat) : Int32 → Int32 → sg_F → sg_L → Int32 :=
  Nat.rec (motive := fun _ => Int32 → Int32 → sg_F → sg_L → Int32) (fun _ _ f L => ((0 : Int32))) (fun _ r => sX12_chairLoss_h5 x0 x1 r) n
set_option maxRecDepth 100000 in
noncomputable def sX12_chairLoss (x0 : Int32) (x1 : Int32) (f : sg_F) (L : sg_L) : Int32 :=
  sX12_chairLoss_l5 x0 x1 62 (-1) 0 f L
set_option maxRecDepth 100000 in
noncomputable def sX12_chairsOn_8_h63 (x1 : Int32) (x2 : Int32) (x3 : Int32) (rec_63 : Int32 → sg_F → sg_L → sg_F) (y6_63 : Int32) (fp_63 : sg_F) (L : sg_L) : sg_F :=
  spl (α := Int32) (fp_63 0 6) fun (v_4 : Int32) =>
  if y6_63.toInt < v_4.toInt then (
    spl (α := Int32) (fp_63 15 (Int32.toNatClampNeg y6_63)) fun (v_9 : Int32) =>
    spl (α := sg_F) (sg_up fp_63 16 (sgu (fp_63 16) (Int32.toNatClampNeg y6_63) v_9)) fun (f_11 : sg_F) =>
    spl (α := Int32) (y6_63 + 1) fun (v_12 : Int32) =>
    rec_63 v_12 f_11 L) else (
    (fp_63))
set_option maxRecDepth 100000 in
noncomputable def sX12_chairsOn_8_l63 (x1 : Int32) (x2 : Int32) (x3 : Int32) (n : Nat) : Int32 → sg_F → sg_L → sg_F :=
  Nat.rec (motive := fun _ => Int32 → sg_F → sg_L → sg_F) (fun _ f L => (f)) (fun _ r => sX12_chairsOn_8_h63 x1 x2 x3 r) n
set_option maxRecDepth 100000 in
noncomputable def sX12_chairsOn_8_b54 (x1 : Int32) (x2 : Int32) (x3 : Int32) (y5_54 : Int32) (fp_54 : sg_F) (L : sg_L) : sg_F :=
  spl (α := Int32) (fp_54 0 6) fun (v_14 : Int32) =>
  spl (α := sg_F) (sg_up fp_54 0 (sgu (fp_54 0) 35 y5_54)) fun (f_17 : sg_F) =>
  sX12_chairsOn_8_l63 x1 x2 x3 9 0 f_17 L
set_option maxRecDepth 100000 in
noncomputable def sX12_chairsOn_8_h14 (x1 : Int32) (x2 : Int32) (x3 : Int32) (rec_14 : Int32 → Int32 → sg_F → sg_L → sg_F) (y5_14 : Int32) (y6_14 : Int32) (fp_14 : sg_F) (L : sg_L) : sg_F :=
  spl (α := Int32) (fp_14 0 6) fun (v_18 : Int32) =>
  if y6_14.toInt < x1.toInt then (
    spl (sX12_chairLoss x2 y6_14 fp_14 L) fun (r_31 : Int32) =>
    spl (α := Int32) (y5_14 + r_31) fun (v_33 : Int32) =>
    spl (α := Int32) (y6_14 + 1) fun (v_34 : Int32) =>
    rec_14 v_33 v_34 fp_14 L) else (
    spl (α := Int32) (fp_14 0 35) fun (v_23 : Int32) =>
    if v_23.toInt < 0 then (
      sX12_chairsOn_8_b54 x1 x2 x3 y5_14 fp_14 L) else (
      if y5_14.toInt < v_23.toInt then (
        sX12_chairsOn_8_b54 x1 x2 x3 y5_14 fp_14 L) else (
        (fp_14))))
set_option maxRecDepth 100000 in
noncomputable def sX12_chairsOn_8_l14 (x1 : Int32) (x2 : Int32) (x3 : Int32) (n : Nat) : Int32 → Int32 → sg_F → sg_L → sg_F :=
  Nat.rec (motive := fun _ => Int32 → Int32 → sg_F → sg_L → sg_F) (fun _ _ f L => (f)) (fun _ r => sX12_chairsOn_8_h14 x1 x2 x3 r) n
set_option maxRecDepth 100000 in
noncomputable def sX12_chairsOn_8 (x1 : Int32) (x2 : Int32) (x3 : Int32) (f : sg_F) (L : sg_L) : sg_F :=
  spl (α := Int32) (f 0 6) fun (v_1 : Int32) =>
  sX12_chairsOn_8_l14 x1 x2 x3 9 0 0 f L
set_option maxRecDepth 100000 in
noncomputable def sX12_chairsOn_7_h63 (x1 : Int32) (x2 : Int32) (x3 : Int32) (rec_63 : Int32 → sg_F → sg_L → sg_F) (y6_63 : Int32) (fp_63 : sg_F) (L : sg_L) : sg_F :=
  spl (α := Int32) (fp_63 0 6) fun (v_4 : Int32) =>
  if y6_63.toInt < v_4.toInt then (
    spl (α := Int32) (fp_63 15 (Int32.toNatClampNeg y6_63)) fun (v_9 : Int32) =>
    spl (α := sg_F) (sg_up fp_63 16 (sgu (fp_63 16) (Int32.toNatClampNeg y6_63) v_9)) fun (f_11 : sg_F) =>
    spl (α := Int32) (y6_63 + 1) fun (v_12 : Int32) =>
    rec_63 v_12 f_11 L) else (
    (fp_63))
set_option maxRecDepth 100000 in
noncomputable def sX12_chairsOn_7_l63 (x1 : Int32) (x2 : Int32) (x3 : Int32) (n : Nat) : Int32 → sg_F → sg_L → sg_F :=
  Nat.rec (motive := fun _ => Int32 → sg_F → sg_L → sg_F) (fun _ f L => (f)) (fun _ r => sX12_chairsOn_7_h63 x1 x2 x3 r) n
set_option maxRecDepth 100000 in
noncomputable def sX12_chairsOn_7_b54 (x1 : Int32) (x2 : Int32) (x3 : Int32) (y5_54 : Int32) (fp_54 : sg_F) (L : sg_L) : sg_F :=
  spl (α := Int32) (fp_54 0 6) fun (v_14 : Int32) =>
  spl (α := sg_F) (sg_up fp_54 0 (sgu (fp_54 0) 35 y5_54)) fun (f_17 : sg_F) =>
  sX12_chairsOn_7_l63 x1 x2 x3 8 0 f_17 L
set_option maxRecDepth 100000 in
noncomputable def sX12_chairsOn_7_h14 (x1 : Int32) (x2 : Int32) (x3 : Int32) (rec_14 : Int32 → Int32 → sg_F → sg_L → sg_F) (y5_14 : Int32) (y6_14 : Int32) (fp_14 : sg_F) (L : sg_L) : sg_F :=
  spl (α := Int32) (fp_14 0 6) fun (v_18 : Int32) =>
  if y6_14.toInt < x1.toInt then (
    spl (sX12_chairLoss x2 y6_14 fp_14 L) fun (r_31 : Int32) =>
    spl (α := Int32) (y5_14 + r_31) fun (v_33 : Int32) =>
    spl (α := Int32) (y6_14 + 1) fun (v_34 : Int32) =>
    rec_14 v_33 v_34 fp_14 L) else (
    spl (α := Int32) (fp_14 0 35) fun (v_23 : Int32) =>
    if v_23.toInt < 0 then (
      sX12_chairsOn_7_b54 x1 x2 x3 y5_14 fp_14 L) else (
      if y5_14.toInt < v_23.toInt then (
        sX12_chairsOn_7_b54 x1 x2 x3 y5_14 fp_14 L) else (
        (fp_14))))
set_option maxRecDepth 100000 in
noncomputable def sX12_chairsOn_7_l14 (x1 : Int32) (x2 : Int32) (x3 : Int32) (n : Nat) : Int32 → Int32 → sg_F → sg_L → sg_F :=
  Nat.rec (motive := fun _ => Int32 → Int32 → sg_F → sg_L → sg_F) (fun _ _ f L => (f)) (fun _ r => sX12_chairsOn_7_h14 x1 x2 x3 r) n
set_option maxRecDepth 100000 in
noncomputable def sX12_chairsOn_7_h116 (x1 : Int32) (x2 : Int32) (x3 : Int32) (rec_116 : Int32 → sg_F → sg_L → sg_F) (y5_116 : Int32) (fp_116 : sg_F) (L : sg_L) : sg_F :=
  spl (α := Int32) (fp_116 0 6) fun (v_36 : Int32) =>
  if y5_116.toInt < x3.toInt then (
    if x1.toInt < y5_116.toInt then (
      (fp_116)) else (
      spl (α := sg_F) (sg_up fp_116 15 (sgu (fp_116 15) (Int32.toNatClampNeg 7) y5_116)) fun (f_43 : sg_F) =>
      if y5_116.toInt = x1.toInt then (
        spl (α := Int32) (x1 + 1) fun (v_54 : Int32) =>
        spl (sX12_chairsOn_8 v_54 x2 x3 f_43 L) fun (f_58 : sg_F) =>
        spl (α := Int32) (y5_116 + 1) fun (v_62 : Int32) =>
        rec_116 v_62 f_58 L) else (
        spl (sX12_chairsOn_8 x1 x2 x3 f_43 L) fun (f_48 : sg_F) =>
        spl (α := Int32) (y5_116 + 1) fun (v_52 : Int32) =>
        rec_116 v_52 f_48 L))) else (
    (fp_116))
set_option maxRecDepth 100000 in
noncomputable def sX12_chairsOn_7_l116 (x1 : Int32) (x2 : Int32) (x3 : Int32) (n : Nat) : Int32 → sg_F → sg_L → sg_F :=
  Nat.rec (motive := fun _ => Int32 → sg_F → sg_L → sg_F) (fun _ f L => (f)) (fun _ r => sX12_chairsOn_7_h116 x1 x2 x3 r) n
set_option maxRecDepth 100000 in
noncomputable def sX12_chairsOn_7 (x1 : Int32) (x2 : Int32) (x3 : Int32) (f : sg_F) (L : sg_L) : sg_F :=
  spl (α := Int32) (f 0 6) fun (v_1 : Int32) =>
  if 7 = v_1.toInt then (
    sX12_chairsOn_7_l14 x1 x2 x3 8 0 0 f L) else (
    spl (sX12_isIn x2 7 f L) fun (r_69 : Int32) =>
    if r_69.toInt = 0 then (
      spl (sX12_chairsOn_8 x1 x2 x3 f L) fun (f_75 : sg_F) =>
      (f_75)) else (
      sX12_chairsOn_7_l116 x1 x2 x3 9 0 f L))
set_option maxRecDepth 100000 in
noncomputable def sX12_chairsOn_6_h63 (x1 : Int32) (x2 : Int32) (x3 : Int32) (rec_63 : Int32 → sg_F → sg_L → sg_F) (y6_63 : Int32) (fp_63 : sg_F) (L : sg_L) : sg_F :=
  spl (α := Int32) (fp_63 0 6) fun (v_4 : Int32) =>
  if y6_63.toInt < v_4.toInt then (
    spl (α := Int32) (fp_63 15 (Int32.toNatClampNeg y6_63)) fun (v_9 : Int32) =>
    spl (α := sg_F) (sg_up fp_63 16 (sgu (fp_63 16) (Int32.toNatClampNeg y6_63) v_9)) fun (f_11 : sg_F) =>
    spl (α := Int32) (y6_63 + 1) fun (v_12 : Int32) =>
    rec_63 v_12 f_11 L) else (
    (fp_63))
set_option maxRecDepth 100000 in
noncomputable def sX12_chairsOn_6_l63 (x1 : Int32) (x2 : Int32) (x3 : Int32) (n : Nat) : Int32 → sg_F → sg_L → sg_F :=
  Nat.rec (motive := fun _ => Int32 → sg_F → sg_L → sg_F) (fun _ f L => (f)) (fun _ r => sX12_chairsOn_6_h63 x1 x2 x3 r) n
set_option maxRecDepth 100000 in
noncomputable def sX12_chairsOn_6_b54 (x1 : Int32) (x2 : Int32) (x3 : Int32) (y5_54 : Int32) (fp_54 : sg_F) (L : sg_L) : sg_F :=
  spl (α := Int32) (fp_54 0 6) fun (v_14 : Int32) =>
  spl (α := sg_F) (sg_up fp_54 0 (sgu (fp_54 0) 35 y5_54)) fun (f_17 : sg_F) =>
  sX12_chairsOn_6_l63 x1 x2 x3 7 0 f_17 L
set_option maxRecDepth 100000 in
noncomputable def sX12_chairsOn_6_h14 (x1 : Int32) (x2 : Int32) (x3 : Int32) (rec_14 : Int32 → Int32 → sg_F → sg_L → sg_F) (y5_14 : Int32) (y6_14 : Int32) (fp_14 : sg_F) (L : sg_L) : sg_F :=
  spl (α := Int32) (fp_14 0 6) fun (v_18 : Int32) =>
  if y6_14.toInt < x1.toInt then (
    spl (sX12_chairLoss x2 y6_14 fp_14 L) fun (r_31 : Int32) =>
    spl (α := Int32) (y5_14 + r_31) fun (v_33 : Int32) =>
    spl (α := Int32) (y6_14 + 1) fun (v_34 : Int32) =>
    rec_14 v_33 v_34 fp_14 L) else (
    spl (α := Int32) (fp_14 0 35) fun (v_23 : Int32) =>
    if v_23.toInt < 0 then (
      sX12_chairsOn_6_b54 x1 x2 x3 y5_14 fp_14 L) else (
      if y5_14.toInt < v_23.toInt then (
        sX12_chairsOn_6_b54 x1 x2 x3 y5_14 fp_14 L) else (
        (fp_14))))
set_option maxRecDepth 100000 in
noncomputable def sX12_chairsOn_6_l14 (x1 : Int32) (x2 : Int32) (x3 : Int32) (n : Nat) : Int32 → Int32 → sg_F → sg_L → sg_F :=
  Nat.rec (motive := fun _ => Int32 → Int32 → sg_F → sg_L → sg_F) (fun _ _ f L => (f)) (fun _ r => sX12_chairsOn_6_h14 x1 x2 x3 r) n
set_option maxRecDepth 100000 in
noncomputable def sX12_chairsOn_6_h116 (x1 : Int32) (x2 : Int32) (x3 : Int32) (rec_116 : Int32 → sg_F → sg_L → sg_F) (y5_116 : Int32) (fp_116 : sg_F) (L : sg_L) : sg_F :=
  spl (α := Int32) (fp_116 0 6) fun (v_36 : Int32) =>
  if y5_116.toInt < x3.toInt then (
    if x1.toInt < y5_116.toInt then (
      (fp_116)) else (
      spl (α := sg_F) (sg_up fp_116 15 (sgu (fp_116 15) (Int32.toNatClampNeg 6) y5_116)) fun (f_43 : sg_F) =>
      if y5_116.toInt = x1.toInt then (
        spl (α := Int32) (x1 + 1) fun (v_54 : Int32) =>
        spl (sX12_chairsOn_7 v_54 x2 x3 f_43 L) fun (f_58 : sg_F) =>
        spl (α := Int32) (y5_116 + 1) fun (v_62 : Int32) =>
        rec_116 v_62 f_58 L) else (
        spl (sX12_chairsOn_7 x1 x2 x3 f_43 L) fun (f_48 : sg_F) =>
        spl (α := Int32) (y5_116 + 1) fun (v_52 : Int32) =>
        rec_116 v_52 f_48 L))) else (
    (fp_116))
set_option maxRecDepth 100000 in
noncomputable def sX12_chairsOn_6_l116 (x1 : Int32) (x2 : Int32) (x3 : Int32) (n : Nat) : Int32 → sg_F → sg_L → sg_F :=
  Nat.rec (motive := fun _ => Int32 → sg_F → sg_L → sg_F) (fun _ f L => (f)) (fun _ r => sX12_chairsOn_6_h116 x1 x2 x3 r) n
set_option maxRecDepth 100000 in
noncomputable def sX12_chairsOn_6 (x1 : Int32) (x2 : Int32) (x3 : Int32) (f : sg_F) (L : sg_L) : sg_F :=
  spl (α := Int32) (f 0 6) fun (v_1 : Int32) =>
  if 6 = v_1.toInt then (
    sX12_chairsOn_6_l14 x1 x2 x3 7 0 0 f L) else (
    spl (sX12_isIn x2 6 f L) fun (r_69 : Int32) =>
    if r_69.toInt = 0 then (
      spl (sX12_chairsOn_7 x1 x2 x3 f L) fun (f_75 : sg_F) =>
      (f_75)) else (
      sX12_chairsOn_6_l116 x1 x2 x3 8 0 f L))
set_option maxRecDepth 100000 in
noncomputable def sX12_chairsOn_5_h63 (x1 : Int32) (x2 : Int32) (x3 : Int32) (rec_63 : Int32 → sg_F → sg_L → sg_F) (y6_63 : Int32) (fp_63 : sg_F) (L : sg_L) : sg_F :=
  spl (α := Int32) (fp_63 0 6) fun (v_4 : Int32) =>
  if y6_63.toInt < v_4.toInt then (
    spl (α := Int32) (fp_63 15 (Int32.toNatClampNeg y6_63)) fun (v_9 : Int32) =>
    spl (α := sg_F) (sg_up fp_63 16 (sgu (fp_63 16) (Int32.toNatClampNeg y6_63) v_9)) fun (f_11 : sg_F) =>
    spl (α := Int32) (y6_63 + 1) fun (v_12 : Int32) =>
    rec_63 v_12 f_11 L) else (
    (fp_63))
set_option maxRecDepth 100000 in
noncomputable def sX12_chairsOn_5_l63 (x1 : Int32) (x2 : Int32) (x3 : Int32) (n : Nat) : Int32 → sg_F → sg_L → sg_F :=
  Nat.rec (motive := fun _ => Int32 → sg_F → sg_L → sg_F) (fun _ f L => (f)) (fun _ r => sX12_chairsOn_5_h63 x1 x2 x3 r) n
set_option maxRecDepth 100000 in
noncomputable def sX12_chairsOn_5_b54 (x1 : Int32) (x2 : Int32) (x3 : Int32) (y5_54 : Int32) (fp_54 : sg_F) (L : sg_L) : sg_F :=
  spl (α := Int32) (fp_54 0 6) fun (v_14 : Int32) =>
  spl (α := sg_F) (sg_up fp_54 0 (sgu (fp_54 0) 35 y5_54)) fun (f_17 : sg_F) =>
  sX12_chairsOn_5_l63 x1 x2 x3 6 0 f_17 L
set_option maxRecDepth 100000 in
noncomputable def sX12_chairsOn_5_h14 (x1 : Int32) (x2 : Int32) (x3 : Int32) (rec_14 : Int32 → Int32 → sg_F → sg_L → sg_F) (y5_14 : Int32) (y6_14 : Int32) (fp_14 : sg_F) (L : sg_L) : sg_F :=
  spl (α := Int32) (fp_14 0 6) fun (v_18 : Int32) =>
  if y6_14.toInt < x1.toInt then (
    spl (sX12_chairLoss x2 y6_14 fp_14 L) fun (r_31 : Int32) =>
    spl (α := Int32) (y5_14 + r_31) fun (v_33 : Int32) =>
    spl (α := Int32) (y6_14 + 1) fun (v_34 : Int32) =>
    rec_14 v_33 v_34 fp_14 L) else (
    spl (α := Int32) (fp_14 0 35) fun (v_23 : Int32) =>
    if v_23.toInt < 0 then (
      sX12_chairsOn_5_b54 x1 x2 x3 y5_14 fp_14 L) else (
      if y5_14.toInt < v_23.toInt then (
        sX12_chairsOn_5_b54 x1 x2 x3 y5_14 fp_14 L) else (
        (fp_14))))
set_option maxRecDepth 100000 in
noncomputable def sX12_chairsOn_5_l14 (x1 : Int32) (x2 : Int32) (x3 : Int32) (n : Nat) : Int32 → Int32 → sg_F → sg_L → sg_F :=
  Nat.rec (motive := fun _ => Int32 → Int32 → sg_F → sg_L → sg_F) (fun _ _ f L => (f)) (fun _ r => sX12_chairsOn_5_h14 x1 x2 x3 r) n
set_option maxRecDepth 100000 in
noncomputable def sX12_chairsOn_5_h116 (x1 : Int32) (x2 : Int32) (x3 : Int32) (rec_116 : Int32 → sg_F → sg_L → sg_F) (y5_116 : Int32) (fp_116 : sg_F) (L : sg_L) : sg_F :=
  spl (α := Int32) (fp_116 0 6) fun (v_36 : Int32) =>
  if y5_116.toInt < x3.toInt then (
    if x1.toInt < y5_116.toInt then (
      (fp_116)) else (
      spl (α := sg_F) (sg_up fp_116 15 (sgu (fp_116 15) (Int32.toNatClampNeg 5) y5_116)) fun (f_43 : sg_F) =>
      if y5_116.toInt = x1.toInt then (
        spl (α := Int32) (x1 + 1) fun (v_54 : Int32) =>
        spl (sX12_chairsOn_6 v_54 x2 x3 f_43 L) fun (f_58 : sg_F) =>
        spl (α := Int32) (y5_116 + 1) fun (v_62 : Int32) =>
        rec_116 v_62 f_58 L) else (
        spl (sX12_chairsOn_6 x1 x2 x3 f_43 L) fun (f_48 : sg_F) =>
        spl (α := Int32) (y5_116 + 1) fun (v_52 : Int32) =>
        rec_116 v_52 f_48 L))) else (
    (fp_116))
set_option maxRecDepth 100000 in
noncomputable def sX12_chairsOn_5_l116 (x1 : Int32) (x2 : Int32) (x3 : Int32) (n : Nat) : Int32 → sg_F → sg_L → sg_F :=
  Nat.rec (motive := fun _ => Int32 → sg_F → sg_L → sg_F) (fun _ f L => (f)) (fun _ r => sX12_chairsOn_5_h116 x1 x2 x3 r) n
set_option maxRecDepth 100000 in
noncomputable def sX12_chairsOn_5 (x1 : Int32) (x2 : Int32) (x3 : Int32) (f : sg_F) (L : sg_L) : sg_F :=
  spl (α := Int32) (f 0 6) fun (v_1 : Int32) =>
  if 5 = v_1.toInt then (
    sX12_chairsOn_5_l14 x1 x2 x3 6 0 0 f L) else (
    spl (sX12_isIn x2 5 f L) fun (r_69 : Int32) =>
    if r_69.toInt = 0 then (
      spl (sX12_chairsOn_6 x1 x2 x3 f L) fun (f_75 : sg_F) =>
      (f_75)) else (
      sX12_chairsOn_5_l116 x1 x2 x3 7 0 f L))
set_option maxRecDepth 100000 in
noncomputable def sX12_chairsOn_4_h63 (x1 : Int32) (x2 : Int32) (x3 : Int32) (rec_63 : Int32 → sg_F → sg_L → sg_F) (y6_63 : Int32) (fp_63 : sg_F) (L : sg_L) : sg_F :=
  spl (α := Int32) (fp_63 0 6) fun (v_4 : Int32) =>
  if y6_63.toInt < v_4.toInt then (
    spl (α := Int32) (fp_63 15 (Int32.toNatClampNeg y6_63)) fun (v_9 : Int32) =>
    spl (α := sg_F) (sg_up fp_63 16 (sgu (fp_63 16) (Int32.toNatClampNeg y6_63) v_9)) fun (f_11 : sg_F) =>
    spl (α := Int32) (y6_63 + 1) fun (v_12 : Int32) =>
    rec_63 v_12 f_11 L) else (
    (fp_63))
set_option maxRecDepth 100000 in
noncomputable def sX12_chairsOn_4_l63 (x1 : Int32) (x2 : Int32) (x3 : Int32) (n : Nat) : Int32 → sg_F → sg_L → sg_F :=
  Nat.rec (motive := fun _ => Int32 → sg_F → sg_L → sg_F) (fun _ f L => (f)) (fun _ r => sX12_chairsOn_4_h63 x1 x2 x3 r) n
set_option maxRecDepth 100000 in
noncomputable def sX12_chairsOn_4_b54 (x1 : Int32) (x2 : Int32) (x3 : Int32) (y5_54 : Int32) (fp_54 : sg_F) (L : sg_L) : sg_F :=
  spl (α := Int32) (fp_54 0 6) fun (v_14 : Int32) =>
  spl (α := sg_F) (sg_up fp_54 0 (sgu (fp_54 0) 35 y5_54)) fun (f_17 : sg_F) =>
  sX12_chairsOn_4_l63 x1 x2 x3 5 0 f_17 L
set_option maxRecDepth 100000 in
noncomputable def sX12_chairsOn_4_h14 (x1 : Int32) (x2 : Int32) (x3 : Int32) (rec_14 : Int32 → Int32 → sg_F → sg_L → sg_F) (y5_14 : Int32) (y6_14 : Int32) (fp_14 : sg_F) (L : sg_L) : sg_F :=
  spl (α := Int32) (fp_14 0 6) fun (v_18 : Int32) =>
  if y6_14.toInt < x1.toInt then (
    spl (sX12_chairLoss x2 y6_14 fp_14 L) fun (r_31 : Int32) =>
    spl (α := Int32) (y5_14 + r_31) fun (v_33 : Int32) =>
    spl (α := Int32) (y6_14 + 1) fun (v_34 : Int32) =>
    rec_14 v_33 v_34 fp_14 L) else (
    spl (α := Int32) (fp_14 0 35) fun (v_23 : Int32) =>
    if v_23.toInt < 0 then (
      sX12_chairsOn_4_b54 x1 x2 x3 y5_14 fp_14 L) else (
      if y5_14.toInt < v_23.toInt then (
        sX12_chairsOn_4_b54 x1 x2 x3 y5_14 fp_14 L) else (
        (fp_14))))
set_option maxRecDepth 100000 in
noncomputable def sX12_chairsOn_4_l14 (x1 : Int32) (x2 : Int32) (x3 : Int32) (n : Nat) : Int32 → Int32 → sg_F → sg_L → sg_F :=
  Nat.rec (motive := fun _ => Int32 → Int32 → sg_F → sg_L → sg_F) (fun _ _ f L => (f)) (fun _ r => sX12_chairsOn_4_h14 x1 x2 x3 r) n
set_option maxRecDepth 100000 in
noncomputable def sX12_chairsOn_4_h116 (x1 : Int32) (x2 : Int32) (x3 : Int32) (rec_116 : Int32 → sg_F → sg_L → sg_F) (y5_116 : Int32) (fp_116 : sg_F) (L : sg_L) : sg_F :=
  spl (α := Int32) (fp_116 0 6) fun (v_36 : Int32) =>
  if y5_116.toInt < x3.toInt then (
    if x1.toInt < y5_116.toInt then (
      (fp_116)) else (
      spl (α := sg_F) (sg_up fp_116 15 (sgu (fp_116 15) (Int32.toNatClampNeg 4) y5_116)) fun (f_43 : sg_F) =>
      if y5_116.toInt = x1.toInt then (
        spl (α := Int32) (x1 + 1) fun (v_54 : Int32) =>
        spl (sX12_chairsOn_5 v_54 x2 x3 f_43 L) fun (f_58 : sg_F) =>
        spl (α := Int32) (y5_116 + 1) fun (v_62 : Int32) =>
        rec_116 v_62 f_58 L) else (
        spl (sX12_chairsOn_5 x1 x2 x3 f_43 L) fun (f_48 : sg_F) =>
        spl (α := Int32) (y5_116 + 1) fun (v_52 : Int32) =>
        rec_116 v_52 f_48 L))) else (
    (fp_116))
set_option maxRecDepth 100000 in
noncomputable def sX12_chairsOn_4_l116 (x1 : Int32) (x2 : Int32) (x3 : Int32) (n : Nat) : Int32 → sg_F → sg_L → sg_F :=
  Nat.rec (motive := fun _ => Int32 → sg_F → sg_L → sg_F) (fun _ f L => (f)) (fun _ r => sX12_chairsOn_4_h116 x1 x2 x3 r) n
set_option maxRecDepth 100000 in
noncomputable def sX12_chairsOn_4 (x1 : Int32) (x2 : Int32) (x3 : Int32) (f : sg_F) (L : sg_L) : sg_F :=
  spl (α := Int32) (f 0 6) fun (v_1 : Int32) =>
  if 4 = v_1.toInt then (
    sX12_chairsOn_4_l14 x1 x2 x3 5 0 0 f L) else (
    spl (sX12_isIn x2 4 f L) fun (r_69 : Int32) =>
    if r_69.toInt = 0 then (
      spl (sX12_chairsOn_5 x1 x2 x3 f L) fun (f_75 : sg_F) =>
      (f_75)) else (
      sX12_chairsOn_4_l116 x1 x2 x3 6 0 f L))
set_option maxRecDepth 100000 in
noncomputable def sX12_chairsOn_3_h63 (x1 : Int32) (x2 : Int32) (x3 : Int32) (rec_63 : Int32 → sg_F → sg_L → sg_F) (y6_63 : Int32) (fp_63 : sg_F) (L : sg_L) : sg_F :=
  spl (α := Int32) (fp_63 0 6) fun (v_4 : Int32) =>
  if y6_63.toInt < v_4.toInt then (
    spl (α := Int32) (fp_63 15 (Int32.toNatClampNeg y6_63)) fun (v_9 : Int32) =>
    spl (α := sg_F) (sg_up fp_63 16 (sgu (fp_63 16) (Int32.toNatClampNeg y6_63) v_9)) fun (f_11 : sg_F) =>
    spl (α := Int32) (y6_63 + 1) fun (v_12 : Int32) =>
    rec_63 v_12 f_11 L) else (
    (fp_63))
set_option maxRecDepth 100000 in
noncomputable def sX12_chairsOn_3_l63 (x1 : Int32) (x2 : Int32) (x3 : Int32) (n : Nat) : Int32 → sg_F → sg_L → sg_F :=
  Nat.rec (motive := fun _ => Int32 → sg_F → sg_L → sg_F) (fun _ f L => (f)) (fun _ r => sX12_chairsOn_3_h63 x1 x2 x3 r) n
set_option maxRecDepth 100000 in
noncomputable def sX12_chairsOn_3_b54 (x1 : Int32) (x2 : Int32) (x3 : Int32) (y5_54 : Int32) (fp_54 : sg_F) (L : sg_L) : sg_F :=
  spl (α := Int32) (fp_54 0 6) fun (v_14 : Int32) =>
  spl (α := sg_F) (sg_up fp_54 0 (sgu (fp_54 0) 35 y5_54)) fun (f_17 : sg_F) =>
  sX12_chairsOn_3_l63 x1 x2 x3 4 0 f_17 L
set_option maxRecDepth 100000 in
noncomputable def sX12_chairsOn_3_h14 (x1 : Int32) (x2 : Int32) (x3 : Int32) (rec_14 : Int32 → Int32 → sg_F → sg_L → sg_F) (y5_14 : Int32) (y6_14 : Int32) (fp_14 : sg_F) (L : sg_L) : sg_F :=
  spl (α := Int32) (fp_14 0 6) fun (v_18 : Int32) =>
  if y6_14.toInt < x1.toInt then (
    spl (sX12_chairLoss x2 y6_14 fp_14 L) fun (r_31 : Int32) =>
    spl (α := Int32) (y5_14 + r_31) fun (v_33 : Int32) =>
    spl (α := Int32) (y6_14 + 1) fun (v_34 : Int32) =>
    rec_14 v_33 v_34 fp_14 L) else (
    spl (α := Int32) (fp_14 0 35) fun (v_23 : Int32) =>
    if v_23.toInt < 0 then (
      sX12_chairsOn_3_b54 x1 x2 x3 y5_14 fp_14 L) else (
      if y5_14.toInt < v_23.toInt then (
        sX12_chairsOn_3_b54 x1 x2 x3 y5_14 fp_14 L) else (
        (fp_14))))
set_option maxRecDepth 100000 in
noncomputable def sX12_chairsOn_3_l14 (x1 : Int32) (x2 : Int32) (x3 : Int32) (n : Nat) : Int32 → Int32 → sg_F → sg_L → sg_F :=
  Nat.rec (motive := fun _ => Int32 → Int32 → sg_F → sg_L → sg_F) (fun _ _ f L => (f)) (fun _ r => sX12_chairsOn_3_h14 x1 x2 x3 r) n
set_option maxRecDepth 100000 in
noncomputable def sX12_chairsOn_3_h116 (x1 : Int32) (x2 : Int32) (x3 : Int32) (rec_116 : Int32 → sg_F → sg_L → sg_F) (y5_116 : Int32) (fp_116 : sg_F) (L : sg_L) : sg_F :=
  spl (α := Int32) (fp_116 0 6) fun (v_36 : Int32) =>
  if y5_116.toInt < x3.toInt then (
    if x1.toInt < y5_116.toInt then (
      (fp_116)) else (
      spl (α := sg_F) (sg_up fp_116 15 (sgu (fp_116 15) (Int32.toNatClampNeg 3) y5_116)) fun (f_43 : sg_F) =>
      if y5_116.toInt = x1.toInt then (
        spl (α := Int32) (x1 + 1) fun (v_54 : Int32) =>
        spl (sX12_chairsOn_4 v_54 x2 x3 f_43 L) fun (f_58 : sg_F) =>
        spl (α := Int32) (y5_116 + 1) fun (v_62 : Int32) =>
        rec_116 v_62 f_58 L) else (
        spl (sX12_chairsOn_4 x1 x2 x3 f_43 L) fun (f_48 : sg_F) =>
        spl (α := Int32) (y5_116 + 1) fun (v_52 : Int32) =>
        rec_116 v_52 f_48 L))) else (
    (fp_116))
set_option maxRecDepth 100000 in
noncomputable def sX12_chairsOn_3_l116 (x1 : Int32) (x2 : Int32) (x3 : Int32) (n : Nat) : Int32 → sg_F → sg_L → sg_F :=
  Nat.rec (motive := fun _ => Int32 → sg_F → sg_L → sg_F) (fun _ f L => (f)) (fun _ r => sX12_chairsOn_3_h116 x1 x2 x3 r) n
set_option maxRecDepth 100000 in
noncomputable def sX12_chairsOn_3 (x1 : Int32) (x2 : Int32) (x3 : Int32) (f : sg_F) (L : sg_L) : sg_F :=
  spl (α := Int32) (f 0 6) fun (v_1 : Int32) =>
  if 3 = v_1.toInt then (
    sX12_chairsOn_3_l14 x1 x2 x3 4 0 0 f L) else (
    spl (sX12_isIn x2 3 f L) fun (r_69 : Int32) =>
    if r_69.toInt = 0 then (
      spl (sX12_chairsOn_4 x1 x2 x3 f L) fun (f_75 : sg_F) =>
      (f_75)) else (
      sX12_chairsOn_3_l116 x1 x2 x3 5 0 f L))
set_option maxRecDepth 100000 in
noncomputable def sX12_chairsOn_2_h63 (x1 : Int32) (x2 : Int32) (x3 : Int32) (rec_63 : Int32 → sg_F → sg_L → sg_F) (y6_63 : Int32) (fp_63 : sg_F) (L : sg_L) : sg_F :=
  spl (α := Int32) (fp_63 0 6) fun (v_4 : Int32) =>
  if y6_63.toInt < v_4.toInt then (
    spl (α := Int32) (fp_63 15 (Int32.toNatClampNeg y6_63)) fun (v_9 : Int32) =>
    spl (α := sg_F) (sg_up fp_63 16 (sgu (fp_63 16) (Int32.toNatClampNeg y6_63) v_9)) fun (f_11 : sg_F) =>
    spl (α := Int32) (y6_63 + 1) fun (v_12 : Int32) =>
    rec_63 v_12 f_11 L) else (
    (fp_63))
set_option maxRecDepth 100000 in
noncomputable def sX12_chairsOn_2_l63 (x1 : Int32) (x2 : Int32) (x3 : Int32) (n : Nat) : Int32 → sg_F → sg_L → sg_F :=
  Nat.rec (motive := fun _ => Int32 → sg_F → sg_L → sg_F) (fun _ f L => (f)) (fun _ r => sX12_chairsOn_2_h63 x1 x2 x3 r) n
set_option maxRecDepth 100000 in
noncomputable def sX12_chairsOn_2_b54 (x1 : Int32) (x2 : Int32) (x3 : Int32) (y5_54 : Int32) (fp_54 : sg_F) (L : sg_L) : sg_F :=
  spl (α := Int32) (fp_54 0 6) fun (v_14 : Int32) =>
  spl (α := sg_F) (sg_up fp_54 0 (sgu (fp_54 0) 35 y5_54)) fun (f_17 : sg_F) =>
  sX12_chairsOn_2_l63 x1 x2 x3 3 0 f_17 L
set_option maxRecDepth 100000 in
noncomputable def sX12_chairsOn_2_h14 (x1 : Int32) (x2 : Int32) (x3 : Int32) (rec_14 : Int32 → Int32 → sg_F → sg_L → sg_F) (y5_14 : Int32) (y6_14 : Int32) (fp_14 : sg_F) (L : sg_L) : sg_F :=
  spl (α := Int32) (fp_14 0 6) fun (v_18 : Int32) =>
  if y6_14.toInt < x1.toInt then (
    spl (sX12_chairLoss x2 y6_14 fp_14 L) fun (r_31 : Int32) =>
    spl (α := Int32) (y5_14 + r_31) fun (v_33 : Int32) =>
    spl (α := Int32) (y6_14 + 1) fun (v_34 : Int32) =>
    rec_14 v_33 v_34 fp_14 L) else (
    spl (α := Int32) (fp_14 0 35) fun (v_23 : Int32) =>
    if v_23.toInt < 0 then (
      sX12_chairsOn_2_b54 x1 x2 x3 y5_14 fp_14 L) else (
      if y5_14.toInt < v_23.toInt then (
        sX12_chairsOn_2_b54 x1 x2 x3 y5_14 fp_14 L) else (
        (fp_14))))
set_option maxRecDepth 100000 in
noncomputable def sX12_chairsOn_2_l14 (x1 : Int32) (x2 : Int32) (x3 : Int32) (n : Nat) : Int32 → Int32 → sg_F → sg_L → sg_F :=
  Nat.rec (motive := fun _ => Int32 → Int32 → sg_F → sg_L → sg_F) (fun _ _ f L => (f)) (fun _ r => sX12_chairsOn_2_h14 x1 x2 x3 r) n
set_option maxRecDepth 100000 in
noncomputable def sX12_chairsOn_2_h116 (x1 : Int32) (x2 : Int32) (x3 : Int32) (rec_116 : Int32 → sg_F → sg_L → sg_F) (y5_116 : Int32) (fp_116 : sg_F) (L : sg_L) : sg_F :=
  spl (α := Int32) (fp_116 0 6) fun (v_36 : Int32) =>
  if y5_116.toInt < x3.toInt then (
    if x1.toInt < y5_116.toInt then (
      (fp_116)) else (
      spl (α := sg_F) (sg_up fp_116 15 (sgu (fp_116 15) (Int32.toNatClampNeg 2) y5_116)) fun (f_43 : sg_F) =>
      if y5_116.toInt = x1.toInt then (
        spl (α := Int32) (x1 + 1) fun (v_54 : Int32) =>
        spl (sX12_chairsOn_3 v_54 x2 x3 f_43 L) fun (f_58 : sg_F) =>
        spl (α := Int32) (y5_116 + 1) fun (v_62 : Int32) =>
        rec_116 v_62 f_58 L) else (
        spl (sX12_chairsOn_3 x1 x2 x3 f_43 L) fun (f_48 : sg_F) =>
        spl (α := Int32) (y5_116 + 1) fun (v_52 : Int32) =>
        rec_116 v_52 f_48 L))) else (
    (fp_116))
set_option maxRecDepth 100000 in
noncomputable def sX12_chairsOn_2_l116 (x1 : Int32) (x2 : Int32) (x3 : Int32) (n : Nat) : Int32 → sg_F → sg_L → sg_F :=
  Nat.rec (motive := fun _ => Int32 → sg_F → sg_L → sg_F) (fun _ f L => (f)) (fun _ r => sX12_chairsOn_2_h116 x1 x2 x3 r) n
set_option maxRecDepth 100000 in
noncomputable def sX12_chairsOn_2 (x1 : Int32) (x2 : Int32) (x3 : Int32) (f : sg_F) (L : sg_L) : sg_F :=
  spl (α := Int32) (f 0 6) fun (v_1 : Int32) =>
  if 2 = v_1.toInt then (
    sX12_chairsOn_2_l14 x1 x2 x3 3 0 0 f L) else (
    spl (sX12_isIn x2 2 f L) fun (r_69 : Int32) =>
    if r_69.toInt = 0 then (
      spl (sX12_chairsOn_3 x1 x2 x3 f L) fun (f_75 : sg_F) =>
      (f_75)) else (
      sX12_chairsOn_2_l116 x1 x2 x3 4 0 f L))
set_option maxRecDepth 100000 in
noncomputable def sX12_chairsOn_1_h63 (x1 : Int32) (x2 : Int32) (x3 : Int32) (rec_63 : Int32 → sg_F → sg_L → sg_F) (y6_63 : Int32) (fp_63 : sg_F) (L : sg_L) : sg_F :=
  spl (α := Int32) (fp_63 0 6) fun (v_4 : Int32) =>
  if y6_63.toInt < v_4.toInt then (
    spl (α := Int32) (fp_63 15 (Int32.toNatClampNeg y6_63)) fun (v_9 : Int32) =>
    spl (α := sg_F) (sg_up fp_63 16 (sgu (fp_63 16) (Int32.toNatClampNeg y6_63) v_9)) fun (f_11 : sg_F) =>
    spl (α := Int32) (y6_63 + 1) fun (v_12 : Int32) =>
    rec_63 v_12 f_11 L) else (
    (fp_63))
set_option maxRecDepth 100000 in
noncomputable def sX12_chairsOn_1_l63 (x1 : Int32) (x2 : Int32) (x3 : Int32) (n : Nat) : Int32 → sg_F → sg_L → sg_F :=
  Nat.rec (motive := fun _ => Int32 → sg_F → sg_L → sg_F) (fun _ f L => (f)) (fun _ r => sX12_chairsOn_1_h63 x1 x2 x3 r) n
set_option maxRecDepth 100000 in
noncomputable def sX12_chairsOn_1_b54 (x1 : Int32) (x2 : Int32) (x3 : Int32) (y5_54 : Int32) (fp_54 : sg_F) (L : sg_L) : sg_F :=
  spl (α := Int32) (fp_54 0 6) fun (v_14 : Int32) =>
  spl (α := sg_F) (sg_up fp_54 0 (sgu (fp_54 0) 35 y5_54)) fun (f_17 : sg_F) =>
  sX12_chairsOn_1_l63 x1 x2 x3 2 0 f_17 L
set_option maxRecDepth 100000 in
noncomputable def sX12_chairsOn_1_h14 (x1 : Int32) (x2 : Int32) (x3 : Int32) (rec_14 : Int32 → Int32 → sg_F → sg_L → sg_F) (y5_14 : Int32) (y6_14 : Int32) (fp_14 : sg_F) (L : sg_L) : sg_F :=
  spl (α := Int32) (fp_14 0 6) fun (v_18 : Int32) =>
  if y6_14.toInt < x1.toInt then (
    spl (sX12_chairLoss x2 y6_14 fp_14 L) fun (r_31 : Int32) =>
    spl (α := Int32) (y5_14 + r_31) fun (v_33 : Int32) =>
    spl (α := Int32) (y6_14 + 1) fun (v_34 : Int32) =>
    rec_14 v_33 v_34 fp_14 L) else (
    spl (α := Int32) (fp_14 0 35) fun (v_23 : Int32) =>
    if v_23.toInt < 0 then (
      sX12_chairsOn_1_b54 x1 x2 x3 y5_14 fp_14 L) else (
      if y5_14.toInt < v_23.toInt then (
        sX12_chairsOn_1_b54 x1 x2 x3 y5_14 fp_14 L) else (
        (fp_14))))
set_option maxRecDepth 100000 in
noncomputable def sX12_chairsOn_1_l14 (x1 : Int32) (x2 : Int32) (x3 : Int32) (n : Nat) : Int32 → Int32 → sg_F → sg_L → sg_F :=
  Nat.rec (motive := fun _ => Int32 → Int32 → sg_F → sg_L → sg_F) (fun _ _ f L => (f)) (fun _ r => sX12_chairsOn_1_h14 x1 x2 x3 r) n
set_option maxRecDepth 100000 in
noncomputable def sX12_chairsOn_1_h116 (x1 : Int32) (x2 : Int32) (x3 : Int32) (rec_116 : Int32 → sg_F → sg_L → sg_F) (y5_116 : Int32) (fp_116 : sg_F) (L : sg_L) : sg_F :=
  spl (α := Int32) (fp_116 0 6) fun (v_36 : Int32) =>
  if y5_116.toInt < x3.toInt then (
    if x1.toInt < y5_116.toInt then (
      (fp_116)) else (
      spl (α := sg_F) (sg_up fp_116 15 (sgu (fp_116 15) (Int32.toNatClampNeg 1) y5_116)) fun (f_43 : sg_F) =>
      if y5_116.toInt = x1.toInt then (
        spl (α := Int32) (x1 + 1) fun (v_54 : Int32) =>
        spl (sX12_chairsOn_2 v_54 x2 x3 f_43 L) fun (f_58 : sg_F) =>
        spl (α := Int32) (y5_116 + 1) fun (v_62 : Int32) =>
        rec_116 v_62 f_58 L) else (
        spl (sX12_chairsOn_2 x1 x2 x3 f_43 L) fun (f_48 : sg_F) =>
        spl (α := Int32) (y5_116 + 1) fun (v_52 : Int32) =>
        rec_116 v_52 f_48 L))) else (
    (fp_116))
set_option maxRecDepth 100000 in
noncomputable def sX12_chairsOn_1_l116 (x1 : Int32) (x2 : Int32) (x3 : Int32) (n : Nat) : Int32 → sg_F → sg_L → sg_F :=
  Nat.rec (motive := fun _ => Int32 → sg_F → sg_L → sg_F) (fun _ f L => (f)) (fun _ r => sX12_chairsOn_1_h116 x1 x2 x3 r) n
set_option maxRecDepth 100000 in
noncomputable def sX12_chairsOn_1 (x1 : Int32) (x2 : Int32) (x3 : Int32) (f : sg_F) (L : sg_L) : sg_F :=
  spl (α := Int32) (f 0 6) fun (v_1 : Int32) =>
  if 1 = v_1.toInt then (
    sX12_chairsOn_1_l14 x1 x2 x3 2 0 0 f L) else (
    spl (sX12_isIn x2 1 f L) fun (r_69 : Int32) =>
    if r_69.toInt = 0 then (
      spl (sX12_chairsOn_2 x1 x2 x3 f L) fun (f_75 : sg_F) =>
      (f_75)) else (
      sX12_chairsOn_1_l116 x1 x2 x3 3 0 f L))
set_option maxRecDepth 100000 in
noncomputable def sX12_chairsOn_0_h63 (x1 : Int32) (x2 : Int32) (x3 : Int32) (rec_63 : sg_F → sg_L → sg_F) (fp_63 : sg_F) (L : sg_L) : sg_F :=
  spl (α := Int32) (fp_63 0 35) fun (v_4 : Int32) =>
  spl (α := Int32) (fp_63 0 6) fun (v_6 : Int32) =>
  (fp_63)
set_option maxRecDepth 100000 in
noncomputable def sX12_chairsOn_0_l63 (x1 : Int32) (x2 : Int32) (x3 : Int32) (n : Nat) : sg_F → sg_L → sg_F :=
  Nat.rec (motive := fun _ => sg_F → sg_L → sg_F) (fun  f L => (f)) (fun _ r => sX12_chairsOn_0_h63 x1 x2 x3 r) n
set_option maxRecDepth 100000 in
noncomputable def sX12_chairsOn_0_b54 (x1 : Int32) (x2 : Int32) (x3 : Int32) (fp_54 : sg_F) (L : sg_L) : sg_F :=
  spl (α := Int32) (fp_54 0 6) fun (v_11 : Int32) =>
  spl (α := sg_F) (sg_up fp_54 0 (sgu (fp_54 0) 35 0)) fun (f_14 : sg_F) =>
  sX12_chairsOn_0_l63 x1 x2 x3 1 f_14 L
set_option maxRecDepth 100000 in
noncomputable def sX12_chairsOn_0_h14 (x1 : Int32) (x2 : Int32) (x3 : Int32) (rec_14 : sg_F → sg_L → sg_F) (fp_14 : sg_F) (L : sg_L) : sg_F :=
  spl (α := Int32) (fp_14 0 6) fun (v_15 : Int32) =>
  spl (α := Int32) (fp_14 0 35) fun (v_20 : Int32) =>
  if v_20.toInt < 0 then (
    sX12_chairsOn_0_b54 x1 x2 x3 fp_14 L) else (
    if 0 < v_20.toInt then (
      sX12_chairsOn_0_b54 x1 x2 x3 fp_14 L) else (
      (fp_14)))
set_option maxRecDepth 100000 in
noncomputable def sX12_chairsOn_0_l14 (x1 : Int32) (x2 : Int32) (x3 : Int32) (n : Nat) : sg_F → sg_L → sg_F :=
  Nat.rec (motive := fun _ => sg_F → sg_L → sg_F) (fun  f L => (f)) (fun _ r => sX12_chairsOn_0_h14 x1 x2 x3 r) n
set_option maxRecDepth 100000 in
noncomputable def sX12_chairsOn_0_h116 (x1 : Int32) (x2 : Int32) (x3 : Int32) (rec_116 : Int32 → sg_F → sg_L → sg_F) (y5_116 : Int32) (fp_116 : sg_F) (L : sg_L) : sg_F :=
  spl (α := Int32) (fp_116 0 6) fun (v_25 : Int32) =>
  if y5_116.toInt < x3.toInt then (
    if x1.toInt < y5_116.toInt then (
      (fp_116)) else (
      spl (α := sg_F) (sg_up fp_116 15 (sgu (fp_116 15) (Int32.toNatClampNeg 0) y5_116)) fun (f_32 : sg_F) =>
      spl (α := Int32) (x1 + 1) fun (v_35 : Int32) =>
      spl (sX12_chairsOn_1 v_35 x2 x3 f_32 L) fun (f_39 : sg_F) =>
      spl (α := Int32) (y5_116 + 1) fun (v_43 : Int32) =>
      rec_116 v_43 f_39 L)) else (
    (fp_116))
set_option maxRecDepth 100000 in
noncomputable def sX12_chairsOn_0_l116 (x1 : Int32) (x2 : Int32) (x3 : Int32) (n : Nat) : Int32 → sg_F → sg_L → sg_F :=
  Nat.rec (motive := fun _ => Int32 → sg_F → sg_L → sg_F) (fun _ f L => (f)) (fun _ r => sX12_chairsOn_0_h116 x1 x2 x3 r) n
set_option maxRecDepth 100000 in
noncomputable def sX12_chairsOn_0 (x1 : Int32) (x2 : Int32) (x3 : Int32) (f : sg_F) (L : sg_L) : sg_F :=
  spl (α := Int32) (f 0 6) fun (v_1 : Int32) =>
  if 0 = v_1.toInt then (
    sX12_chairsOn_0_l14 x1 x2 x3 1 f L) else (
    spl (sX12_isIn x2 0 f L) fun (r_50 : Int32) =>
    if r_50.toInt = 0 then (
      spl (sX12_chairsOn_1 x1 x2 x3 f L) fun (f_56 : sg_F) =>
      (f_56)) else (
      sX12_chairsOn_0_l116 x1 x2 x3 2 0 f L))
set_option maxRecDepth 100000 in
noncomputable def sX12_chairs_b164 (rec_96 : Int32 → sg_F → sg_L → Int32 × sg_F) (x0 : Int32) (x1 : Int32) (x2 : Int32) (y4_164 : Int32) (fp_164 : sg_F) (L : sg_L) : Int32 × sg_F :=
  spl (α := Int32) (y4_164 + 1) fun (v_1 : Int32) =>
  rec_96 v_1 fp_164 L
set_option maxRecDepth 100000 in
noncomputable def sX12_chairs_h118 (rec_96 : Int32 → sg_F → sg_L → Int32 × sg_F) (x0 : Int32) (x1 : Int32) (x2 : Int32) (rec_118 : Int32 → Int32 → Int32 → sg_F → sg_L → Int32 × sg_F) (y4_118 : Int32) (y5_118 : Int32) (y6_118 : Int32) (fp_118 : sg_F) (L : sg_L) : Int32 × sg_F :=
  if y6_118.toInt < 61 then (
    if y5_118.toInt < 0 then (
      sX12_chairs_b164 rec_96 x0 x1 x2 y4_118 fp_118 L) else (
      spl (α := Int32) (61 * y5_118) fun (v_7 : Int32) =>
      spl (α := Int32) (v_7 + y6_118) fun (v_9 : Int32) =>
      spl (α := Int32) (fp_118 14 (Int32.toNatClampNeg v_9)) fun (v_11 : Int32) =>
      spl (α := Int32) (x1 / 10) fun (v_12 : Int32) =>
      spl2 (sX12_lossOf y5_118 v_12 y6_118 fp_118 L) fun (r_17 : Int32) (f_14 : sg_F) =>
      spl (α := Int32) (v_11 + r_17) fun (v_19 : Int32) =>
      spl (α := sg_F) (sg_up f_14 14 (sgu (f_14 14) (Int32.toNatClampNeg v_9) v_19)) fun (f_20 : sg_F) =>
      spl (α := Int32) (y6_118 + 1) fun (v_21 : Int32) =>
      rec_118 y4_118 y5_118 v_21 f_20 L)) else (
    sX12_chairs_b164 rec_96 x0 x1 x2 y4_118 fp_118 L)
set_option maxRecDepth 100000 in
noncomputable def sX12_chairs_l118 (rec_96 : Int32 → sg_F → sg_L → Int32 × sg_F) (x0 : Int32) (x1 : Int32) (x2 : Int32) (n : Nat) : Int32 → Int32 → Int32 → sg_F → sg_L → Int32 × sg_F :=
  Nat.rec (motive := fun _ => Int32 → Int32 → Int32 → sg_F → sg_L → Int32 × sg_F) (fun _ _ _ f L => ((0 : Int32), f)) (fun _ r => sX12_chairs_h118 rec_96 x0 x1 x2 r) n
set_option maxRecDepth 100000 in
noncomputable def sX12_chairs_h96 (x0 : Int32) (x1 : Int32) (x2 : Int32) (rec_96 : Int32 → sg_F → sg_L → Int32 × sg_F) (y4_96 : Int32) (fp_96 : sg_F) (L : sg_L) : Int32 × sg_F :=
  spl (sX12_shiftsOf x0 fp_96 L) fun (r_26 : Int32) =>
  if y4_96.toInt < r_26.toInt then (
    spl (sX12_whoSits x0 y4_96 fp_96 L) fun (r_61 : Int32) =>
    sX12_chairs_l118 rec_96 x0 x1 x2 62 y4_96 r_61 0 fp_96 L) else (
    spl (sX12_sitsSet x0 fp_96 L) fun (r_33 : Int32) =>
    spl (α := sg_F) (sg_up fp_96 0 (sgu (fp_96 0) 35 (-1))) fun (f_35 : sg_F) =>
    spl (α := Int32) (x1 - x1 / 10 * 10) fun (v_36 : Int32) =>
    spl (α := Int32) (f_35 0 6) fun (v_38 : Int32) =>
    spl (sX12_chairsOn_0 0 r_33 v_36 f_35 L) fun (f_42 : sg_F) =>
    if x2.toInt < 0 then (
      spl (α := Int32) (f_42 0 35) fun (v_57 : Int32) =>
      ((v_57 : Int32), f_42)) else (
      spl (sX12_isIn r_33 x2 f_42 L) fun (r_51 : Int32) =>
      if r_51.toInt = 0 then (
        (((-2) : Int32), f_42)) else (
        spl (α := Int32) (f_42 16 (Int32.toNatClampNeg x2)) fun (v_55 : Int32) =>
        ((v_55 : Int32), f_42))))
set_option maxRecDepth 100000 in
noncomputable def sX12_chairs_l96 (x0 : Int32) (x1 : Int32) (x2 : Int32) (n : Nat) : Int32 → sg_F → sg_L → Int32 × sg_F :=
  Nat.rec (motive := fun _ => Int32 → sg_F → sg_L → Int32 × sg_F) (fun _ f L => ((0 : Int32), f)) (fun _ r => sX12_chairs_h96 x0 x1 x2 r) n
set_option maxRecDepth 100000 in
noncomputable def sX12_chairs_h71 (x0 : Int32) (x1 : Int32) (x2 : Int32) (rec_71 : Int32 → sg_F → sg_L → Int32 × sg_F) (y4_71 : Int32) (fp_71 : sg_F) (L : sg_L) : Int32 × sg_F :=
  if y4_71.toInt < 488 then (
    spl (α := sg_F) (sg_up fp_71 14 (sgu (fp_71 14) (Int32.toNatClampNeg y4_71) 0)) fun (f_65 : sg_F) =>
    spl (α := Int32) (y4_71 + 1) fun (v_66 : Int32) =>
    rec_71 v_66 f_65 L) else (
    sX12_chairs_l96 x0 x1 x2 22 0 fp_71 L)
set_option maxRecDepth 100000 in
noncomputable def sX12_chairs_l71 (x0 : Int32) (x1 : Int32) (x2 : Int32) (n : Nat) : Int32 → sg_F → sg_L → Int32 × sg_F :=
  Nat.rec (motive := fun _ => Int32 → sg_F → sg_L → Int32 × sg_F) (fun _ f L => ((0 : Int32), f)) (fun _ r => sX12_chairs_h71 x0 x1 x2 r) n
set_option maxRecDepth 100000 in
noncomputable def sX12_chairs_b54 (x0 : Int32) (x1 : Int32) (x2 : Int32) (fp_54 : sg_F) (L : sg_L) : Int32 × sg_F :=
  spl (sX12_bytesIs x0 fp_54 L) fun (r_71 : Int32) =>
  if r_71 = 1 then (
    sX12_chairs_l71 x0 x1 x2 489 0 fp_54 L) else (
    if r_71 = (-1) then (
      (((-1) : Int32), fp_54)) else (
      ((r_71 : Int32), fp_54)))
set_option maxRecDepth 100000 in
noncomputable def sX12_chairs (x0 : Int32) (x1 : Int32) (x2 : Int32) (f : sg_F) (L : sg_L) : Int32 × sg_F :=
  spl (sX12_bytesIs x0 f L) fun (r_89 : Int32) =>
  if r_89 = 1 then (
    if x1.toInt < 0 then (
      (((-1) : Int32), f)) else (
      spl (α := Int32) (x1 / 10) fun (v_94 : Int32) =>
      spl (sX12_isPart v_94 f L) fun (r_99 : Int32) =>
      if r_99 = 1 then (
        spl (α := Int32) (x1 - x1 / 10 * 10) fun (v_102 : Int32) =>
        spl (α := Int64) (Int32.toInt64 v_102) fun (w_104 : Int64) =>
        spl (sX12_within w_104 1 3 f L) fun (r_109 : Int32) =>
        if r_109 = 1 then (
          if x2.toInt = (-1) then (
            sX12_chairs_b54 x0 x1 x2 f L) else (
            spl (α := Int64) (Int32.toInt64 x2) fun (w_116 : Int64) =>
            spl (α := Int32) (f 0 6) fun (v_118 : Int32) =>
            spl (sX12_isSitter w_116 f L) fun (r_125 : Int32) =>
            if r_125 = 1 then (
              sX12_chairs_b54 x0 x1 x2 f L) else (
              (((-1) : Int32), f)))) else (
          (((-1) : Int32), f))) else (
        (((-1) : Int32), f)))) else (
    if r_89 = (-1) then (
      (((-1) : Int32), f)) else (
      if x1.toInt < 0 then (
        (((-1) : Int32), f)) else (
        spl (α := Int32) (x1 / 10) fun (v_132 : Int32) =>
        spl (sX12_isPart v_132 f L) fun (r_137 : Int32) =>
        if r_137 = 1 then (
          spl (α := Int32) (x1 - x1 / 10 * 10) fun (v_140 : Int32) =>
          spl (α := Int64) (Int32.toInt64 v_140) fun (w_142 : Int64) =>
          spl (sX12_within w_142 1 3 f L) fun (r_147 : Int32) =>
          if r_147 = 1 then (
            if x2.toInt = (-1) then (
              sX12_chairs_b54 x0 x1 x2 f L) else (
              spl (α := Int64) (Int32.toInt64 x2) fun (w_154 : Int64) =>
              spl (α := Int32) (f 0 6) fun (v_156 : Int32) =>
              spl (sX12_isSitter w_154 f L) fun (r_163 : Int32) =>
              if r_163 = 1 then (
                sX12_chairs_b54 x0 x1 x2 f L) else (
                (((-1) : Int32), f)))) else (
            (((-1) : Int32), f))) else (
          (((-1) : Int32), f)))))
set_option maxRecDepth 100000 in
noncomputable def sX12_may1 (x0 : Int32) (f : sg_F) (L : sg_L) : Int32 :=
  spl (α := Int32) (f 0 6) fun (v_1 : Int32) =>
  if x0.toInt < v_1.toInt then (
    ((1 : Int32))) else (
    if x0.toInt = 8 then (
      ((1 : Int32))) else (
      ((0 : Int32))))
set_option maxRecDepth 100000 in
noncomputable def sX12_standsBy_b31 (x0 : Int32) (x1 : Int32) (x2 : Int32) (f : sg_F) (L : sg_L) : Int32 :=
  spl (sX12_slipped x0 x1 f L) fun (r_4 : Int32) =>
  ((r_4 : Int32))
set_option maxRecDepth 100000 in
noncomputable def sX12_standsBy (x0 : Int32) (x1 : Int32) (x2 : Int32) (f : sg_F) (L : sg_L) : Int32 :=
  if x2.toInt < 8 then (
    spl (sX12_numberOf x2 x0 f L) fun (r_11 : Int32) =>
    spl (α := Int32) (r_11 - x1) fun (v_13 : Int32) =>
    spl (sX12_sizeOf v_13 f L) fun (r_18 : Int32) =>
    spl (sX12_numberOf x2 6 f L) fun (r_23 : Int32) =>
    if r_23.toInt < r_18.toInt then (
      spl (sX12_slipped x0 r_11 f L) fun (r_35 : Int32) =>
      ((r_35 : Int32))) else (
      sX12_standsBy_b31 x0 x1 x2 f L)) else (
    sX12_standsBy_b31 x0 x1 x2 f L)
set_option maxRecDepth 100000 in
noncomputable def sX12_isSeen (x0 : Int32) (x1 : Int32) (x2 : Int32) (f : sg_F) (L : sg_L) : Int32 :=
  spl (α := Int32) (60 * x0) fun (v_1 : Int32) =>
  spl (α := Int32) (v_1 + x1) fun (v_3 : Int32) =>
  spl (α := Int64) (L 24 (Int32.toNatClampNeg v_3)) fun (w_5 : Int64) =>
  spl (α := Int32) (lg_cmp (w_5 : Int64) ((-1) : Int64)) fun (v_6 : Int32) =>
  if v_6.toInt = 0 then (
    ((1 : Int32))) else (
    spl (α := Int64) (Int32.toInt64 x2) fun (w_10 : Int64) =>
    spl (α := Int32) (lg_cmp (w_5 : Int64) (w_10 : Int64)) fun (v_12 : Int32) =>
    if v_12.toInt = 0 then (
      ((1 : Int32))) else (
      ((0 : Int32))))
set_option maxRecDepth 100000 in
noncomputable def sX12_who_b506 (rec_409 : Int32 → Int32 → sg_F → sg_L → Int32 × sg_F) (rec_419 : Int32 → Int32 → Int32 → sg_F → sg_L → Int32 × sg_F) (x0 : Int32) (x1 : Int32) (x2 : Int32) (y5_506 : Int32) (y6_506 : Int32) (y7_506 : Int32) (fp_506 : sg_F) (L : sg_L) : Int32 × sg_F :=
  spl (α := Int32) (y5_506 ||| 0) fun (v_1 : Int32) =>
  spl (α := Int32) (y7_506 + 1) fun (v_2 : Int32) =>
  rec_419 v_1 y6_506 v_2 fp_506 L
set_option maxRecDepth 100000 in
noncomputable def sX12_who_h419 (rec_409 : Int32 → Int32 → sg_F → sg_L → Int32 × sg_F) (x0 : Int32) (x1 : Int32) (x2 : Int32) (rec_419 : Int32 → Int32 → Int32 → sg_F → sg_L → Int32 × sg_F) (y5_419 : Int32) (y6_419 : Int32) (y7_419 : Int32) (fp_419 : sg_F) (L : sg_L) : Int32 × sg_F :=
  if 8 < y7_419.toInt then (
    spl (α := Int32) (y6_419 + 1) fun (v_6 : Int32) =>
    rec_409 y5_419 v_6 fp_419 L) else (
    spl (sX12_may1 y7_419 fp_419 L) fun (r_11 : Int32) =>
    if r_11.toInt = 0 then (
      sX12_who_b506 rec_409 rec_419 x0 x1 x2 y5_419 y6_419 y7_419 fp_419 L) else (
      spl (sX12_standsBy x1 y6_419 y7_419 fp_419 L) fun (r_25 : Int32) =>
      spl (α := Int32) (61 * x2) fun (v_34 : Int32) =>
      spl (α := Int32) (v_34 + y6_419) fun (v_36 : Int32) =>
      spl (α := Int32) (fp_419 17 (Int32.toNatClampNeg v_36)) fun (v_38 : Int32) =>
      if v_38.toInt = 0 then (
        sX12_who_b506 rec_409 rec_419 x0 x1 x2 y5_419 y6_419 y7_419 fp_419 L) else (
        spl (sX12_isSeen x0 x2 r_25 fp_419 L) fun (r_45 : Int32) =>
        if r_45.toInt = 0 then (
          sX12_who_b506 rec_409 rec_419 x0 x1 x2 y5_419 y6_419 y7_419 fp_419 L) else (
          spl (α := Int32) (x2 + 1) fun (v_49 : Int32) =>
          spl (α := Int32) (61 * v_49) fun (v_51 : Int32) =>
          spl (α := Int32) (v_51 + r_25) fun (v_53 : Int32) =>
          spl (α := Int32) (fp_419 18 (Int32.toNatClampNeg v_53)) fun (v_55 : Int32) =>
          if v_55.toInt = 0 then (
            sX12_who_b506 rec_409 rec_419 x0 x1 x2 y5_419 y6_419 y7_419 fp_419 L) else (
            spl (α := Int32) ((1 : Int32) <<< ((y7_419 : Int32) &&& 31)) fun (v_59 : Int32) =>
            spl (α := Int32) (y5_419 ||| v_59) fun (v_61 : Int32) =>
            spl (α := Int32) (y7_419 + 1) fun (v_62 : Int32) =>
            rec_419 v_61 y6_419 v_62 fp_419 L)))))
set_option maxRecDepth 100000 in
noncomputable def sX12_who_l419 (rec_409 : Int32 → Int32 → sg_F → sg_L → Int32 × sg_F) (x0 : Int32) (x1 : Int32) (x2 : Int32) (n : Nat) : Int32 → Int32 → Int32 → sg_F → sg_L → Int32 × sg_F :=
  Nat.rec (motive := fun _ => Int32 → Int32 → Int32 → sg_F → sg_L → Int32 × sg_F) (fun _ _ _ f L => ((0 : Int32), f)) (fun _ r => sX12_who_h419 rec_409 x0 x1 x2 r) n
set_option maxRecDepth 100000 in
noncomputable def sX12_who_h409 (x0 : Int32) (x1 : Int32) (x2 : Int32) (rec_409 : Int32 → Int32 → sg_F → sg_L → Int32 × sg_F) (y5_409 : Int32) (y6_409 : Int32) (fp_409 : sg_F) (L : sg_L) : Int32 × sg_F :=
  if y6_409.toInt < 61 then (
    sX12_who_l419 rec_409 x0 x1 x2 10 y5_409 y6_409 0 fp_409 L) else (
    ((y5_409 : Int32), fp_409))
set_option maxRecDepth 100000 in
noncomputable def sX12_who_l409 (x0 : Int32) (x1 : Int32) (x2 : Int32) (n : Nat) : Int32 → Int32 → sg_F → sg_L → Int32 × sg_F :=
  Nat.rec (motive := fun _ => Int32 → Int32 → sg_F → sg_L → Int32 × sg_F) (fun _ _ f L => ((0 : Int32), f)) (fun _ r => sX12_who_h409 x0 x1 x2 r) n
set_option maxRecDepth 100000 in
noncomputable def sX12_who_h294 (rec_276 : Int32 → sg_F → sg_L → Int32 × sg_F) (rec_284 : Int32 → Int32 → sg_F → sg_L → Int32 × sg_F) (x0 : Int32) (x1 : Int32) (x2 : Int32) (rec_294 : Int32 → Int32 → Int32 → sg_F → sg_L → Int32 × sg_F) (y5_294 : Int32) (y6_294 : Int32) (y7_294 : Int32) (fp_294 : sg_F) (L : sg_L) : Int32 × sg_F :=
  if 8 < y7_294.toInt then (
    spl (α := Int32) (y6_294 + 1) fun (v_68 : Int32) =>
    rec_284 y5_294 v_68 fp_294 L) else (
    spl (sX12_may1 y7_294 fp_294 L) fun (r_73 : Int32) =>
    if r_73.toInt = 0 then (
      spl (α := Int32) (61 * y5_294) fun (v_77 : Int32) =>
      spl (α := Int32) (v_77 + y6_294) fun (v_79 : Int32) =>
      spl (α := Int32) (fp_294 18 (Int32.toNatClampNeg v_79)) fun (v_81 : Int32) =>
      spl (α := Int32) (v_81 ||| 0) fun (v_90 : Int32) =>
      spl (α := sg_F) (sg_up fp_294 18 (sgu (fp_294 18) (Int32.toNatClampNeg v_79) v_90)) fun (f_92 : sg_F) =>
      spl (α := Int32) (y7_294 + 1) fun (v_93 : Int32) =>
      rec_294 y5_294 y6_294 v_93 f_92 L) else (
      spl (sX12_standsBy x1 y6_294 y7_294 fp_294 L) fun (r_98 : Int32) =>
      spl (α := Int32) (61 * y5_294) fun (v_100 : Int32) =>
      spl (α := Int32) (v_100 + y6_294) fun (v_102 : Int32) =>
      spl (α := Int32) (fp_294 18 (Int32.toNatClampNeg v_102)) fun (v_104 : Int32) =>
      spl (sX12_isSeen x0 y5_294 r_98 fp_294 L) fun (r_116 : Int32) =>
      if r_116.toInt = 0 then (
        spl (α := Int32) (v_104 ||| 0) fun (v_120 : Int32) =>
        spl (α := sg_F) (sg_up fp_294 18 (sgu (fp_294 18) (Int32.toNatClampNeg v_102) v_120)) fun (f_122 : sg_F) =>
        spl (α := Int32) (y7_294 + 1) fun (v_123 : Int32) =>
        rec_294 y5_294 y6_294 v_123 f_122 L) else (
        spl (α := Int32) (y5_294 + 1) fun (v_125 : Int32) =>
        spl (α := Int32) (61 * v_125) fun (v_127 : Int32) =>
        spl (α := Int32) (v_127 + r_98) fun (v_129 : Int32) =>
        spl (α := Int32) (fp_294 18 (Int32.toNatClampNeg v_129)) fun (v_131 : Int32) =>
        if v_131.toInt = 0 then (
          spl (α := Int32) (v_104 ||| 0) fun (v_135 : Int32) =>
          spl (α := sg_F) (sg_up fp_294 18 (sgu (fp_294 18) (Int32.toNatClampNeg v_102) v_135)) fun (f_137 : sg_F) =>
          spl (α := Int32) (y7_294 + 1) fun (v_138 : Int32) =>
          rec_294 y5_294 y6_294 v_138 f_137 L) else (
          spl (α := Int32) (v_104 ||| 1) fun (v_140 : Int32) =>
          spl (α := sg_F) (sg_up fp_294 18 (sgu (fp_294 18) (Int32.toNatClampNeg v_102) v_140)) fun (f_142 : sg_F) =>
          spl (α := Int32) (y7_294 + 1) fun (v_143 : Int32) =>
          rec_294 y5_294 y6_294 v_143 f_142 L))))
set_option maxRecDepth 100000 in
noncomputable def sX12_who_l294 (rec_276 : Int32 → sg_F → sg_L → Int32 × sg_F) (rec_284 : Int32 → Int32 → sg_F → sg_L → Int32 × sg_F) (x0 : Int32) (x1 : Int32) (x2 : Int32) (n : Nat) : Int32 → Int32 → Int32 → sg_F → sg_L → Int32 × sg_F :=
  Nat.rec (motive := fun _ => Int32 → Int32 → Int32 → sg_F → sg_L → Int32 × sg_F) (fun _ _ _ f L => ((0 : Int32), f)) (fun _ r => sX12_who_h294 rec_276 rec_284 x0 x1 x2 r) n
set_option maxRecDepth 100000 in
noncomputable def sX12_who_h284 (rec_276 : Int32 → sg_F → sg_L → Int32 × sg_F) (x0 : Int32) (x1 : Int32) (x2 : Int32) (rec_284 : Int32 → Int32 → sg_F → sg_L → Int32 × sg_F) (y5_284 : Int32) (y6_284 : Int32) (fp_284 : sg_F) (L : sg_L) : Int32 × sg_F :=
  if y6_284.toInt < 61 then (
    sX12_who_l294 rec_276 rec_284 x0 x1 x2 10 y5_284 y6_284 0 fp_284 L) else (
    spl (α := Int32) (y5_284 + (-1)) fun (v_147 : Int32) =>
    rec_276 v_147 fp_284 L)
set_option maxRecDepth 100000 in
noncomputable def sX12_who_l284 (rec_276 : Int32 → sg_F → sg_L → Int32 × sg_F) (x0 : Int32) (x1 : Int32) (x2 : Int32) (n : Nat) : Int32 → Int32 → sg_F → sg_L → Int32 × sg_F :=
  Nat.rec (motive := fun _ => Int32 → Int32 → sg_F → sg_L → Int32 × sg_F) (fun _ _ f L => ((0 : Int32), f)) (fun _ r => sX12_who_h284 rec_276 x0 x1 x2 r) n
set_option maxRecDepth 100000 in
noncomputable def sX12_who_h276 (x0 : Int32) (x1 : Int32) (x2 : Int32) (rec_276 : Int32 → sg_F → sg_L → Int32 × sg_F) (y5_276 : Int32) (fp_276 : sg_F) (L : sg_L) : Int32 × sg_F :=
  if y5_276.toInt < 0 then (
    sX12_who_l409 x0 x1 x2 62 0 0 fp_276 L) else (
    sX12_who_l284 rec_276 x0 x1 x2 62 y5_276 0 fp_276 L)
set_option maxRecDepth 100000 in
noncomputable def sX12_who_l276 (x0 : Int32) (x1 : Int32) (x2 : Int32) (n : Nat) : Int32 → sg_F → sg_L → Int32 × sg_F :=
  Nat.rec (motive := fun _ => Int32 → sg_F → sg_L → Int32 × sg_F) (fun _ f L => ((0 : Int32), f)) (fun _ r => sX12_who_h276 x0 x1 x2 r) n
set_option maxRecDepth 100000 in
noncomputable def sX12_who_b258 (rec_141 : Int32 → Int32 → sg_F → sg_L → Int32 × sg_F) (rec_151 : Int32 → Int32 → Int32 → sg_F → sg_L → Int32 × sg_F) (x0 : Int32) (x1 : Int32) (x2 : Int32) (y4_258 : Int32) (y5_258 : Int32) (y6_258 : Int32) (fp_258 : sg_F) (L : sg_L) : Int32 × sg_F :=
  spl (α := Int32) (y6_258 + 1) fun (v_151 : Int32) =>
  rec_151 y4_258 y5_258 v_151 fp_258 L
set_option maxRecDepth 100000 in
noncomputable def sX12_who_h161 (rec_141 : Int32 → Int32 → sg_F → sg_L → Int32 × sg_F) (rec_151 : Int32 → Int32 → Int32 → sg_F → sg_L → Int32 × sg_F) (x0 : Int32) (x1 : Int32) (x2 : Int32) (rec_161 : Int32 → Int32 → Int32 → Int32 → sg_F → sg_L → Int32 × sg_F) (y4_161 : Int32) (y5_161 : Int32) (y6_161 : Int32) (y7_161 : Int32) (fp_161 : sg_F) (L : sg_L) : Int32 × sg_F :=
  if 8 < y7_161.toInt then (
    sX12_who_b258 rec_141 rec_151 x0 x1 x2 y4_161 y5_161 y6_161 fp_161 L) else (
    spl (α := Int32) (61 * y5_161) fun (v_155 : Int32) =>
    spl (α := Int32) (v_155 + y6_161) fun (v_157 : Int32) =>
    spl (α := Int32) (fp_161 17 (Int32.toNatClampNeg v_157)) fun (v_159 : Int32) =>
    if v_159.toInt = 0 then (
      sX12_who_b258 rec_141 rec_151 x0 x1 x2 y4_161 y5_161 y6_161 fp_161 L) else (
      spl (sX12_may1 y7_161 fp_161 L) fun (r_166 : Int32) =>
      if r_166.toInt = 0 then (
        spl (α := Int32) (y5_161 + 1) fun (v_170 : Int32) =>
        spl (α := Int32) (61 * v_170) fun (v_172 : Int32) =>
        spl (α := Int32) (fp_161 17 (Int32.toNatClampNeg v_172)) fun (v_174 : Int32) =>
        spl (α := Int32) (v_174 ||| 0) fun (v_183 : Int32) =>
        spl (α := sg_F) (sg_up fp_161 17 (sgu (fp_161 17) (Int32.toNatClampNeg v_172) v_183)) fun (f_185 : sg_F) =>
        spl (α := Int32) (y7_161 + 1) fun (v_186 : Int32) =>
        rec_161 y4_161 y5_161 y6_161 v_186 f_185 L) else (
        spl (sX12_standsBy x1 y6_161 y7_161 fp_161 L) fun (r_191 : Int32) =>
        spl (α := Int32) (y5_161 + 1) fun (v_193 : Int32) =>
        spl (α := Int32) (61 * v_193) fun (v_195 : Int32) =>
        spl (α := Int32) (v_195 + r_191) fun (v_197 : Int32) =>
        spl (α := Int32) (fp_161 17 (Int32.toNatClampNeg v_197)) fun (v_199 : Int32) =>
        spl (sX12_isSeen x0 y5_161 r_191 fp_161 L) fun (r_211 : Int32) =>
        if r_211.toInt = 0 then (
          spl (α := Int32) (v_199 ||| 0) fun (v_215 : Int32) =>
          spl (α := sg_F) (sg_up fp_161 17 (sgu (fp_161 17) (Int32.toNatClampNeg v_197) v_215)) fun (f_217 : sg_F) =>
          spl (α := Int32) (y7_161 + 1) fun (v_218 : Int32) =>
          rec_161 y4_161 y5_161 y6_161 v_218 f_217 L) else (
          spl (α := Int32) (v_199 ||| 1) fun (v_220 : Int32) =>
          spl (α := sg_F) (sg_up fp_161 17 (sgu (fp_161 17) (Int32.toNatClampNeg v_197) v_220)) fun (f_222 : sg_F) =>
          spl (α := Int32) (y7_161 + 1) fun (v_223 : Int32) =>
          rec_161 y4_161 y5_161 y6_161 v_223 f_222 L))))
set_option maxRecDepth 100000 in
noncomputable def sX12_who_l161 (rec_141 : Int32 → Int32 → sg_F → sg_L → Int32 × sg_F) (rec_151 : Int32 → Int32 → Int32 → sg_F → sg_L → Int32 × sg_F) (x0 : Int32) (x1 : Int32) (x2 : Int32) (n : Nat) : Int32 → Int32 → Int32 → Int32 → sg_F → sg_L → Int32 × sg_F :=
  Nat.rec (motive := fun _ => Int32 → Int32 → Int32 → Int32 → sg_F → sg_L → Int32 × sg_F) (fun _ _ _ _ f L => ((0 : Int32), f)) (fun _ r => sX12_who_h161 rec_141 rec_151 x0 x1 x2 r) n
set_option maxRecDepth 100000 in
noncomputable def sX12_who_h151 (rec_141 : Int32 → Int32 → sg_F → sg_L → Int32 × sg_F) (x0 : Int32) (x1 : Int32) (x2 : Int32) (rec_151 : Int32 → Int32 → Int32 → sg_F → sg_L → Int32 × sg_F) (y4_151 : Int32) (y5_151 : Int32) (y6_151 : Int32) (fp_151 : sg_F) (L : sg_L) : Int32 × sg_F :=
  if y6_151.toInt < 61 then (
    sX12_who_l161 rec_141 rec_151 x0 x1 x2 10 y4_151 y5_151 y6_151 0 fp_151 L) else (
    spl (α := Int32) (y5_151 + 1) fun (v_227 : Int32) =>
    rec_141 y4_151 v_227 fp_151 L)
set_option maxRecDepth 100000 in
noncomputable def sX12_who_l151 (rec_141 : Int32 → Int32 → sg_F → sg_L → Int32 × sg_F) (x0 : Int32) (x1 : Int32) (x2 : Int32) (n : Nat) : Int32 → Int32 → Int32 → sg_F → sg_L → Int32 × sg_F :=
  Nat.rec (motive := fun _ => Int32 → Int32 → Int32 → sg_F → sg_L → Int32 × sg_F) (fun _ _ _ f L => ((0 : Int32), f)) (fun _ r => sX12_who_h151 rec_141 x0 x1 x2 r) n
set_option maxRecDepth 100000 in
noncomputable def sX12_who_h141 (x0 : Int32) (x1 : Int32) (x2 : Int32) (rec_141 : Int32 → Int32 → sg_F → sg_L → Int32 × sg_F) (y4_141 : Int32) (y5_141 : Int32) (fp_141 : sg_F) (L : sg_L) : Int32 × sg_F :=
  if y5_141.toInt < y4_141.toInt then (
    sX12_who_l151 rec_141 x0 x1 x2 62 y4_141 y5_141 0 fp_141 L) else (
    spl (α := Int32) (y4_141 - 1) fun (v_231 : Int32) =>
    sX12_who_l276 x0 x1 x2 13 v_231 fp_141 L)
set_option maxRecDepth 100000 in
noncomputable def sX12_who_l141 (x0 : Int32) (x1 : Int32) (x2 : Int32) (n : Nat) : Int32 → Int32 → sg_F → sg_L → Int32 × sg_F :=
  Nat.rec (motive := fun _ => Int32 → Int32 → sg_F → sg_L → Int32 × sg_F) (fun _ _ f L => ((0 : Int32), f)) (fun _ r => sX12_who_h141 x0 x1 x2 r) n
set_option maxRecDepth 100000 in
noncomputable def sX12_who_h79 (x0 : Int32) (x1 : Int32) (x2 : Int32) (rec_79 : Int32 → Int32 → sg_F → sg_L → Int32 × sg_F) (y4_79 : Int32) (y5_79 : Int32) (fp_79 : sg_F) (L : sg_L) : Int32 × sg_F :=
  if y5_79.toInt < 793 then (
    spl (α := Int32) (fp_79 5 (Int32.toNatClampNeg x1)) fun (v_235 : Int32) =>
    if y5_79.toInt = v_235.toInt then (
      spl (α := sg_F) (sg_up fp_79 17 (sgu (fp_79 17) (Int32.toNatClampNeg y5_79) 1)) fun (f_250 : sg_F) =>
      spl (α := Int32) (y5_79 / 61) fun (v_251 : Int32) =>
      spl (α := sg_F) (sg_up f_250 18 (sgu (f_250 18) (Int32.toNatClampNeg y5_79) 0)) fun (f_255 : sg_F) =>
      spl (α := Int32) (y5_79 + 1) fun (v_256 : Int32) =>
      rec_79 y4_79 v_256 f_255 L) else (
      spl (α := sg_F) (sg_up fp_79 17 (sgu (fp_79 17) (Int32.toNatClampNeg y5_79) 0)) fun (f_239 : sg_F) =>
      spl (α := Int32) (y5_79 / 61) fun (v_240 : Int32) =>
      if v_240.toInt = y4_79.toInt then (
        spl (α := sg_F) (sg_up f_239 18 (sgu (f_239 18) (Int32.toNatClampNeg y5_79) 1)) fun (f_247 : sg_F) =>
        spl (α := Int32) (y5_79 + 1) fun (v_248 : Int32) =>
        rec_79 y4_79 v_248 f_247 L) else (
        spl (α := sg_F) (sg_up f_239 18 (sgu (f_239 18) (Int32.toNatClampNeg y5_79) 0)) fun (f_244 : sg_F) =>
        spl (α := Int32) (y5_79 + 1) fun (v_245 : Int32) =>
        rec_79 y4_79 v_245 f_244 L))) else (
    sX12_who_l141 x0 x1 x2 13 y4_79 0 fp_79 L)
set_option maxRecDepth 100000 in
noncomputable def sX12_who_l79 (x0 : Int32) (x1 : Int32) (x2 : Int32) (n : Nat) : Int32 → Int32 → sg_F → sg_L → Int32 × sg_F :=
  Nat.rec (motive := fun _ => Int32 → Int32 → sg_F → sg_L → Int32 × sg_F) (fun _ _ f L => ((0 : Int32), f)) (fun _ r => sX12_who_h79 x0 x1 x2 r) n
set_option maxRecDepth 100000 in
noncomputable def sX12_who (x0 : Int32) (x1 : Int32) (x2 : Int32) (f : sg_F) (L : sg_L) : Int32 × sg_F :=
  spl (sX12_bytesIs x0 f L) fun (r_261 : Int32) =>
  if r_261 = 1 then (
    spl (sX12_isPart x1 f L) fun (r_267 : Int32) =>
    if r_267 = 1 then (
      spl (α := Int64) (Int32.toInt64 x2) fun (w_270 : Int64) =>
      spl (sX12_within w_270 0 11 f L) fun (r_275 : Int32) =>
      if r_275 = 1 then (
        spl (α := Int32) (f 23 (Int32.toNatClampNeg x0)) fun (v_285 : Int32) =>
        if v_285.toInt < 12 then (
          if x2.toInt < v_285.toInt then (
            sX12_who_l79 x0 x1 x2 794 v_285 0 f L) else (
            (((-1) : Int32), f))) else (
          sX12_who_l79 x0 x1 x2 794 12 0 f L)) else (
        (((-1) : Int32), f))) else (
      (((-1) : Int32), f))) else (
    if r_261 = (-1) then (
      (((-1) : Int32), f)) else (
      spl (sX12_isPart x1 f L) fun (r_298 : Int32) =>
      if r_298 = 1 then (
        spl (α := Int64) (Int32.toInt64 x2) fun (w_301 : Int64) =>
        spl (sX12_within w_301 0 11 f L) fun (r_306 : Int32) =>
        if r_306 = 1 then (
          ((r_261 : Int32), f)) else (
          (((-1) : Int32), f))) else (
        (((-1) : Int32), f))))
set_option maxRecDepth 100000 in
noncomputable def sX12_judge_h98 (x0 : Int32) (x1 : Int32) (rec_98 : Int32 → sg_F → sg_L → Int32 × sg_F) (y3_98 : Int32) (fp_98 : sg_F) (L : sg_L) : Int32 × sg_F :=
  spl (α := Int32) (x0 / 10) fun (v_1 : Int32) =>
  spl (sX12_shiftsOf v_1 fp_98 L) fun (r_6 : Int32) =>
  if y3_98.toInt < r_6.toInt then (
    spl (α := Int32) (x0 - x0 / 10 * 10) fun (v_10 : Int32) =>
    spl (α := Int32) (fp_98 23 (Int32.toNatClampNeg v_10)) fun (v_12 : Int32) =>
    if y3_98.toInt < v_12.toInt then (
      spl (α := Int32) (y3_98 + 1) fun (v_16 : Int32) =>
      spl (α := Int32) (3 * v_16) fun (v_18 : Int32) =>
      spl (α := Int32) (v_18 + x1) fun (v_20 : Int32) =>
      spl (α := Int32) (fp_98 13 (Int32.toNatClampNeg v_20)) fun (v_22 : Int32) =>
      spl (sX12_isSeen v_10 y3_98 v_22 fp_98 L) fun (r_27 : Int32) =>
      if r_27.toInt = 0 then (
        ((y3_98 : Int32), fp_98)) else (
        spl (α := Int32) (y3_98 + 1) fun (v_31 : Int32) =>
        rec_98 v_31 fp_98 L)) else (
      (((-2) : Int32), fp_98))) else (
    (((-2) : Int32), fp_98))
set_option maxRecDepth 100000 in
noncomputable def sX12_judge_l98 (x0 : Int32) (x1 : Int32) (n : Nat) : Int32 → sg_F → sg_L → Int32 × sg_F :=
  Nat.rec (motive := fun _ => Int32 → sg_F → sg_L → Int32 × sg_F) (fun _ f L => ((0 : Int32), f)) (fun _ r => sX12_judge_h98 x0 x1 r) n
set_option maxRecDepth 100000 in
noncomputable def sX12_judge (x0 : Int32) (x1 : Int32) (f : sg_F) (L : sg_L) : Int32 × sg_F :=
  if x0.toInt < 0 then (
    (((-1) : Int32), f)) else (
    spl (α := Int32) (x0 / 10) fun (v_35 : Int32) =>
    spl (sX12_isShelf v_35 f L) fun (r_40 : Int32) =>
    if r_40 = 1 then (
      spl (α := Int32) (x0 - x0 / 10 * 10) fun (v_43 : Int32) =>
      spl (sX12_isShelf v_43 f L) fun (r_48 : Int32) =>
      if r_48 = 1 then (
        spl (sX12_isPart x1 f L) fun (r_54 : Int32) =>
        if r_54 = 1 then (
          spl (α := Int32) (f 22 (Int32.toNatClampNeg v_35)) fun (v_57 : Int32) =>
          if v_57.toInt < 0 then (
            (((-11) : Int32), f)) else (
            spl (α := Int32) (f 22 (Int32.toNatClampNeg v_43)) fun (v_61 : Int32) =>
            if v_61.toInt < 0 then (
              (((-11) : Int32), f)) else (
              spl (sX12_bytesIs v_35 f L) fun (r_68 : Int32) =>
              if r_68 = 1 then (
                spl (sX12_bytesIs v_43 f L) fun (r_74 : Int32) =>
                if r_74 = 1 then (
                  spl2 (sX12_weekOf v_35 f L) fun (r_80 : Int32) (f_77 : sg_F) =>
                  sX12_judge_l98 x0 x1 22 0 f_77 L) else (
                  if r_74 = (-1) then (
                    (((-12) : Int32), f)) else (
                    (((-12) : Int32), f)))) else (
                if r_68 = (-1) then (
                  (((-12) : Int32), f)) else (
                  (((-12) : Int32), f)))))) else (
          (((-1) : Int32), f))) else (
        (((-1) : Int32), f))) else (
      (((-1) : Int32), f)))
set_option maxRecDepth 100000 in
noncomputable def sX12_drawn_h175 (rec_60 : Int32 → Int32 → Int32 → Int32 → sg_F → sg_L → Int32 × sg_F) (x0 : Int32) (x1 : Int32) (x2 : Int32) (x3 : Int32) (rec_175 : Int32 → Int32 → Int32 → Int32 → Int32 → sg_F → sg_L → Int32 × sg_F) (y5_175 : Int32) (y6_175 : Int32) (y7_175 : Int32) (y8_175 : Int32) (y9_175 : Int32) (fp_175 : sg_F) (L : sg_L) : Int32 × sg_F :=
  if y9_175.toInt < 21 then (
    spl (α := sg_F) (sg_up fp_175 11 (sgu (fp_175 11) (Int32.toNatClampNeg y9_175) 0)) fun (f_5 : sg_F) =>
    spl (α := Int32) (y9_175 + 1) fun (v_6 : Int32) =>
    rec_175 y5_175 y6_175 y7_175 y8_175 v_6 f_5 L) else (
    spl (α := Int32) (y8_175 + 1) fun (v_3 : Int32) =>
    rec_60 y5_175 y6_175 y7_175 v_3 fp_175 L)
set_option maxRecDepth 100000 in
noncomputable def sX12_drawn_l175 (rec_60 : Int32 → Int32 → Int32 → Int32 → sg_F → sg_L → Int32 × sg_F) (x0 : Int32) (x1 : Int32) (x2 : Int32) (x3 : Int32) (n : Nat) : Int32 → Int32 → Int32 → Int32 → Int32 → sg_F → sg_L → Int32 × sg_F :=
  Nat.rec (motive := fun _ => Int32 → Int32 → Int32 → Int32 → Int32 → sg_F → sg_L → Int32 × sg_F) (fun _ _ _ _ _ f L => ((0 : Int32), f)) (fun _ r => sX12_drawn_h175 rec_60 x0 x1 x2 x3 r) n
set_option maxRecDepth 100000 in
noncomputable def sX12_drawn_b156 (rec_60 : Int32 → Int32 → Int32 → Int32 → sg_F → sg_L → Int32 × sg_F) (rec_69 : Int32 → Int32 → Int32 → Int32 → Int32 → sg_F → sg_L → Int32 × sg_F) (x0 : Int32) (x1 : Int32) (x2 : Int32) (x3 : Int32) (y5_156 : Int32) (y6_156 : Int32) (y7_156 : Int32) (y8_156 : Int32) (y9_156 : Int32) (fp_156 : sg_F) (L : sg_L) : Int32 × sg_F :=
  spl (α := Int32) (y9_156 + 1) fun (v_8 : Int32) =>
  rec_69 y5_156 y6_156 y7_156 y8_156 v_8 fp_156 L
set_option maxRecDepth 100000 in
noncomputable def sX12_drawn_h69 (rec_60 : Int32 → Int32 → Int32 → Int32 → sg_F → sg_L → Int32 × sg_F) (x0 : Int32) (x1 : Int32) (x2 : Int32) (x3 : Int32) (rec_69 : Int32 → Int32 → Int32 → Int32 → Int32 → sg_F → sg_L → Int32 × sg_F) (y5_69 : Int32) (y6_69 : Int32) (y7_69 : Int32) (y8_69 : Int32) (y9_69 : Int32) (fp_69 : sg_F) (L : sg_L) : Int32 × sg_F :=
  spl (sX12_shiftsOf x0 fp_69 L) fun (r_13 : Int32) =>
  if y9_69.toInt < r_13.toInt then (
    spl (sX12_whoSits x0 y9_69 fp_69 L) fun (r_26 : Int32) =>
    if r_26.toInt < 0 then (
      sX12_drawn_b156 rec_60 rec_69 x0 x1 x2 x3 y5_69 y6_69 y7_69 y8_69 y9_69 fp_69 L) else (
      spl (α := Int32) (y5_69 * 1103515245) fun (v_30 : Int32) =>
      spl (α := Int32) (v_30 + 12345) fun (v_31 : Int32) =>
      spl (α := Int32) ((Int32.toUInt32 v_31 >>> (Int32.toUInt32 8 &&& Int32.toUInt32 31)).toInt32) fun (v_32 : Int32) =>
      spl (α := Int32) (v_32 - v_32 / 12 * 12) fun (v_33 : Int32) =>
      spl (sX12_numberOf r_26 7 fp_69 L) fun (r_38 : Int32) =>
      if v_33.toInt < r_38.toInt then (
        spl (α := sg_F) (sg_up fp_69 11 (sgu (fp_69 11) (Int32.toNatClampNeg y9_69) 1)) fun (f_43 : sg_F) =>
        spl (α := Int32) (y7_69 + 1) fun (v_44 : Int32) =>
        sX12_drawn_b156 rec_60 rec_69 x0 x1 x2 x3 v_31 y6_69 v_44 y8_69 y9_69 f_43 L) else (
        spl (α := sg_F) (sg_up fp_69 11 (sgu (fp_69 11) (Int32.toNatClampNeg y9_69) 0)) fun (f_42 : sg_F) =>
        sX12_drawn_b156 rec_60 rec_69 x0 x1 x2 x3 v_31 y6_69 y7_69 y8_69 y9_69 f_42 L))) else (
    spl2 (sX12_weekOf x0 fp_69 L) fun (r_20 : Int32) (f_17 : sg_F) =>
    spl (α := Int32) (y6_69 + r_20) fun (v_22 : Int32) =>
    sX12_drawn_l175 rec_60 x0 x1 x2 x3 22 y5_69 v_22 y7_69 y8_69 0 f_17 L)
set_option maxRecDepth 100000 in
noncomputable def sX12_drawn_l69 (rec_60 : Int32 → Int32 → Int32 → Int32 → sg_F → sg_L → Int32 × sg_F) (x0 : Int32) (x1 : Int32) (x2 : Int32) (x3 : Int32) (n : Nat) : Int32 → Int32 → Int32 → Int32 → Int32 → sg_F → sg_L → Int32 × sg_F :=
  Nat.rec (motive := fun _ => Int32 → Int32 → Int32 → Int32 → Int32 → sg_F → sg_L → Int32 × sg_F) (fun _ _ _ _ _ f L => ((0 : Int32), f)) (fun _ r => sX12_drawn_h69 rec_60 x0 x1 x2 x3 r) n
set_option maxRecDepth 100000 in
noncomputable def sX12_drawn_h60 (x0 : Int32) (x1 : Int32) (x2 : Int32) (x3 : Int32) (rec_60 : Int32 → Int32 → Int32 → Int32 → sg_F → sg_L → Int32 × sg_F) (y5_60 : Int32) (y6_60 : Int32) (y7_60 : Int32) (y8_60 : Int32) (fp_60 : sg_F) (L : sg_L) : Int32 × sg_F :=
  if y8_60.toInt < x2.toInt then (
    sX12_drawn_l69 rec_60 x0 x1 x2 x3 22 y5_60 y6_60 y7_60 y8_60 0 fp_60 L) else (
    if x3.toInt = 0 then (
      ((y6_60 : Int32), fp_60)) else (
      ((y7_60 : Int32), fp_60)))
set_option maxRecDepth 100000 in
noncomputable def sX12_drawn_l60 (x0 : Int32) (x1 : Int32) (x2 : Int32) (x3 : Int32) (n : Nat) : Int32 → Int32 → Int32 → Int32 → sg_F → sg_L → Int32 × sg_F :=
  Nat.rec (motive := fun _ => Int32 → Int32 → Int32 → Int32 → sg_F → sg_L → Int32 × sg_F) (fun _ _ _ _ f L => ((0 : Int32), f)) (fun _ r => sX12_drawn_h60 x0 x1 x2 x3 r) n
set_option maxRecDepth 100000 in
noncomputable def sX12_drawn (x0 : Int32) (x1 : Int32) (x2 : Int32) (x3 : Int32) (f : sg_F) (L : sg_L) : Int32 × sg_F :=
  spl (sX12_bytesIs x0 f L) fun (r_52 : Int32) =>
  if r_52 = 1 then (
    spl (α := Int64) (Int32.toInt64 x2) fun (w_55 : Int64) =>
    spl (sX12_within w_55 1 20 f L) fun (r_60 : Int32) =>
    if r_60 = 1 then (
      spl (α := Int64) (Int32.toInt64 x3) fun (w_65 : Int64) =>
      spl (sX12_within w_65 0 1 f L) fun (r_70 : Int32) =>
      if r_70 = 1 then (
        sX12_drawn_l60 x0 x1 x2 x3 21 x1 0 0 0 f L) else (
        (((-1) : Int32), f))) else (
      (((-1) : Int32), f))) else (
    if r_52 = (-1) then (
      (((-1) : Int32), f)) else (
      spl (α := Int64) (Int32.toInt64 x2) fun (w_82 : Int64) =>
      spl (sX12_within w_82 1 20 f L) fun (r_87 : Int32) =>
      if r_87 = 1 then (
        spl (α := Int64) (Int32.toInt64 x3) fun (w_92 : Int64) =>
        spl (sX12_within w_92 0 1 f L) fun (r_97 : Int32) =>
        if r_97 = 1 then (
          ((r_52 : Int32), f)) else (
          (((-1) : Int32), f))) else (
        (((-1) : Int32), f))))
set_option maxRecDepth 100000 in
noncomputable def sX12_sit_h22 (x0 : Int32) (rec_22 : Int32 → sg_F → sg_L → Int32 × sg_F) (y2_22 : Int32) (fp_22 : sg_F) (L : sg_L) : Int32 × sg_F :=
  if y2_22.toInt < 3 then (
    spl (α := Int32) (fp_22 12 (Int32.toNatClampNeg y2_22)) fun (v_30 : Int32) =>
    spl (α := sg_F) (sg_up fp_22 5 (sgu (fp_22 5) (Int32.toNatClampNeg y2_22) v_30)) fun (f_32 : sg_F) =>
    spl (α := Int32) (y2_22 + 1) fun (v_33 : Int32) =>
    rec_22 v_33 f_32 L) else (
    spl (α := Int32) (fp_22 0 31) fun (v_3 : Int32) =>
    spl (α := Int32) (fp_22 0 30) fun (v_4 : Int32) =>
    spl (α := Int32) (v_3 + v_4) fun (v_5 : Int32) =>
    spl (α := Int32) (fp_22 0 38) fun (v_6 : Int32) =>
    spl (α := Int32) (v_6 + 1) fun (v_7 : Int32) =>
    spl (α := sg_F) (sg_up fp_22 0 (sgu (fp_22 0) 38 v_7)) fun (f_8 : sg_F) =>
    spl (α := Int32) (f_8 0 39) fun (v_9 : Int32) =>
    spl (α := Int32) (f_8 0 29) fun (v_10 : Int32) =>
    spl (α := Int32) (v_9 + v_10) fun (v_11 : Int32) =>
    spl (α := sg_F) (sg_up f_8 0 (sgu (f_8 0) 39 v_11)) fun (f_12 : sg_F) =>
    spl (α := Int32) (f_12 0 40) fun (v_13 : Int32) =>
    spl (α := Int32) (v_13 + v_4) fun (v_14 : Int32) =>
    spl (α := sg_F) (sg_up f_12 0 (sgu (f_12 0) 40 v_14)) fun (f_15 : sg_F) =>
    spl (α := Int32) (f_15 0 41) fun (v_16 : Int32) =>
    if v_16.toInt < v_5.toInt then (
      spl (α := sg_F) (sg_up f_15 0 (sgu (f_15 0) 42 x0)) fun (f_25 : sg_F) =>
      if v_16.toInt < v_5.toInt then (
        spl (α := sg_F) (sg_up f_25 0 (sgu (f_25 0) 41 v_5)) fun (f_29 : sg_F) =>
        ((v_5 : Int32), f_29)) else (
        spl (α := sg_F) (sg_up f_25 0 (sgu (f_25 0) 41 v_16)) fun (f_28 : sg_F) =>
        ((v_5 : Int32), f_28))) else (
      spl (α := Int32) (f_15 0 42) fun (v_19 : Int32) =>
      spl (α := sg_F) (sg_up f_15 0 (sgu (f_15 0) 42 v_19)) fun (f_20 : sg_F) =>
      if v_16.toInt < v_5.toInt then (
        spl (α := sg_F) (sg_up f_20 0 (sgu (f_20 0) 41 v_5)) fun (f_24 : sg_F) =>
        ((v_5 : Int32), f_24)) else (
        spl (α := sg_F) (sg_up f_20 0 (sgu (f_20 0) 41 v_16)) fun (f_23 : sg_F) =>
        ((v_5 : Int32), f_23))))
set_option maxRecDepth 100000 in
noncomputable def sX12_sit_l22 (x0 : Int32) (n : Nat) : Int32 → sg_F → sg_L → Int32 × sg_F :=
  Nat.rec (motive := fun _ => Int32 → sg_F → sg_L → Int32 × sg_F) (fun _ f L => ((0 : Int32), f)) (fun _ r => sX12_sit_h22 x0 r) n
set_option maxRecDepth 100000 in
noncomputable def sX12_sit (x0 : Int32) (f : sg_F) (L : sg_L) : Int32 × sg_F :=
  spl (α := Int64) (Int32.toInt64 x0) fun (w_35 : Int64) =>
  spl (α := Int32) (f 0 6) fun (v_37 : Int32) =>
  spl (sX12_isSitter w_35 f L) fun (r_44 : Int32) =>
  if r_44 = 1 then (
    spl (sX12_beginsWeek f L) fun (f_47 : sg_F) =>
    spl (sX12_comes x0 f_47 L) fun (f_51 : sg_F) =>
    sX12_sit_l22 x0 4 0 f_51 L) else (
    (((-1) : Int32), f))
set_option maxRecDepth 100000 in
noncomputable def sX12_set (x0 : Int32) (x1 : Int32) (f : sg_F) (L : sg_L) : Int32 × sg_F :=
  spl (sX12_isPart x0 f L) fun (r_4 : Int32) =>
  if r_4 = 1 then (
    spl (α := Int64) (Int32.toInt64 x1) fun (w_7 : Int64) =>
    spl (sX12_isSetting w_7 f L) fun (r_12 : Int32) =>
    if r_12 = 1 then (
      spl (α := Int32) (f 5 (Int32.toNatClampNeg x0)) fun (v_15 : Int32) =>
      spl (α := Int32) (x1 - v_15) fun (v_17 : Int32) =>
      spl (sX12_sizeOf v_17 f L) fun (r_22 : Int32) =>
      spl (α := sg_F) (sg_up f 5 (sgu (f 5) (Int32.toNatClampNeg x0) x1)) fun (f_24 : sg_F) =>
      spl (α := Int32) (f_24 0 39) fun (v_25 : Int32) =>
      spl (α := Int32) (v_25 + r_22) fun (v_26 : Int32) =>
      spl (α := sg_F) (sg_up f_24 0 (sgu (f_24 0) 39 v_26)) fun (f_27 : sg_F) =>
      ((r_22 : Int32), f_27)) else (
      (((-1) : Int32), f))) else (
    (((-1) : Int32), f))
set_option maxRecDepth 100000 in
noncomputable def sX12_night_h4 (rec_4 : Int32 → Int32 → sg_F → sg_L → Int32 × sg_F) (y1_4 : Int32) (y2_4 : Int32) (fp_4 : sg_F) (L : sg_L) : Int32 × sg_F :=
  if y2_4.toInt < 3 then (
    spl (α := Int32) (fp_4 5 (Int32.toNatClampNeg y2_4)) fun (v_3 : Int32) =>
    spl (sX12_slipped y2_4 v_3 fp_4 L) fun (r_8 : Int32) =>
    if r_8.toInt < v_3.toInt then (
      spl (α := Int32) (y1_4 + 1) fun (v_15 : Int32) =>
      spl (α := sg_F) (sg_up fp_4 5 (sgu (fp_4 5) (Int32.toNatClampNeg y2_4) r_8)) fun (f_16 : sg_F) =>
      spl (α := Int32) (y2_4 + 1) fun (v_17 : Int32) =>
      rec_4 v_15 v_17 f_16 L) else (
      spl (α := sg_F) (sg_up fp_4 5 (sgu (fp_4 5) (Int32.toNatClampNeg y2_4) r_8)) fun (f_12 : sg_F) =>
      spl (α := Int32) (y2_4 + 1) fun (v_13 : Int32) =>
      rec_4 y1_4 v_13 f_12 L)) else (
    ((y1_4 : Int32), fp_4))
set_option maxRecDepth 100000 in
noncomputable def sX12_night_l4 (n : Nat) : Int32 → Int32 → sg_F → sg_L → Int32 × sg_F :=
  Nat.rec (motive := fun _ => Int32 → Int32 → sg_F → sg_L → Int32 × sg_F) (fun _ _ f L => ((0 : Int32), f)) (fun _ r => sX12_night_h4 r) n
set_option maxRecDepth 100000 in
noncomputable def sX12_night (f : sg_F) (L : sg_L) : Int32 × sg_F :=
  sX12_night_l4 4 0 0 f L
set_option maxRecDepth 100000 in
noncomputable def sX12_led (x0 : Int32) (f : sg_F) (L : sg_L) : Int32 :=
  if x0.toInt = 0 then (
    spl (α := Int32) (f 0 38) fun (v_3 : Int32) =>
    ((v_3 : Int32))) else (
    if x0.toInt = 1 then (
      spl (α := Int32) (f 0 39) fun (v_5 : Int32) =>
      ((v_5 : Int32))) else (
      if x0.toInt = 2 then (
        spl (α := Int32) (f 0 40) fun (v_7 : Int32) =>
        ((v_7 : Int32))) else (
        if x0.toInt = 3 then (
          spl (α := Int32) (f 0 41) fun (v_9 : Int32) =>
          ((v_9 : Int32))) else (
          if x0.toInt = 4 then (
            spl (α := Int32) (f 0 42) fun (v_11 : Int32) =>
            ((v_11 : Int32))) else (
            (((-1) : Int32)))))))
set_option maxRecDepth 100000 in
noncomputable def sX12_image_h7 (rec_7 : Int32 → sg_F → sg_L → Int32 × sg_F) (y1_7 : Int32) (fp_7 : sg_F) (L : sg_L) : Int32 × sg_F :=
  spl (α := Int32) (fp_7 0 43) fun (v_1 : Int32) =>
  if y1_7.toInt < 8 then (
    if y1_7.toInt < 3 then (
      spl (α := Int32) (fp_7 5 (Int32.toNatClampNeg y1_7)) fun (v_19 : Int32) =>
      spl (α := sg_F) (sg_up fp_7 19 (sgu (fp_7 19) (Int32.toNatClampNeg y1_7) v_19)) fun (f_21 : sg_F) =>
      spl (α := Int32) (y1_7 + 1) fun (v_22 : Int32) =>
      rec_7 v_22 f_21 L) else (
      spl (α := Int32) (y1_7 - 3) fun (v_9 : Int32) =>
      spl (sX12_led v_9 fp_7 L) fun (r_14 : Int32) =>
      spl (α := sg_F) (sg_up fp_7 19 (sgu (fp_7 19) (Int32.toNatClampNeg y1_7) r_14)) fun (f_16 : sg_F) =>
      spl (α := Int32) (y1_7 + 1) fun (v_17 : Int32) =>
      rec_7 v_17 f_16 L)) else (
    spl (α := Int32) (fp_7 0 38) fun (v_6 : Int32) =>
    ((v_6 : Int32), fp_7))
set_option maxRecDepth 100000 in
noncomputable def sX12_image_l7 (n : Nat) : Int32 → sg_F → sg_L → Int32 × sg_F :=
  Nat.rec (motive := fun _ => Int32 → sg_F → sg_L → Int32 × sg_F) (fun _ f L => ((0 : Int32), f)) (fun _ r => sX12_image_h7 r) n
set_option maxRecDepth 100000 in
noncomputable def sX12_image (f : sg_F) (L : sg_L) : Int32 × sg_F :=
  spl (α := sg_F) (sg_up f 0 (sgu (f 0) 43 1)) fun (f_24 : sg_F) =>
  sX12_image_l7 9 0 f_24 L
set_option maxRecDepth 100000 in
noncomputable def sX12_back_h12 (rec_12 : Int32 → sg_F → sg_L → Int32 × sg_F) (y1_12 : Int32) (fp_12 : sg_F) (L : sg_L) : Int32 × sg_F :=
  spl (α := Int32) (fp_12 0 43) fun (v_1 : Int32) =>
  if y1_12.toInt < 3 then (
    spl (α := Int32) (fp_12 19 (Int32.toNatClampNeg y1_12)) fun (v_16 : Int32) =>
    spl (α := sg_F) (sg_up fp_12 5 (sgu (fp_12 5) (Int32.toNatClampNeg y1_12) v_16)) fun (f_19 : sg_F) =>
    spl (α := Int32) (y1_12 + 1) fun (v_20 : Int32) =>
    rec_12 v_20 f_19 L) else (
    spl (α := Int32) (fp_12 19 (Int32.toNatClampNeg 3)) fun (v_6 : Int32) =>
    spl (α := sg_F) (sg_up fp_12 0 (sgu (fp_12 0) 38 v_6)) fun (f_7 : sg_F) =>
    spl (α := Int32) (f_7 19 (Int32.toNatClampNeg 4)) fun (v_8 : Int32) =>
    spl (α := sg_F) (sg_up f_7 0 (sgu (f_7 0) 39 v_8)) fun (f_9 : sg_F) =>
    spl (α := Int32) (f_9 19 (Int32.toNatClampNeg 5)) fun (v_10 : Int32) =>
    spl (α := sg_F) (sg_up f_9 0 (sgu (f_9 0) 40 v_10)) fun (f_11 : sg_F) =>
    spl (α := Int32) (f_11 19 (Int32.toNatClampNeg 6)) fun (v_12 : Int32) =>
    spl (α := sg_F) (sg_up f_11 0 (sgu (f_11 0) 41 v_12)) fun (f_13 : sg_F) =>
    spl (α := Int32) (f_13 19 (Int32.toNatClampNeg 7)) fun (v_14 : Int32) =>
    spl (α := sg_F) (sg_up f_13 0 (sgu (f_13 0) 42 v_14)) fun (f_15 : sg_F) =>
    ((v_6 : Int32), f_15))
set_option maxRecDepth 100000 in
noncomputable def sX12_back_l12 (n : Nat) : Int32 → sg_F → sg_L → Int32 × sg_F :=
  Nat.rec (motive := fun _ => Int32 → sg_F → sg_L → Int32 × sg_F) (fun _ f L => ((0 : Int32), f)) (fun _ r => sX12_back_h12 r) n
set_option maxRecDepth 100000 in
noncomputable def sX12_back (f : sg_F) (L : sg_L) : Int32 × sg_F :=
  spl (α := Int32) (f 0 43) fun (v_22 : Int32) =>
  if v_22.toInt = 0 then (
    (((-5) : Int32), f)) else (
    sX12_back_l12 4 0 f L)
set_option maxRecDepth 100000 in
noncomputable def sX12_body (x0 : Int32) (f : sg_F) (L : sg_L) : Int32 × sg_F :=
  spl (α := Int64) (Int32.toInt64 x0) fun (w_1 : Int64) =>
  spl (sX12_within w_1 0 7 f L) fun (r_6 : Int32) =>
  if r_6 = 1 then (
    spl (α := Int32) (f 0 45) fun (v_11 : Int32) =>
    if v_11.toInt = 50 then (
      (((-3) : Int32), f)) else (
      spl (α := sg_F) (sg_up f 20 (sgu (f 20) (Int32.toNatClampNeg v_11) x0)) fun (f_15 : sg_F) =>
      spl (α := Int32) (v_11 + 1) fun (v_16 : Int32) =>
      spl (α := sg_F) (sg_up f_15 0 (sgu (f_15 0) 45 v_16)) fun (f_18 : sg_F) =>
      spl (α := Int32) (v_16 - 1) fun (v_19 : Int32) =>
      ((v_19 : Int32), f_18))) else (
    (((-1) : Int32), f))
set_option maxRecDepth 100000 in
noncomputable def sX12_isBody (x0 : Int32) (f : sg_F) (L : sg_L) : Int32 :=
  spl (α := Int32) (f 0 45) fun (v_1 : Int32) =>
  spl (α := Int64) (Int32.toInt64 x0) fun (w_4 : Int64) =>
  spl (α := Int32) (v_1 - 1) fun (v_6 : Int32) =>
  spl (α := Int64) (Int32.toInt64 v_6) fun (w_8 : Int64) =>
  spl (sX12_within w_4 0 w_8 f L) fun (r_13 : Int32) =>
  if r_13 = 1 then (
    ((1 : Int32))) else (
    ((0 : Int32)))
set_option maxRecDepth 100000 in
noncomputable def sX12_begins_1_f0_b19 (fp_19 : sg_F) (L : sg_L) : sg_F :=
  spl (α := Int32) (fp_19 0 48) fun (v_2 : Int32) =>
  spl (α := Int32) (v_2 + 1) fun (v_5 : Int32) =>
  spl (α := sg_F) (sg_up fp_19 0 (sgu (fp_19 0) 48 v_5)) fun (f_7 : sg_F) =>
  (f_7)
set_option maxRecDepth 100000 in
noncomputable def sX12_begins_1_f0 (f : sg_F) (L : sg_L) : sg_F :=
  spl (α := sg_F) (sg_up f 21 (sgu (f 21) 0 1)) fun (f_10 : sg_F) =>
  sX12_begins_1_f0_b19 f_10 L
set_option maxRecDepth 100000 in
noncomputable def sX12_setsAs_0_f0_f0 (x1 : Int32) (f : sg_F) (L : sg_L) : Int32 × sg_F :=
  spl (sX12_begins_1_f0 f L) fun (f_4 : sg_F) =>
  spl (α := Int32) (f_4 0 48) fun (v_9 : Int32) =>
  spl (α := Int32) (f_4 0 50) fun (v_13 : Int32) =>
  spl (α := Int32) (x1 + v_13) fun (v_15 : Int32) =>
  ((v_15 : Int32), f_4)
set_option maxRecDepth 100000 in
noncomputable def sX12_begins_20_f0_b19 (fp_19 : sg_F) (L : sg_L) : sg_F :=
  spl (α := Int32) (fp_19 0 48) fun (v_2 : Int32) =>
  spl (α := Int32) (v_2 + 1) fun (v_5 : Int32) =>
  spl (α := sg_F) (sg_up fp_19 0 (sgu (fp_19 0) 48 v_5)) fun (f_7 : sg_F) =>
  (f_7)
set_option maxRecDepth 100000 in
noncomputable def sX12_begins_20_f0 (f : sg_F) (L : sg_L) : sg_F :=
  spl (α := sg_F) (sg_up f 21 (sgu (f 21) 0 20)) fun (f_10 : sg_F) =>
  sX12_begins_20_f0_b19 f_10 L
set_option maxRecDepth 100000 in
noncomputable def sX12_begins_1_f1_b19 (fp_19 : sg_F) (L : sg_L) : sg_F :=
  spl (α := Int32) (fp_19 0 48) fun (v_2 : Int32) =>
  spl (α := Int32) (v_2 + 1) fun (v_5 : Int32) =>
  spl (α := sg_F) (sg_up fp_19 0 (sgu (fp_19 0) 48 v_5)) fun (f_7 : sg_F) =>
  (f_7)
set_option maxRecDepth 100000 in
noncomputable def sX12_begins_1_f1 (f : sg_F) (L : sg_L) : sg_F :=
  spl (α := sg_F) (sg_up f 21 (sgu (f 21) 1 1)) fun (f_10 : sg_F) =>
  sX12_begins_1_f1_b19 f_10 L
set_option maxRecDepth 100000 in
noncomputable def sX12_setsAs_0_f1_f1 (x1 : Int32) (f : sg_F) (L : sg_L) : Int32 × sg_F :=
  spl (sX12_begins_1_f1 f L) fun (f_4 : sg_F) =>
  spl (α := Int32) (f_4 0 48) fun (v_9 : Int32) =>
  spl (α := Int32) (f_4 0 50) fun (v_13 : Int32) =>
  spl (α := Int32) (x1 + v_13) fun (v_15 : Int32) =>
  ((v_15 : Int32), f_4)
set_option maxRecDepth 100000 in
noncomputable def sX12_setsAs_1_f0_f1_b16 (x1 : Int32) (fp_16 : sg_F) (L : sg_L) : Int32 × sg_F :=
  spl (α := Int32) (fp_16 0 48) fun (v_2 : Int32) =>
  spl (α := Int32) (fp_16 0 49) fun (v_5 : Int32) =>
  spl (sX12_begins_20_f0 fp_16 L) fun (f_12 : sg_F) =>
  spl (α := Int32) (f_12 0 48) fun (v_17 : Int32) =>
  spl2 (sX12_setsAs_0_f1_f1 x1 f_12 L) fun (r_27 : Int32) (f_24 : sg_F) =>
  spl (α := Int32) (f_24 0 48) fun (v_30 : Int32) =>
  spl (α := Int32) (r_27 + 3) fun (v_35 : Int32) =>
  ((v_35 : Int32), f_24)
set_option maxRecDepth 100000 in
noncomputable def sX12_setsAs_1_f0_f1 (x1 : Int32) (f : sg_F) (L : sg_L) : Int32 × sg_F :=
  sX12_setsAs_1_f0_f1_b16 x1 f L
set_option maxRecDepth 100000 in
noncomputable def sX12_setsAs_2_f0_f2 (x1 : Int32) (f : sg_F) (L : sg_L) : Int32 × sg_F :=
  spl (sX12_begins_1_f0 f L) fun (f_4 : sg_F) =>
  spl (α := Int32) (f_4 0 48) fun (v_9 : Int32) =>
  spl (α := Int32) (f_4 0 50) fun (v_13 : Int32) =>
  spl (α := Int32) (x1 + v_13) fun (v_15 : Int32) =>
  ((v_15 : Int32), f_4)
set_option maxRecDepth 100000 in
noncomputable def sX12_setsAs_3_f0_f3 (x1 : Int32) (f : sg_F) (L : sg_L) : Int32 × sg_F :=
  spl (sX12_begins_1_f0 f L) fun (f_4 : sg_F) =>
  spl (α := Int32) (f_4 0 48) fun (v_9 : Int32) =>
  spl (α := Int32) (f_4 0 50) fun (v_13 : Int32) =>
  spl (α := Int32) (x1 + v_13) fun (v_15 : Int32) =>
  ((v_15 : Int32), f_4)
set_option maxRecDepth 100000 in
noncomputable def sX12_setsAs_0_f1_f4 (x1 : Int32) (f : sg_F) (L : sg_L) : Int32 × sg_F :=
  spl (sX12_begins_1_f1 f L) fun (f_4 : sg_F) =>
  spl (α := Int32) (f_4 0 48) fun (v_9 : Int32) =>
  spl (α := Int32) (f_4 0 50) fun (v_13 : Int32) =>
  spl (α := Int32) (x1 + v_13) fun (v_15 : Int32) =>
  ((v_15 : Int32), f_4)
set_option maxRecDepth 100000 in
noncomputable def sX12_setsAs_4_f0_f4_b16 (x1 : Int32) (fp_16 : sg_F) (L : sg_L) : Int32 × sg_F :=
  spl (α := Int32) (fp_16 0 48) fun (v_2 : Int32) =>
  spl (α := Int32) (fp_16 0 49) fun (v_5 : Int32) =>
  spl (sX12_begins_20_f0 fp_16 L) fun (f_12 : sg_F) =>
  spl (α := Int32) (f_12 0 48) fun (v_17 : Int32) =>
  spl2 (sX12_setsAs_0_f1_f4 x1 f_12 L) fun (r_27 : Int32) (f_24 : sg_F) =>
  spl (α := Int32) (f_24 0 48) fun (v_30 : Int32) =>
  spl (α := Int32) (r_27 + 3) fun (v_35 : Int32) =>
  ((v_35 : Int32), f_24)
set_option maxRecDepth 100000 in
noncomputable def sX12_setsAs_4_f0_f4 (x1 : Int32) (f : sg_F) (L : sg_L) : Int32 × sg_F :=
  sX12_setsAs_4_f0_f4_b16 x1 f L
set_option maxRecDepth 100000 in
noncomputable def sX12_setsAs_5_f0_f5 (x1 : Int32) (f : sg_F) (L : sg_L) : Int32 × sg_F :=
  spl (sX12_begins_1_f0 f L) fun (f_4 : sg_F) =>
  spl (α := Int32) (f_4 0 48) fun (v_9 : Int32) =>
  spl (α := Int32) (f_4 0 50) fun (v_13 : Int32) =>
  spl (α := Int32) (x1 + v_13) fun (v_15 : Int32) =>
  ((v_15 : Int32), f_4)
set_option maxRecDepth 100000 in
noncomputable def sX12_begins_70_f0_b19 (fp_19 : sg_F) (L : sg_L) : sg_F :=
  spl (α := Int32) (fp_19 0 48) fun (v_2 : Int32) =>
  spl (α := Int32) (v_2 + 1) fun (v_5 : Int32) =>
  spl (α := sg_F) (sg_up fp_19 0 (sgu (fp_19 0) 48 v_5)) fun (f_7 : sg_F) =>
  (f_7)
set_option maxRecDepth 100000 in
noncomputable def sX12_begins_70_f0 (f : sg_F) (L : sg_L) : sg_F :=
  spl (α := sg_F) (sg_up f 21 (sgu (f 21) 0 70)) fun (f_10 : sg_F) =>
  sX12_begins_70_f0_b19 f_10 L
set_option maxRecDepth 100000 in
noncomputable def sX12_setsAs_0_f1_f6 (x1 : Int32) (f : sg_F) (L : sg_L) : Int32 × sg_F :=
  spl (sX12_begins_1_f1 f L) fun (f_4 : sg_F) =>
  spl (α := Int32) (f_4 0 48) fun (v_9 : Int32) =>
  spl (α := Int32) (f_4 0 50) fun (v_13 : Int32) =>
  spl (α := Int32) (x1 + v_13) fun (v_15 : Int32) =>
  ((v_15 : Int32), f_4)
set_option maxRecDepth 100000 in
noncomputable def sX12_setsAs_6_f0_f6 (x1 : Int32) (f : sg_F) (L : sg_L) : Int32 × sg_F :=
  spl (sX12_begins_70_f0 f L) fun (f_4 : sg_F) =>
  spl (α := Int32) (f_4 0 48) fun (v_9 : Int32) =>
  spl2 (sX12_setsAs_0_f1_f6 x1 f_4 L) fun (r_19 : Int32) (f_16 : sg_F) =>
  spl (α := Int32) (f_16 0 48) fun (v_22 : Int32) =>
  spl (α := Int32) (r_19 * 2) fun (v_27 : Int32) =>
  ((v_27 : Int32), f_16)
set_option maxRecDepth 100000 in
noncomputable def sX12_setsAs_0_f1_f7 (x1 : Int32) (f : sg_F) (L : sg_L) : Int32 × sg_F :=
  spl (sX12_begins_1_f1 f L) fun (f_4 : sg_F) =>
  spl (α := Int32) (f_4 0 48) fun (v_9 : Int32) =>
  spl (α := Int32) (f_4 0 50) fun (v_13 : Int32) =>
  spl (α := Int32) (x1 + v_13) fun (v_15 : Int32) =>
  ((v_15 : Int32), f_4)
set_option maxRecDepth 100000 in
noncomputable def sX12_setsAs_7_f0_f7_b16 (x1 : Int32) (fp_16 : sg_F) (L : sg_L) : Int32 × sg_F :=
  spl (α := Int32) (fp_16 0 48) fun (v_2 : Int32) =>
  spl (α := Int32) (fp_16 0 49) fun (v_5 : Int32) =>
  spl (sX12_begins_20_f0 fp_16 L) fun (f_12 : sg_F) =>
  spl (α := Int32) (f_12 0 48) fun (v_17 : Int32) =>
  spl2 (sX12_setsAs_0_f1_f7 x1 f_12 L) fun (r_27 : Int32) (f_24 : sg_F) =>
  spl (α := Int32) (f_24 0 48) fun (v_30 : Int32) =>
  spl (α := Int32) (r_27 + 3) fun (v_35 : Int32) =>
  ((v_35 : Int32), f_24)
set_option maxRecDepth 100000 in
noncomputable def sX12_setsAs_7_f0_f7 (x1 : Int32) (f : sg_F) (L : sg_L) : Int32 × sg_F :=
  sX12_setsAs_7_f0_f7_b16 x1 f L
set_option maxRecDepth 100000 in
noncomputable def sX12_begins_10_f0_b19 (fp_19 : sg_F) (L : sg_L) : sg_F :=
  spl (α := Int32) (fp_19 0 48) fun (v_2 : Int32) =>
  spl (α := Int32) (v_2 + 1) fun (v_5 : Int32) =>
  spl (α := sg_F) (sg_up fp_19 0 (sgu (fp_19 0) 48 v_5)) fun (f_7 : sg_F) =>
  (f_7)
set_option maxRecDepth 100000 in
noncomputable def sX12_begins_10_f0 (f : sg_F) (L : sg_L) : sg_F :=
  spl (α := sg_F) (sg_up f 21 (sgu (f 21) 0 10)) fun (f_10 : sg_F) =>
  sX12_begins_10_f0_b19 f_10 L
set_option maxRecDepth 100000 in
noncomputable def sX12_setsAs_0_f1_f0 (x1 : Int32) (f : sg_F) (L : sg_L) : Int32 × sg_F :=
  spl (sX12_begins_1_f1 f L) fun (f_4 : sg_F) =>
  spl (α := Int32) (f_4 0 48) fun (v_9 : Int32) =>
  spl (α := Int32) (f_4 0 50) fun (v_13 : Int32) =>
  spl (α := Int32) (x1 + v_13) fun (v_15 : Int32) =>
  ((v_15 : Int32), f_4)
set_option maxRecDepth 100000 in
noncomputable def sX12_sitsAs_0_f0_f0 (x1 : Int32) (f : sg_F) (L : sg_L) : Int32 × sg_F :=
  spl (sX12_begins_10_f0 f L) fun (f_4 : sg_F) =>
  spl (α := Int32) (f_4 0 48) fun (v_9 : Int32) =>
  spl2 (sX12_setsAs_0_f1_f0 x1 f_4 L) fun (r_19 : Int32) (f_16 : sg_F) =>
  spl (α := Int32) (f_16 0 48) fun (v_22 : Int32) =>
  spl (α := Int32) (r_19 * 2) fun (v_27 : Int32) =>
  ((v_27 : Int32), f_16)
set_option maxRecDepth 100000 in
noncomputable def sX12_begins_20_f1_b19 (fp_19 : sg_F) (L : sg_L) : sg_F :=
  spl (α := Int32) (fp_19 0 48) fun (v_2 : Int32) =>
  spl (α := Int32) (v_2 + 1) fun (v_5 : Int32) =>
  spl (α := sg_F) (sg_up fp_19 0 (sgu (fp_19 0) 48 v_5)) fun (f_7 : sg_F) =>
  (f_7)
set_option maxRecDepth 100000 in
noncomputable def sX12_begins_20_f1 (f : sg_F) (L : sg_L) : sg_F :=
  spl (α := sg_F) (sg_up f 21 (sgu (f 21) 1 20)) fun (f_10 : sg_F) =>
  sX12_begins_20_f1_b19 f_10 L
set_option maxRecDepth 100000 in
noncomputable def sX12_begins_1_f2_b19 (fp_19 : sg_F) (L : sg_L) : sg_F :=
  spl (α := Int32) (fp_19 0 48) fun (v_2 : Int32) =>
  spl (α := Int32) (v_2 + 1) fun (v_5 : Int32) =>
  spl (α := sg_F) (sg_up fp_19 0 (sgu (fp_19 0) 48 v_5)) fun (f_7 : sg_F) =>
  (f_7)
set_option maxRecDepth 100000 in
noncomputable def sX12_begins_1_f2 (f : sg_F) (L : sg_L) : sg_F :=
  spl (α := sg_F) (sg_up f 21 (sgu (f 21) 2 1)) fun (f_10 : sg_F) =>
  sX12_begins_1_f2_b19 f_10 L
set_option maxRecDepth 100000 in
noncomputable def sX12_setsAs_0_f2_f1 (x1 : Int32) (f : sg_F) (L : sg_L) : Int32 × sg_F :=
  spl (sX12_begins_1_f2 f L) fun (f_4 : sg_F) =>
  spl (α := Int32) (f_4 0 48) fun (v_9 : Int32) =>
  spl (α := Int32) (f_4 0 50) fun (v_13 : Int32) =>
  spl (α := Int32) (x1 + v_13) fun (v_15 : Int32) =>
  ((v_15 : Int32), f_4)
set_option maxRecDepth 100000 in
noncomputable def sX12_setsAs_1_f1_f1_b16 (x1 : Int32) (fp_16 : sg_F) (L : sg_L) : Int32 × sg_F :=
  spl (α := Int32) (fp_16 0 48) fun (v_2 : Int32) =>
  spl (α := Int32) (fp_16 0 49) fun (v_5 : Int32) =>
  spl (sX12_begins_20_f1 fp_16 L) fun (f_12 : sg_F) =>
  spl (α := Int32) (f_12 0 48) fun (v_17 : Int32) =>
  spl2 (sX12_setsAs_0_f2_f1 x1 f_12 L) fun (r_27 : Int32) (f_24 : sg_F) =>
  spl (α := Int32) (f_24 0 48) fun (v_30 : Int32) =>
  spl (α := Int32) (r_27 + 3) fun (v_35 : Int32) =>
  ((v_35 : Int32), f_24)
set_option maxRecDepth 100000 in
noncomputable def sX12_setsAs_1_f1_f1 (x1 : Int32) (f : sg_F) (L : sg_L) : Int32 × sg_F :=
  sX12_setsAs_1_f1_f1_b16 x1 f L
set_option maxRecDepth 100000 in
noncomputable def sX12_sitsAs_1_f0_f1 (x1 : Int32) (f : sg_F) (L : sg_L) : Int32 × sg_F :=
  spl (sX12_begins_10_f0 f L) fun (f_4 : sg_F) =>
  spl (α := Int32) (f_4 0 48) fun (v_9 : Int32) =>
  spl2 (sX12_setsAs_1_f1_f1 x1 f_4 L) fun (r_19 : Int32) (f_16 : sg_F) =>
  spl (α := Int32) (f_16 0 48) fun (v_22 : Int32) =>
  spl (α := Int32) (r_19 * 2) fun (v_27 : Int32) =>
  ((v_27 : Int32), f_16)
set_option maxRecDepth 100000 in
noncomputable def sX12_begins_30_f0_b19 (fp_19 : sg_F) (L : sg_L) : sg_F :=
  spl (α := Int32) (fp_19 0 48) fun (v_2 : Int32) =>
  spl (α := Int32) (v_2 + 1) fun (v_5 : Int32) =>
  spl (α := sg_F) (sg_up fp_19 0 (sgu (fp_19 0) 48 v_5)) fun (f_7 : sg_F) =>
  (f_7)
set_option maxRecDepth 100000 in
noncomputable def sX12_begins_30_f0 (f : sg_F) (L : sg_L) : sg_F :=
  spl (α := sg_F) (sg_up f 21 (sgu (f 21) 0 30)) fun (f_10 : sg_F) =>
  sX12_begins_30_f0_b19 f_10 L
set_option maxRecDepth 100000 in
noncomputable def sX12_begins_10_f1_b19 (fp_19 : sg_F) (L : sg_L) : sg_F :=
  spl (α := Int32) (fp_19 0 48) fun (v_2 : Int32) =>
  spl (α := Int32) (v_2 + 1) fun (v_5 : Int32) =>
  spl (α := sg_F) (sg_up fp_19 0 (sgu (fp_19 0) 48 v_5)) fun (f_7 : sg_F) =>
  (f_7)
set_option maxRecDepth 100000 in
noncomputable def sX12_begins_10_f1 (f : sg_F) (L : sg_L) : sg_F :=
  spl (α := sg_F) (sg_up f 21 (sgu (f 21) 1 10)) fun (f_10 : sg_F) =>
  sX12_begins_10_f1_b19 f_10 L
set_option maxRecDepth 100000 in
noncomputable def sX12_setsAs_2_f2_f2 (x1 : Int32) (f : sg_F) (L : sg_L) : Int32 × sg_F :=
  spl (sX12_begins_1_f2 f L) fun (f_4 : sg_F) =>
  spl (α := Int32) (f_4 0 48) fun (v_9 : Int32) =>
  spl (α := Int32) (f_4 0 50) fun (v_13 : Int32) =>
  spl (α := Int32) (x1 + v_13) fun (v_15 : Int32) =>
  ((v_15 : Int32), f_4)
set_option maxRecDepth 100000 in
noncomputable def sX12_sitsAs_0_f1_f2 (x1 : Int32) (f : sg_F) (L : sg_L) : Int32 × sg_F :=
  spl (sX12_begins_10_f1 f L) fun (f_4 : sg_F) =>
  spl (α := Int32) (f_4 0 48) fun (v_9 : Int32) =>
  spl2 (sX12_setsAs_2_f2_f2 x1 f_4 L) fun (r_19 : Int32) (f_16 : sg_F) =>
  spl (α := Int32) (f_16 0 48) fun (v_22 : Int32) =>
  spl (α := Int32) (r_19 * 2) fun (v_27 : Int32) =>
  ((v_27 : Int32), f_16)
set_option maxRecDepth 100000 in
noncomputable def sX12_sitsAs_2_f0_f2 (x1 : Int32) (f : sg_F) (L : sg_L) : Int32 × sg_F :=
  spl (sX12_begins_30_f0 f L) fun (f_4 : sg_F) =>
  spl (α := Int32) (f_4 0 48) fun (v_9 : Int32) =>
  spl2 (sX12_sitsAs_0_f1_f2 x1 f_4 L) fun (r_19 : Int32) (f_16 : sg_F) =>
  spl (α := Int32) (f_16 0 48) fun (v_22 : Int32) =>
  spl (α := Int32) ((-r_19)) fun (v_27 : Int32) =>
  ((v_27 : Int32), f_16)
set_option maxRecDepth 100000 in
noncomputable def sX12_begins_41_f0_b19 (fp_19 : sg_F) (L : sg_L) : sg_F :=
  spl (α := Int32) (fp_19 0 48) fun (v_2 : Int32) =>
  spl (α := Int32) (v_2 + 1) fun (v_5 : Int32) =>
  spl (α := sg_F) (sg_up fp_19 0 (sgu (fp_19 0) 48 v_5)) fun (f_7 : sg_F) =>
  (f_7)
set_option maxRecDepth 100000 in
noncomputable def sX12_begins_41_f0 (f : sg_F) (L : sg_L) : sg_F :=
  spl (α := sg_F) (sg_up f 21 (sgu (f 21) 0 41)) fun (f_10 : sg_F) =>
  sX12_begins_41_f0_b19 f_10 L
set_option maxRecDepth 100000 in
noncomputable def sX12_begins_30_f1_b19 (fp_19 : sg_F) (L : sg_L) : sg_F :=
  spl (α := Int32) (fp_19 0 48) fun (v_2 : Int32) =>
  spl (α := Int32) (v_2 + 1) fun (v_5 : Int32) =>
  spl (α := sg_F) (sg_up fp_19 0 (sgu (fp_19 0) 48 v_5)) fun (f_7 : sg_F) =>
  (f_7)
set_option maxRecDepth 100000 in
noncomputable def sX12_begins_30_f1 (f : sg_F) (L : sg_L) : sg_F :=
  spl (α := sg_F) (sg_up f 21 (sgu (f 21) 1 30)) fun (f_10 : sg_F) =>
  sX12_begins_30_f1_b19 f_10 L
set_option maxRecDepth 100000 in
noncomputable def sX12_begins_10_f2_b19 (fp_19 : sg_F) (L : sg_L) : sg_F :=
  spl (α := Int32) (fp_19 0 48) fun (v_2 : Int32) =>
  spl (α := Int32) (v_2 + 1) fun (v_5 : Int32) =>
  spl (α := sg_F) (sg_up fp_19 0 (sgu (fp_19 0) 48 v_5)) fun (f_7 : sg_F) =>
  (f_7)
set_option maxRecDepth 100000 in
noncomputable def sX12_begins_10_f2 (f : sg_F) (L : sg_L) : sg_F :=
  spl (α := sg_F) (sg_up f 21 (sgu (f 21) 2 10)) fun (f_10 : sg_F) =>
  sX12_begins_10_f2_b19 f_10 L
set_option maxRecDepth 100000 in
noncomputable def sX12_begins_1_f3_b19 (fp_19 : sg_F) (L : sg_L) : sg_F :=
  spl (α := Int32) (fp_19 0 48) fun (v_2 : Int32) =>
  spl (α := Int32) (v_2 + 1) fun (v_5 : Int32) =>
  spl (α := sg_F) (sg_up fp_19 0 (sgu (fp_19 0) 48 v_5)) fun (f_7 : sg_F) =>
  (f_7)
set_option maxRecDepth 100000 in
noncomputable def sX12_begins_1_f3 (f : sg_F) (L : sg_L) : sg_F :=
  spl (α := sg_F) (sg_up f 21 (sgu (f 21) 3 1)) fun (f_10 : sg_F) =>
  sX12_begins_1_f3_b19 f_10 L
set_option maxRecDepth 100000 in
noncomputable def sX12_setsAs_3_f3_f3 (x1 : Int32) (f : sg_F) (L : sg_L) : Int32 × sg_F :=
  spl (sX12_begins_1_f3 f L) fun (f_4 : sg_F) =>
  spl (α := Int32) (f_4 0 48) fun (v_9 : Int32) =>
  spl (α := Int32) (f_4 0 50) fun (v_13 : Int32) =>
  spl (α := Int32) (x1 + v_13) fun (v_15 : Int32) =>
  ((v_15 : Int32), f_4)
set_option maxRecDepth 100000 in
noncomputable def sX12_sitsAs_0_f2_f3 (x1 : Int32) (f : sg_F) (L : sg_L) : Int32 × sg_F :=
  spl (sX12_begins_10_f2 f L) fun (f_4 : sg_F) =>
  spl (α := Int32) (f_4 0 48) fun (v_9 : Int32) =>
  spl2 (sX12_setsAs_3_f3_f3 x1 f_4 L) fun (r_19 : Int32) (f_16 : sg_F) =>
  spl (α := Int32) (f_16 0 48) fun (v_22 : Int32) =>
  spl (α := Int32) (r_19 * 2) fun (v_27 : Int32) =>
  ((v_27 : Int32), f_16)
set_option maxRecDepth 100000 in
noncomputable def sX12_sitsAs_2_f1_f3 (x1 : Int32) (f : sg_F) (L : sg_L) : Int32 × sg_F :=
  spl (sX12_begins_30_f1 f L) fun (f_4 : sg_F) =>
  spl (α := Int32) (f_4 0 48) fun (v_9 : Int32) =>
  spl2 (sX12_sitsAs_0_f2_f3 x1 f_4 L) fun (r_19 : Int32) (f_16 : sg_F) =>
  spl (α := Int32) (f_16 0 48) fun (v_22 : Int32) =>
  spl (α := Int32) ((-r_19)) fun (v_27 : Int32) =>
  ((v_27 : Int32), f_16)
set_option maxRecDepth 100000 in
noncomputable def sX12_sitsAs_3_f0_f3_b10 (x1 : Int32) (fp_10 : sg_F) (L : sg_L) : Int32 × sg_F :=
  spl (α := Int32) (fp_10 0 48) fun (v_2 : Int32) =>
  spl (α := Int32) (fp_10 0 49) fun (v_5 : Int32) =>
  spl (sX12_begins_41_f0 fp_10 L) fun (f_12 : sg_F) =>
  spl (α := Int32) (f_12 0 48) fun (v_17 : Int32) =>
  spl (α := Int32) (x1 + 1) fun (v_21 : Int32) =>
  spl2 (sX12_sitsAs_2_f1_f3 v_21 f_12 L) fun (r_28 : Int32) (f_25 : sg_F) =>
  spl (α := Int32) (f_25 0 48) fun (v_31 : Int32) =>
  ((r_28 : Int32), f_25)
set_option maxRecDepth 100000 in
noncomputable def sX12_sitsAs_3_f0_f3 (x1 : Int32) (f : sg_F) (L : sg_L) : Int32 × sg_F :=
  sX12_sitsAs_3_f0_f3_b10 x1 f L
set_option maxRecDepth 100000 in
noncomputable def sX12_setsAs_0_f2_f4 (x1 : Int32) (f : sg_F) (L : sg_L) : Int32 × sg_F :=
  spl (sX12_begins_1_f2 f L) fun (f_4 : sg_F) =>
  spl (α := Int32) (f_4 0 48) fun (v_9 : Int32) =>
  spl (α := Int32) (f_4 0 50) fun (v_13 : Int32) =>
  spl (α := Int32) (x1 + v_13) fun (v_15 : Int32) =>
  ((v_15 : Int32), f_4)
set_option maxRecDepth 100000 in
noncomputable def sX12_setsAs_4_f1_f4_b16 (x1 : Int32) (fp_16 : sg_F) (L : sg_L) : Int32 × sg_F :=
  spl (α := Int32) (fp_16 0 48) fun (v_2 : Int32) =>
  spl (α := Int32) (fp_16 0 49) fun (v_5 : Int32) =>
  spl (sX12_begins_20_f1 fp_16 L) fun (f_12 : sg_F) =>
  spl (α := Int32) (f_12 0 48) fun (v_17 : Int32) =>
  spl2 (sX12_setsAs_0_f2_f4 x1 f_12 L) fun (r_27 : Int32) (f_24 : sg_F) =>
  spl (α := Int32) (f_24 0 48) fun (v_30 : Int32) =>
  spl (α := Int32) (r_27 + 3) fun (v_35 : Int32) =>
  ((v_35 : Int32), f_24)
set_option maxRecDepth 100000 in
noncomputable def sX12_setsAs_4_f1_f4 (x1 : Int32) (f : sg_F) (L : sg_L) : Int32 × sg_F :=
  sX12_setsAs_4_f1_f4_b16 x1 f L
set_option maxRecDepth 100000 in
noncomputable def sX12_sitsAs_4_f0_f4 (x1 : Int32) (f : sg_F) (L : sg_L) : Int32 × sg_F :=
  spl (sX12_begins_10_f0 f L) fun (f_4 : sg_F) =>
  spl (α := Int32) (f_4 0 48) fun (v_9 : Int32) =>
  spl2 (sX12_setsAs_4_f1_f4 x1 f_4 L) fun (r_19 : Int32) (f_16 : sg_F) =>
  spl (α := Int32) (f_16 0 48) fun (v_22 : Int32) =>
  spl (α := Int32) (r_19 * 2) fun (v_27 : Int32) =>
  ((v_27 : Int32), f_16)
set_option maxRecDepth 100000 in
noncomputable def sX12_setsAs_5_f3_f5 (x1 : Int32) (f : sg_F) (L : sg_L) : Int32 × sg_F :=
  spl (sX12_begins_1_f3 f L) fun (f_4 : sg_F) =>
  spl (α := Int32) (f_4 0 48) fun (v_9 : Int32) =>
  spl (α := Int32) (f_4 0 50) fun (v_13 : Int32) =>
  spl (α := Int32) (x1 + v_13) fun (v_15 : Int32) =>
  ((v_15 : Int32), f_4)
set_option maxRecDepth 100000 in
noncomputable def sX12_sitsAs_0_f2_f5 (x1 : Int32) (f : sg_F) (L : sg_L) : Int32 × sg_F :=
  spl (sX12_begins_10_f2 f L) fun (f_4 : sg_F) =>
  spl (α := Int32) (f_4 0 48) fun (v_9 : Int32) =>
  spl2 (sX12_setsAs_5_f3_f5 x1 f_4 L) fun (r_19 : Int32) (f_16 : sg_F) =>
  spl (α := Int32) (f_16 0 48) fun (v_22 : Int32) =>
  spl (α := Int32) (r_19 * 2) fun (v_27 : Int32) =>
  ((v_27 : Int32), f_16)
set_option maxRecDepth 100000 in
noncomputable def sX12_sitsAs_2_f1_f5 (x1 : Int32) (f : sg_F) (L : sg_L) : Int32 × sg_F :=
  spl (sX12_begins_30_f1 f L) fun (f_4 : sg_F) =>
  spl (α := Int32) (f_4 0 48) fun (v_9 : Int32) =>
  spl2 (sX12_sitsAs_0_f2_f5 x1 f_4 L) fun (r_19 : Int32) (f_16 : sg_F) =>
  spl (α := Int32) (f_16 0 48) fun (v_22 : Int32) =>
  spl (α := Int32) ((-r_19)) fun (v_27 : Int32) =>
  ((v_27 : Int32), f_16)
set_option maxRecDepth 100000 in
noncomputable def sX12_sitsAs_5_f0_f5_b10 (x1 : Int32) (fp_10 : sg_F) (L : sg_L) : Int32 × sg_F :=
  spl (α := Int32) (fp_10 0 48) fun (v_2 : Int32) =>
  spl (α := Int32) (fp_10 0 49) fun (v_5 : Int32) =>
  spl (sX12_begins_41_f0 fp_10 L) fun (f_12 : sg_F) =>
  spl (α := Int32) (f_12 0 48) fun (v_17 : Int32) =>
  spl (α := Int32) (x1 + 1) fun (v_21 : Int32) =>
  spl2 (sX12_sitsAs_2_f1_f5 v_21 f_12 L) fun (r_28 : Int32) (f_25 : sg_F) =>
  spl (α := Int32) (f_25 0 48) fun (v_31 : Int32) =>
  ((r_28 : Int32), f_25)
set_option maxRecDepth 100000 in
noncomputable def sX12_sitsAs_5_f0_f5 (x1 : Int32) (f : sg_F) (L : sg_L) : Int32 × sg_F :=
  sX12_sitsAs_5_f0_f5_b10 x1 f L
set_option maxRecDepth 100000 in
noncomputable def sX12_begins_70_f1_b19 (fp_19 : sg_F) (L : sg_L) : sg_F :=
  spl (α := Int32) (fp_19 0 48) fun (v_2 : Int32) =>
  spl (α := Int32) (v_2 + 1) fun (v_5 : Int32) =>
  spl (α := sg_F) (sg_up fp_19 0 (sgu (fp_19 0) 48 v_5)) fun (f_7 : sg_F) =>
  (f_7)
set_option maxRecDepth 100000 in
noncomputable def sX12_begins_70_f1 (f : sg_F) (L : sg_L) : sg_F :=
  spl (α := sg_F) (sg_up f 21 (sgu (f 21) 1 70)) fun (f_10 : sg_F) =>
  sX12_begins_70_f1_b19 f_10 L
set_option maxRecDepth 100000 in
noncomputable def sX12_setsAs_0_f2_f6 (x1 : Int32) (f : sg_F) (L : sg_L) : Int32 × sg_F :=
  spl (sX12_begins_1_f2 f L) fun (f_4 : sg_F) =>
  spl (α := Int32) (f_4 0 48) fun (v_9 : Int32) =>
  spl (α := Int32) (f_4 0 50) fun (v_13 : Int32) =>
  spl (α := Int32) (x1 + v_13) fun (v_15 : Int32) =>
  ((v_15 : Int32), f_4)
set_option maxRecDepth 100000 in
noncomputable def sX12_setsAs_6_f1_f6 (x1 : Int32) (f : sg_F) (L : sg_L) : Int32 × sg_F :=
  spl (sX12_begins_70_f1 f L) fun (f_4 : sg_F) =>
  spl (α := Int32) (f_4 0 48) fun (v_9 : Int32) =>
  spl2 (sX12_setsAs_0_f2_f6 x1 f_4 L) fun (r_19 : Int32) (f_16 : sg_F) =>
  spl (α := Int32) (f_16 0 48) fun (v_22 : Int32) =>
  spl (α := Int32) (r_19 * 2) fun (v_27 : Int32) =>
  ((v_27 : Int32), f_16)
set_option maxRecDepth 100000 in
noncomputable def sX12_sitsAs_6_f0_f6 (x1 : Int32) (f : sg_F) (L : sg_L) : Int32 × sg_F :=
  spl (sX12_begins_10_f0 f L) fun (f_4 : sg_F) =>
  spl (α := Int32) (f_4 0 48) fun (v_9 : Int32) =>
  spl2 (sX12_setsAs_6_f1_f6 x1 f_4 L) fun (r_19 : Int32) (f_16 : sg_F) =>
  spl (α := Int32) (f_16 0 48) fun (v_22 : Int32) =>
  spl (α := Int32) (r_19 * 2) fun (v_27 : Int32) =>
  ((v_27 : Int32), f_16)
set_option maxRecDepth 100000 in
noncomputable def sX12_begins_80_f0_b19 (fp_19 : sg_F) (L : sg_L) : sg_F :=
  spl (α := Int32) (fp_19 0 48) fun (v_2 : Int32) =>
  spl (α := Int32) (v_2 + 1) fun (v_5 : Int32) =>
  spl (α := sg_F) (sg_up fp_19 0 (sgu (fp_19 0) 48 v_5)) fun (f_7 : sg_F) =>
  (f_7)
set_option maxRecDepth 100000 in
noncomputable def sX12_begins_80_f0 (f : sg_F) (L : sg_L) : sg_F :=
  spl (α := sg_F) (sg_up f 21 (sgu (f 21) 0 80)) fun (f_10 : sg_F) =>
  sX12_begins_80_f0_b19 f_10 L
set_option maxRecDepth 100000 in
noncomputable def sX12_begins_20_f2_b19 (fp_19 : sg_F) (L : sg_L) : sg_F :=
  spl (α := Int32) (fp_19 0 48) fun (v_2 : Int32) =>
  spl (α := Int32) (v_2 + 1) fun (v_5 : Int32) =>
  spl (α := sg_F) (sg_up fp_19 0 (sgu (fp_19 0) 48 v_5)) fun (f_7 : sg_F) =>
  (f_7)
set_option maxRecDepth 100000 in
noncomputable def sX12_begins_20_f2 (f : sg_F) (L : sg_L) : sg_F :=
  spl (α := sg_F) (sg_up f 21 (sgu (f 21) 2 20)) fun (f_10 : sg_F) =>
  sX12_begins_20_f2_b19 f_10 L
set_option maxRecDepth 100000 in
noncomputable def sX12_setsAs_0_f3_f7 (x1 : Int32) (f : sg_F) (L : sg_L) : Int32 × sg_F :=
  spl (sX12_begins_1_f3 f L) fun (f_4 : sg_F) =>
  spl (α := Int32) (f_4 0 48) fun (v_9 : Int32) =>
  spl (α := Int32) (f_4 0 50) fun (v_13 : Int32) =>
  spl (α := Int32) (x1 + v_13) fun (v_15 : Int32) =>
  ((v_15 : Int32), f_4)
set_option maxRecDepth 100000 in
noncomputable def sX12_setsAs_7_f2_f7_b16 (x1 : Int32) (fp_16 : sg_F) (L : sg_L) : Int32 × sg_F :=
  spl (α := Int32) (fp_16 0 48) fun (v_2 : Int32) =>
  spl (α := Int32) (fp_16 0 49) fun (v_5 : Int32) =>
  spl (sX12_begins_20_f2 fp_16 L) fun (f_12 : sg_F) =>
  spl (α := Int32) (f_12 0 48) fun (v_17 : Int32) =>
  spl2 (sX12_setsAs_0_f3_f7 x1 f_12 L) fun (r_27 : Int32) (f_24 : sg_F) =>
  spl (α := Int32) (f_24 0 48) fun (v_30 : Int32) =>
  spl (α := Int32) (r_27 + 3) fun (v_35 : Int32) =>
  ((v_35 : Int32), f_24)
set_option maxRecDepth 100000 in
noncomputable def sX12_setsAs_7_f2_f7 (x1 : Int32) (f : sg_F) (L : sg_L) : Int32 × sg_F :=
  sX12_setsAs_7_f2_f7_b16 x1 f L
set_option maxRecDepth 100000 in
noncomputable def sX12_sitsAs_4_f1_f7 (x1 : Int32) (f : sg_F) (L : sg_L) : Int32 × sg_F :=
  spl (sX12_begins_10_f1 f L) fun (f_4 : sg_F) =>
  spl (α := Int32) (f_4 0 48) fun (v_9 : Int32) =>
  spl2 (sX12_setsAs_7_f2_f7 x1 f_4 L) fun (r_19 : Int32) (f_16 : sg_F) =>
  spl (α := Int32) (f_16 0 48) fun (v_22 : Int32) =>
  spl (α := Int32) (r_19 * 2) fun (v_27 : Int32) =>
  ((v_27 : Int32), f_16)
set_option maxRecDepth 100000 in
noncomputable def sX12_begins_50_f4_b19 (fp_19 : sg_F) (L : sg_L) : sg_F :=
  spl (α := Int32) (fp_19 0 48) fun (v_2 : Int32) =>
  spl (α := Int32) (v_2 + 1) fun (v_5 : Int32) =>
  spl (α := sg_F) (sg_up fp_19 0 (sgu (fp_19 0) 48 v_5)) fun (f_7 : sg_F) =>
  (f_7)
set_option maxRecDepth 100000 in
noncomputable def sX12_begins_50_f4 (f : sg_F) (L : sg_L) : sg_F :=
  spl (α := sg_F) (sg_up f 21 (sgu (f 21) 4 50)) fun (f_10 : sg_F) =>
  sX12_begins_50_f4_b19 f_10 L
set_option maxRecDepth 100000 in
noncomputable def sX12_begins_11_f5_b19 (fp_19 : sg_F) (L : sg_L) : sg_F :=
  spl (α := Int32) (fp_19 0 48) fun (v_2 : Int32) =>
  spl (α := Int32) (v_2 + 1) fun (v_5 : Int32) =>
  spl (α := sg_F) (sg_up fp_19 0 (sgu (fp_19 0) 48 v_5)) fun (f_7 : sg_F) =>
  (f_7)
set_option maxRecDepth 100000 in
noncomputable def sX12_begins_11_f5 (f : sg_F) (L : sg_L) : sg_F :=
  spl (α := sg_F) (sg_up f 21 (sgu (f 21) 5 11)) fun (f_10 : sg_F) =>
  sX12_begins_11_f5_b19 f_10 L
set_option maxRecDepth 100000 in
noncomputable def sX12_slipsAs_1_f5_f7 (x1 : Int32) (f : sg_F) (L : sg_L) : Int32 × sg_F :=
  spl (sX12_begins_11_f5 f L) fun (f_4 : sg_F) =>
  spl (α := Int32) (f_4 0 48) fun (v_9 : Int32) =>
  spl (α := Int32) (f_4 0 50) fun (v_13 : Int32) =>
  spl (α := Int32) (x1 ^^^ v_13) fun (v_15 : Int32) =>
  ((v_15 : Int32), f_4)
set_option maxRecDepth 100000 in
noncomputable def sX12_begins_20_f6_b19 (fp_19 : sg_F) (L : sg_L) : sg_F :=
  spl (α := Int32) (fp_19 0 48) fun (v_2 : Int32) =>
  spl (α := Int32) (v_2 + 1) fun (v_5 : Int32) =>
  spl (α := sg_F) (sg_up fp_19 0 (sgu (fp_19 0) 48 v_5)) fun (f_7 : sg_F) =>
  (f_7)
set_option maxRecDepth 100000 in
noncomputable def sX12_begins_20_f6 (f : sg_F) (L : sg_L) : sg_F :=
  spl (α := sg_F) (sg_up f 21 (sgu (f 21) 6 20)) fun (f_10 : sg_F) =>
  sX12_begins_20_f6_b19 f_10 L
set_option maxRecDepth 100000 in
noncomputable def sX12_begins_1_f7_b19 (fp_19 : sg_F) (L : sg_L) : sg_F :=
  spl (α := Int32) (fp_19 0 48) fun (v_2 : Int32) =>
  spl (α := Int32) (v_2 + 1) fun (v_5 : Int32) =>
  spl (α := sg_F) (sg_up fp_19 0 (sgu (fp_19 0) 48 v_5)) fun (f_7 : sg_F) =>
  (f_7)
set_option maxRecDepth 100000 in
noncomputable def sX12_begins_1_f7 (f : sg_F) (L : sg_L) : sg_F :=
  spl (α := sg_F) (sg_up f 21 (sgu (f 21) 7 1)) fun (f_10 : sg_F) =>
  sX12_begins_1_f7_b19 f_10 L
set_option maxRecDepth 100000 in
noncomputable def sX12_setsAs_0_f7_f7 (x1 : Int32) (f : sg_F) (L : sg_L) : Int32 × sg_F :=
  spl (sX12_begins_1_f7 f L) fun (f_4 : sg_F) =>
  spl (α := Int32) (f_4 0 48) fun (v_9 : Int32) =>
  spl (α := Int32) (f_4 0 50) fun (v_13 : Int32) =>
  spl (α := Int32) (x1 + v_13) fun (v_15 : Int32) =>
  ((v_15 : Int32), f_4)
set_option maxRecDepth 100000 in
noncomputable def sX12_setsAs_7_f6_f7_b16 (x1 : Int32) (fp_16 : sg_F) (L : sg_L) : Int32 × sg_F :=
  spl (α := Int32) (fp_16 0 48) fun (v_2 : Int32) =>
  spl (α := Int32) (fp_16 0 49) fun (v_5 : Int32) =>
  spl (sX12_begins_20_f6 fp_16 L) fun (f_12 : sg_F) =>
  spl (α := Int32) (f_12 0 48) fun (v_17 : Int32) =>
  spl2 (sX12_setsAs_0_f7_f7 x1 f_12 L) fun (r_27 : Int32) (f_24 : sg_F) =>
  spl (α := Int32) (f_24 0 48) fun (v_30 : Int32) =>
  spl (α := Int32) (r_27 + 3) fun (v_35 : Int32) =>
  ((v_35 : Int32), f_24)
set_option maxRecDepth 100000 in
noncomputable def sX12_setsAs_7_f6_f7 (x1 : Int32) (f : sg_F) (L : sg_L) : Int32 × sg_F :=
  sX12_setsAs_7_f6_f7_b16 x1 f L
set_option maxRecDepth 100000 in
noncomputable def sX12_slipsAs_7_f4_f7_b36 (x1 : Int32) (fp_36 : sg_F) (L : sg_L) : Int32 × sg_F :=
  spl (α := Int32) (fp_36 0 48) fun (v_2 : Int32) =>
  spl (α := Int32) (fp_36 0 49) fun (v_5 : Int32) =>
  spl (sX12_begins_50_f4 fp_36 L) fun (f_12 : sg_F) =>
  spl (α := Int32) (f_12 0 48) fun (v_17 : Int32) =>
  spl2 (sX12_slipsAs_1_f5_f7 x1 f_12 L) fun (r_27 : Int32) (f_24 : sg_F) =>
  spl (α := Int32) (f_24 0 48) fun (v_30 : Int32) =>
  spl2 (sX12_setsAs_7_f6_f7 2 f_24 L) fun (r_41 : Int32) (f_38 : sg_F) =>
  spl (α := Int32) (f_38 0 48) fun (v_44 : Int32) =>
  spl (α := Int32) (r_27 - r_41) fun (v_50 : Int32) =>
  ((v_50 : Int32), f_38)
set_option maxRecDepth 100000 in
noncomputable def sX12_slipsAs_7_f4_f7 (x1 : Int32) (f : sg_F) (L : sg_L) : Int32 × sg_F :=
  sX12_slipsAs_7_f4_f7_b36 x1 f L
set_option maxRecDepth 100000 in
noncomputable def sX12_sitsAs_7_f0_f7 (x1 : Int32) (f : sg_F) (L : sg_L) : Int32 × sg_F :=
  spl (sX12_begins_80_f0 f L) fun (f_4 : sg_F) =>
  spl (α := Int32) (f_4 0 48) fun (v_9 : Int32) =>
  spl2 (sX12_sitsAs_4_f1_f7 x1 f_4 L) fun (r_19 : Int32) (f_16 : sg_F) =>
  spl (α := Int32) (f_16 0 48) fun (v_22 : Int32) =>
  spl2 (sX12_slipsAs_7_f4_f7 2 f_16 L) fun (r_33 : Int32) (f_30 : sg_F) =>
  spl (α := Int32) (f_30 0 48) fun (v_36 : Int32) =>
  spl (α := Int32) (r_19 + r_33) fun (v_42 : Int32) =>
  ((v_42 : Int32), f_30)
set_option maxRecDepth 100000 in
noncomputable def sX12_begins_11_f0_b19 (fp_19 : sg_F) (L : sg_L) : sg_F :=
  spl (α := Int32) (fp_19 0 48) fun (v_2 : Int32) =>
  spl (α := Int32) (v_2 + 1) fun (v_5 : Int32) =>
  spl (α := sg_F) (sg_up fp_19 0 (sgu (fp_19 0) 48 v_5)) fun (f_7 : sg_F) =>
  (f_7)
set_option maxRecDepth 100000 in
noncomputable def sX12_begins_11_f0 (f : sg_F) (L : sg_L) : sg_F :=
  spl (α := sg_F) (sg_up f 21 (sgu (f 21) 0 11)) fun (f_10 : sg_F) =>
  sX12_begins_11_f0_b19 f_10 L
set_option maxRecDepth 100000 in
noncomputable def sX12_slipsAs_0_f0_f0 (x1 : Int32) (f : sg_F) (L : sg_L) : Int32 × sg_F :=
  spl (sX12_begins_11_f0 f L) fun (f_4 : sg_F) =>
  spl (α := Int32) (f_4 0 48) fun (v_9 : Int32) =>
  spl (α := Int32) (f_4 0 50) fun (v_13 : Int32) =>
  spl (α := Int32) (x1 ^^^ v_13) fun (v_15 : Int32) =>
  ((v_15 : Int32), f_4)
set_option maxRecDepth 100000 in
noncomputable def sX12_slipsAs_1_f0_f1 (x1 : Int32) (f : sg_F) (L : sg_L) : Int32 × sg_F :=
  spl (sX12_begins_11_f0 f L) fun (f_4 : sg_F) =>
  spl (α := Int32) (f_4 0 48) fun (v_9 : Int32) =>
  spl (α := Int32) (f_4 0 50) fun (v_13 : Int32) =>
  spl (α := Int32) (x1 ^^^ v_13) fun (v_15 : Int32) =>
  ((v_15 : Int32), f_4)
set_option maxRecDepth 100000 in
noncomputable def sX12_slipsAs_2_f0_f2 (x1 : Int32) (f : sg_F) (L : sg_L) : Int32 × sg_F :=
  spl (sX12_begins_11_f0 f L) fun (f_4 : sg_F) =>
  spl (α := Int32) (f_4 0 48) fun (v_9 : Int32) =>
  spl (α := Int32) (f_4 0 50) fun (v_13 : Int32) =>
  spl (α := Int32) (x1 ^^^ v_13) fun (v_15 : Int32) =>
  ((v_15 : Int32), f_4)
set_option maxRecDepth 100000 in
noncomputable def sX12_begins_40_f0_b19 (fp_19 : sg_F) (L : sg_L) : sg_F :=
  spl (α := Int32) (fp_19 0 48) fun (v_2 : Int32) =>
  spl (α := Int32) (v_2 + 1) fun (v_5 : Int32) =>
  spl (α := sg_F) (sg_up fp_19 0 (sgu (fp_19 0) 48 v_5)) fun (f_7 : sg_F) =>
  (f_7)
set_option maxRecDepth 100000 in
noncomputable def sX12_begins_40_f0 (f : sg_F) (L : sg_L) : sg_F :=
  spl (α := sg_F) (sg_up f 21 (sgu (f 21) 0 40)) fun (f_10 : sg_F) =>
  sX12_begins_40_f0_b19 f_10 L
set_option maxRecDepth 100000 in
noncomputable def sX12_begins_11_f1_b19 (fp_19 : sg_F) (L : sg_L) : sg_F :=
  spl (α := Int32) (fp_19 0 48) fun (v_2 : Int32) =>
  spl (α := Int32) (v_2 + 1) fun (v_5 : Int32) =>
  spl (α := sg_F) (sg_up fp_19 0 (sgu (fp_19 0) 48 v_5)) fun (f_7 : sg_F) =>
  (f_7)
set_option maxRecDepth 100000 in
noncomputable def sX12_begins_11_f1 (f : sg_F) (L : sg_L) : sg_F :=
  spl (α := sg_F) (sg_up f 21 (sgu (f 21) 1 11)) fun (f_10 : sg_F) =>
  sX12_begins_11_f1_b19 f_10 L
set_option maxRecDepth 100000 in
noncomputable def sX12_slipsAs_2_f1_f3 (x1 : Int32) (f : sg_F) (L : sg_L) : Int32 × sg_F :=
  spl (sX12_begins_11_f1 f L) fun (f_4 : sg_F) =>
  spl (α := Int32) (f_4 0 48) fun (v_9 : Int32) =>
  spl (α := Int32) (f_4 0 50) fun (v_13 : Int32) =>
  spl (α := Int32) (x1 ^^^ v_13) fun (v_15 : Int32) =>
  ((v_15 : Int32), f_4)
set_option maxRecDepth 100000 in
noncomputable def sX12_slipsAs_3_f0_f3_b10 (x1 : Int32) (fp_10 : sg_F) (L : sg_L) : Int32 × sg_F :=
  spl (α := Int32) (fp_10 0 48) fun (v_2 : Int32) =>
  spl (α := Int32) (fp_10 0 49) fun (v_5 : Int32) =>
  spl (sX12_begins_40_f0 fp_10 L) fun (f_12 : sg_F) =>
  spl (α := Int32) (f_12 0 48) fun (v_17 : Int32) =>
  spl2 (sX12_slipsAs_2_f1_f3 x1 f_12 L) fun (r_27 : Int32) (f_24 : sg_F) =>
  spl (α := Int32) (f_24 0 48) fun (v_30 : Int32) =>
  spl (α := Int32) (r_27 * 3) fun (v_35 : Int32) =>
  ((v_35 : Int32), f_24)
set_option maxRecDepth 100000 in
noncomputable def sX12_slipsAs_3_f0_f3 (x1 : Int32) (f : sg_F) (L : sg_L) : Int32 × sg_F :=
  sX12_slipsAs_3_f0_f3_b10 x1 f L
set_option maxRecDepth 100000 in
noncomputable def sX12_begins_50_f0_b19 (fp_19 : sg_F) (L : sg_L) : sg_F :=
  spl (α := Int32) (fp_19 0 48) fun (v_2 : Int32) =>
  spl (α := Int32) (v_2 + 1) fun (v_5 : Int32) =>
  spl (α := sg_F) (sg_up fp_19 0 (sgu (fp_19 0) 48 v_5)) fun (f_7 : sg_F) =>
  (f_7)
set_option maxRecDepth 100000 in
noncomputable def sX12_begins_50_f0 (f : sg_F) (L : sg_L) : sg_F :=
  spl (α := sg_F) (sg_up f 21 (sgu (f 21) 0 50)) fun (f_10 : sg_F) =>
  sX12_begins_50_f0_b19 f_10 L
set_option maxRecDepth 100000 in
noncomputable def sX12_slipsAs_1_f1_f4 (x1 : Int32) (f : sg_F) (L : sg_L) : Int32 × sg_F :=
  spl (sX12_begins_11_f1 f L) fun (f_4 : sg_F) =>
  spl (α := Int32) (f_4 0 48) fun (v_9 : Int32) =>
  spl (α := Int32) (f_4 0 50) fun (v_13 : Int32) =>
  spl (α := Int32) (x1 ^^^ v_13) fun (v_15 : Int32) =>
  ((v_15 : Int32), f_4)
set_option maxRecDepth 100000 in
noncomputable def sX12_setsAs_0_f3_f4 (x1 : Int32) (f : sg_F) (L : sg_L) : Int32 × sg_F :=
  spl (sX12_begins_1_f3 f L) fun (f_4 : sg_F) =>
  spl (α := Int32) (f_4 0 48) fun (v_9 : Int32) =>
  spl (α := Int32) (f_4 0 50) fun (v_13 : Int32) =>
  spl (α := Int32) (x1 + v_13) fun (v_15 : Int32) =>
  ((v_15 : Int32), f_4)
set_option maxRecDepth 100000 in
noncomputable def sX12_setsAs_4_f2_f4_b16 (x1 : Int32) (fp_16 : sg_F) (L : sg_L) : Int32 × sg_F :=
  spl (α := Int32) (fp_16 0 48) fun (v_2 : Int32) =>
  spl (α := Int32) (fp_16 0 49) fun (v_5 : Int32) =>
  spl (sX12_begins_20_f2 fp_16 L) fun (f_12 : sg_F) =>
  spl (α := Int32) (f_12 0 48) fun (v_17 : Int32) =>
  spl2 (sX12_setsAs_0_f3_f4 x1 f_12 L) fun (r_27 : Int32) (f_24 : sg_F) =>
  spl (α := Int32) (f_24 0 48) fun (v_30 : Int32) =>
  spl (α := Int32) (r_27 + 3) fun (v_35 : Int32) =>
  ((v_35 : Int32), f_24)
set_option maxRecDepth 100000 in
noncomputable def sX12_setsAs_4_f2_f4 (x1 : Int32) (f : sg_F) (L : sg_L) : Int32 × sg_F :=
  sX12_setsAs_4_f2_f4_b16 x1 f L
set_option maxRecDepth 100000 in
noncomputable def sX12_slipsAs_4_f0_f4_b36 (x1 : Int32) (fp_36 : sg_F) (L : sg_L) : Int32 × sg_F :=
  spl (α := Int32) (fp_36 0 48) fun (v_2 : Int32) =>
  spl (α := Int32) (fp_36 0 49) fun (v_5 : Int32) =>
  spl (sX12_begins_50_f0 fp_36 L) fun (f_12 : sg_F) =>
  spl (α := Int32) (f_12 0 48) fun (v_17 : Int32) =>
  spl2 (sX12_slipsAs_1_f1_f4 x1 f_12 L) fun (r_27 : Int32) (f_24 : sg_F) =>
  spl (α := Int32) (f_24 0 48) fun (v_30 : Int32) =>
  spl2 (sX12_setsAs_4_f2_f4 2 f_24 L) fun (r_41 : Int32) (f_38 : sg_F) =>
  spl (α := Int32) (f_38 0 48) fun (v_44 : Int32) =>
  spl (α := Int32) (r_27 - r_41) fun (v_50 : Int32) =>
  ((v_50 : Int32), f_38)
set_option maxRecDepth 100000 in
noncomputable def sX12_slipsAs_4_f0_f4 (x1 : Int32) (f : sg_F) (L : sg_L) : Int32 × sg_F :=
  sX12_slipsAs_4_f0_f4_b36 x1 f L
set_option maxRecDepth 100000 in
noncomputable def sX12_slipsAs_2_f1_f5 (x1 : Int32) (f : sg_F) (L : sg_L) : Int32 × sg_F :=
  spl (sX12_begins_11_f1 f L) fun (f_4 : sg_F) =>
  spl (α := Int32) (f_4 0 48) fun (v_9 : Int32) =>
  spl (α := Int32) (f_4 0 50) fun (v_13 : Int32) =>
  spl (α := Int32) (x1 ^^^ v_13) fun (v_15 : Int32) =>
  ((v_15 : Int32), f_4)
set_option maxRecDepth 100000 in
noncomputable def sX12_slipsAs_5_f0_f5_b10 (x1 : Int32) (fp_10 : sg_F) (L : sg_L) : Int32 × sg_F :=
  spl (α := Int32) (fp_10 0 48) fun (v_2 : Int32) =>
  spl (α := Int32) (fp_10 0 49) fun (v_5 : Int32) =>
  spl (sX12_begins_40_f0 fp_10 L) fun (f_12 : sg_F) =>
  spl (α := Int32) (f_12 0 48) fun (v_17 : Int32) =>
  spl2 (sX12_slipsAs_2_f1_f5 x1 f_12 L) fun (r_27 : Int32) (f_24 : sg_F) =>
  spl (α := Int32) (f_24 0 48) fun (v_30 : Int32) =>
  spl (α := Int32) (r_27 * 3) fun (v_35 : Int32) =>
  ((v_35 : Int32), f_24)
set_option maxRecDepth 100000 in
noncomputable def sX12_slipsAs_5_f0_f5 (x1 : Int32) (f : sg_F) (L : sg_L) : Int32 × sg_F :=
  sX12_slipsAs_5_f0_f5_b10 x1 f L
set_option maxRecDepth 100000 in
noncomputable def sX12_slipsAs_6_f0_f6 (x1 : Int32) (f : sg_F) (L : sg_L) : Int32 × sg_F :=
  spl (sX12_begins_11_f0 f L) fun (f_4 : sg_F) =>
  spl (α := Int32) (f_4 0 48) fun (v_9 : Int32) =>
  spl (α := Int32) (f_4 0 50) fun (v_13 : Int32) =>
  spl (α := Int32) (x1 ^^^ v_13) fun (v_15 : Int32) =>
  ((v_15 : Int32), f_4)
set_option maxRecDepth 100000 in
noncomputable def sX12_slipsAs_1_f1_f7 (x1 : Int32) (f : sg_F) (L : sg_L) : Int32 × sg_F :=
  spl (sX12_begins_11_f1 f L) fun (f_4 : sg_F) =>
  spl (α := Int32) (f_4 0 48) fun (v_9 : Int32) =>
  spl (α := Int32) (f_4 0 50) fun (v_13 : Int32) =>
  spl (α := Int32) (x1 ^^^ v_13) fun (v_15 : Int32) =>
  ((v_15 : Int32), f_4)
set_option maxRecDepth 100000 in
noncomputable def sX12_slipsAs_7_f0_f7_b36 (x1 : Int32) (fp_36 : sg_F) (L : sg_L) : Int32 × sg_F :=
  spl (α := Int32) (fp_36 0 48) fun (v_2 : Int32) =>
  spl (α := Int32) (fp_36 0 49) fun (v_5 : Int32) =>
  spl (sX12_begins_50_f0 fp_36 L) fun (f_12 : sg_F) =>
  spl (α := Int32) (f_12 0 48) fun (v_17 : Int32) =>
  spl2 (sX12_slipsAs_1_f1_f7 x1 f_12 L) fun (r_27 : Int32) (f_24 : sg_F) =>
  spl (α := Int32) (f_24 0 48) fun (v_30 : Int32) =>
  spl2 (sX12_setsAs_7_f2_f7 2 f_24 L) fun (r_41 : Int32) (f_38 : sg_F) =>
  spl (α := Int32) (f_38 0 48) fun (v_44 : Int32) =>
  spl (α := Int32) (r_27 - r_41) fun (v_50 : Int32) =>
  ((v_50 : Int32), f_38)
set_option maxRecDepth 100000 in
noncomputable def sX12_slipsAs_7_f0_f7 (x1 : Int32) (f : sg_F) (L : sg_L) : Int32 × sg_F :=
  sX12_slipsAs_7_f0_f7_b36 x1 f L
set_option maxRecDepth 100000 in
noncomputable def sX12_begins_2_f0_b19 (fp_19 : sg_F) (L : sg_L) : sg_F :=
  spl (α := Int32) (fp_19 0 48) fun (v_2 : Int32) =>
  spl (α := Int32) (v_2 + 1) fun (v_5 : Int32) =>
  spl (α := sg_F) (sg_up fp_19 0 (sgu (fp_19 0) 48 v_5)) fun (f_7 : sg_F) =>
  (f_7)
set_option maxRecDepth 100000 in
noncomputable def sX12_begins_2_f0 (f : sg_F) (L : sg_L) : sg_F :=
  spl (α := sg_F) (sg_up f 21 (sgu (f 21) 0 2)) fun (f_10 : sg_F) =>
  sX12_begins_2_f0_b19 f_10 L
set_option maxRecDepth 100000 in
noncomputable def sX12_setsAs_0_f2_f0 (x1 : Int32) (f : sg_F) (L : sg_L) : Int32 × sg_F :=
  spl (sX12_begins_1_f2 f L) fun (f_4 : sg_F) =>
  spl (α := Int32) (f_4 0 48) fun (v_9 : Int32) =>
  spl (α := Int32) (f_4 0 50) fun (v_13 : Int32) =>
  spl (α := Int32) (x1 + v_13) fun (v_15 : Int32) =>
  ((v_15 : Int32), f_4)
set_option maxRecDepth 100000 in
noncomputable def sX12_sitsAs_0_f1_f0 (x1 : Int32) (f : sg_F) (L : sg_L) : Int32 × sg_F :=
  spl (sX12_begins_10_f1 f L) fun (f_4 : sg_F) =>
  spl (α := Int32) (f_4 0 48) fun (v_9 : Int32) =>
  spl2 (sX12_setsAs_0_f2_f0 x1 f_4 L) fun (r_19 : Int32) (f_16 : sg_F) =>
  spl (α := Int32) (f_16 0 48) fun (v_22 : Int32) =>
  spl (α := Int32) (r_19 * 2) fun (v_27 : Int32) =>
  ((v_27 : Int32), f_16)
set_option maxRecDepth 100000 in
noncomputable def sX12_begins_11_f3_b19 (fp_19 : sg_F) (L : sg_L) : sg_F :=
  spl (α := Int32) (fp_19 0 48) fun (v_2 : Int32) =>
  spl (α := Int32) (v_2 + 1) fun (v_5 : Int32) =>
  spl (α := sg_F) (sg_up fp_19 0 (sgu (fp_19 0) 48 v_5)) fun (f_7 : sg_F) =>
  (f_7)
set_option maxRecDepth 100000 in
noncomputable def sX12_begins_11_f3 (f : sg_F) (L : sg_L) : sg_F :=
  spl (α := sg_F) (sg_up f 21 (sgu (f 21) 3 11)) fun (f_10 : sg_F) =>
  sX12_begins_11_f3_b19 f_10 L
set_option maxRecDepth 100000 in
noncomputable def sX12_slipsAs_0_f3_f0 (x1 : Int32) (f : sg_F) (L : sg_L) : Int32 × sg_F :=
  spl (sX12_begins_11_f3 f L) fun (f_4 : sg_F) =>
  spl (α := Int32) (f_4 0 48) fun (v_9 : Int32) =>
  spl (α := Int32) (f_4 0 50) fun (v_13 : Int32) =>
  spl (α := Int32) (x1 ^^^ v_13) fun (v_15 : Int32) =>
  ((v_15 : Int32), f_4)
set_option maxRecDepth 100000 in
noncomputable def sX12_tellsAs_0_f0_f0 (x1 : Int32) (f : sg_F) (L : sg_L) : Int32 × sg_F :=
  spl (sX12_begins_2_f0 f L) fun (f_4 : sg_F) =>
  spl (α := Int32) (f_4 0 48) fun (v_9 : Int32) =>
  spl2 (sX12_sitsAs_0_f1_f0 x1 f_4 L) fun (r_19 : Int32) (f_16 : sg_F) =>
  spl (α := Int32) (f_16 0 48) fun (v_22 : Int32) =>
  spl2 (sX12_slipsAs_0_f3_f0 1 f_16 L) fun (r_33 : Int32) (f_30 : sg_F) =>
  spl (α := Int32) (f_30 0 48) fun (v_36 : Int32) =>
  spl (α := Int32) (r_19 - r_33) fun (v_42 : Int32) =>
  ((v_42 : Int32), f_30)
set_option maxRecDepth 100000 in
noncomputable def sX12_setsAs_0_f3_f1 (x1 : Int32) (f : sg_F) (L : sg_L) : Int32 × sg_F :=
  spl (sX12_begins_1_f3 f L) fun (f_4 : sg_F) =>
  spl (α := Int32) (f_4 0 48) fun (v_9 : Int32) =>
  spl (α := Int32) (f_4 0 50) fun (v_13 : Int32) =>
  spl (α := Int32) (x1 + v_13) fun (v_15 : Int32) =>
  ((v_15 : Int32), f_4)
set_option maxRecDepth 100000 in
noncomputable def sX12_setsAs_1_f2_f1_b16 (x1 : Int32) (fp_16 : sg_F) (L : sg_L) : Int32 × sg_F :=
  spl (α := Int32) (fp_16 0 48) fun (v_2 : Int32) =>
  spl (α := Int32) (fp_16 0 49) fun (v_5 : Int32) =>
  spl (sX12_begins_20_f2 fp_16 L) fun (f_12 : sg_F) =>
  spl (α := Int32) (f_12 0 48) fun (v_17 : Int32) =>
  spl2 (sX12_setsAs_0_f3_f1 x1 f_12 L) fun (r_27 : Int32) (f_24 : sg_F) =>
  spl (α := Int32) (f_24 0 48) fun (v_30 : Int32) =>
  spl (α := Int32) (r_27 + 3) fun (v_35 : Int32) =>
  ((v_35 : Int32), f_24)
set_option maxRecDepth 100000 in
noncomputable def sX12_setsAs_1_f2_f1 (x1 : Int32) (f : sg_F) (L : sg_L) : Int32 × sg_F :=
  sX12_setsAs_1_f2_f1_b16 x1 f L
set_option maxRecDepth 100000 in
noncomputable def sX12_sitsAs_1_f1_f1 (x1 : Int32) (f : sg_F) (L : sg_L) : Int32 × sg_F :=
  spl (sX12_begins_10_f1 f L) fun (f_4 : sg_F) =>
  spl (α := Int32) (f_4 0 48) fun (v_9 : Int32) =>
  spl2 (sX12_setsAs_1_f2_f1 x1 f_4 L) fun (r_19 : Int32) (f_16 : sg_F) =>
  spl (α := Int32) (f_16 0 48) fun (v_22 : Int32) =>
  spl (α := Int32) (r_19 * 2) fun (v_27 : Int32) =>
  ((v_27 : Int32), f_16)
set_option maxRecDepth 100000 in
noncomputable def sX12_begins_11_f4_b19 (fp_19 : sg_F) (L : sg_L) : sg_F :=
  spl (α := Int32) (fp_19 0 48) fun (v_2 : Int32) =>
  spl (α := Int32) (v_2 + 1) fun (v_5 : Int32) =>
  spl (α := sg_F) (sg_up fp_19 0 (sgu (fp_19 0) 48 v_5)) fun (f_7 : sg_F) =>
  (f_7)
set_option maxRecDepth 100000 in
noncomputable def sX12_begins_11_f4 (f : sg_F) (L : sg_L) : sg_F :=
  spl (α := sg_F) (sg_up f 21 (sgu (f 21) 4 11)) fun (f_10 : sg_F) =>
  sX12_begins_11_f4_b19 f_10 L
set_option maxRecDepth 100000 in
noncomputable def sX12_slipsAs_1_f4_f1 (x1 : Int32) (f : sg_F) (L : sg_L) : Int32 × sg_F :=
  spl (sX12_begins_11_f4 f L) fun (f_4 : sg_F) =>
  spl (α := Int32) (f_4 0 48) fun (v_9 : Int32) =>
  spl (α := Int32) (f_4 0 50) fun (v_13 : Int32) =>
  spl (α := Int32) (x1 ^^^ v_13) fun (v_15 : Int32) =>
  ((v_15 : Int32), f_4)
set_option maxRecDepth 100000 in
noncomputable def sX12_tellsAs_1_f0_f1 (x1 : Int32) (f : sg_F) (L : sg_L) : Int32 × sg_F :=
  spl (sX12_begins_2_f0 f L) fun (f_4 : sg_F) =>
  spl (α := Int32) (f_4 0 48) fun (v_9 : Int32) =>
  spl2 (sX12_sitsAs_1_f1_f1 x1 f_4 L) fun (r_19 : Int32) (f_16 : sg_F) =>
  spl (α := Int32) (f_16 0 48) fun (v_22 : Int32) =>
  spl2 (sX12_slipsAs_1_f4_f1 1 f_16 L) fun (r_33 : Int32) (f_30 : sg_F) =>
  spl (α := Int32) (f_30 0 48) fun (v_36 : Int32) =>
  spl (α := Int32) (r_19 - r_33) fun (v_42 : Int32) =>
  ((v_42 : Int32), f_30)
set_option maxRecDepth 100000 in
noncomputable def sX12_setsAs_2_f3_f2 (x1 : Int32) (f : sg_F) (L : sg_L) : Int32 × sg_F :=
  spl (sX12_begins_1_f3 f L) fun (f_4 : sg_F) =>
  spl (α := Int32) (f_4 0 48) fun (v_9 : Int32) =>
  spl (α := Int32) (f_4 0 50) fun (v_13 : Int32) =>
  spl (α := Int32) (x1 + v_13) fun (v_15 : Int32) =>
  ((v_15 : Int32), f_4)
set_option maxRecDepth 100000 in
noncomputable def sX12_sitsAs_0_f2_f2 (x1 : Int32) (f : sg_F) (L : sg_L) : Int32 × sg_F :=
  spl (sX12_begins_10_f2 f L) fun (f_4 : sg_F) =>
  spl (α := Int32) (f_4 0 48) fun (v_9 : Int32) =>
  spl2 (sX12_setsAs_2_f3_f2 x1 f_4 L) fun (r_19 : Int32) (f_16 : sg_F) =>
  spl (α := Int32) (f_16 0 48) fun (v_22 : Int32) =>
  spl (α := Int32) (r_19 * 2) fun (v_27 : Int32) =>
  ((v_27 : Int32), f_16)
set_option maxRecDepth 100000 in
noncomputable def sX12_sitsAs_2_f1_f2 (x1 : Int32) (f : sg_F) (L : sg_L) : Int32 × sg_F :=
  spl (sX12_begins_30_f1 f L) fun (f_4 : sg_F) =>
  spl (α := Int32) (f_4 0 48) fun (v_9 : Int32) =>
  spl2 (sX12_sitsAs_0_f2_f2 x1 f_4 L) fun (r_19 : Int32) (f_16 : sg_F) =>
  spl (α := Int32) (f_16 0 48) fun (v_22 : Int32) =>
  spl (α := Int32) ((-r_19)) fun (v_27 : Int32) =>
  ((v_27 : Int32), f_16)
set_option maxRecDepth 100000 in
noncomputable def sX12_slipsAs_2_f4_f2 (x1 : Int32) (f : sg_F) (L : sg_L) : Int32 × sg_F :=
  spl (sX12_begins_11_f4 f L) fun (f_4 : sg_F) =>
  spl (α := Int32) (f_4 0 48) fun (v_9 : Int32) =>
  spl (α := Int32) (f_4 0 50) fun (v_13 : Int32) =>
  spl (α := Int32) (x1 ^^^ v_13) fun (v_15 : Int32) =>
  ((v_15 : Int32), f_4)
set_option maxRecDepth 100000 in
noncomputable def sX12_tellsAs_2_f0_f2 (x1 : Int32) (f : sg_F) (L : sg_L) : Int32 × sg_F :=
  spl (sX12_begins_2_f0 f L) fun (f_4 : sg_F) =>
  spl (α := Int32) (f_4 0 48) fun (v_9 : Int32) =>
  spl2 (sX12_sitsAs_2_f1_f2 x1 f_4 L) fun (r_19 : Int32) (f_16 : sg_F) =>
  spl (α := Int32) (f_16 0 48) fun (v_22 : Int32) =>
  spl2 (sX12_slipsAs_2_f4_f2 1 f_16 L) fun (r_33 : Int32) (f_30 : sg_F) =>
  spl (α := Int32) (f_30 0 48) fun (v_36 : Int32) =>
  spl (α := Int32) (r_19 - r_33) fun (v_42 : Int32) =>
  ((v_42 : Int32), f_30)
set_option maxRecDepth 100000 in
noncomputable def sX12_begins_41_f1_b19 (fp_19 : sg_F) (L : sg_L) : sg_F :=
  spl (α := Int32) (fp_19 0 48) fun (v_2 : Int32) =>
  spl (α := Int32) (v_2 + 1) fun (v_5 : Int32) =>
  spl (α := sg_F) (sg_up fp_19 0 (sgu (fp_19 0) 48 v_5)) fun (f_7 : sg_F) =>
  (f_7)
set_option maxRecDepth 100000 in
noncomputable def sX12_begins_41_f1 (f : sg_F) (L : sg_L) : sg_F :=
  spl (α := sg_F) (sg_up f 21 (sgu (f 21) 1 41)) fun (f_10 : sg_F) =>
  sX12_begins_41_f1_b19 f_10 L
set_option maxRecDepth 100000 in
noncomputable def sX12_begins_30_f2_b19 (fp_19 : sg_F) (L : sg_L) : sg_F :=
  spl (α := Int32) (fp_19 0 48) fun (v_2 : Int32) =>
  spl (α := Int32) (v_2 + 1) fun (v_5 : Int32) =>
  spl (α := sg_F) (sg_up fp_19 0 (sgu (fp_19 0) 48 v_5)) fun (f_7 : sg_F) =>
  (f_7)
set_option maxRecDepth 100000 in
noncomputable def sX12_begins_30_f2 (f : sg_F) (L : sg_L) : sg_F :=
  spl (α := sg_F) (sg_up f 21 (sgu (f 21) 2 30)) fun (f_10 : sg_F) =>
  sX12_begins_30_f2_b19 f_10 L
set_option maxRecDepth 100000 in
noncomputable def sX12_begins_10_f3_b19 (fp_19 : sg_F) (L : sg_L) : sg_F :=
  spl (α := Int32) (fp_19 0 48) fun (v_2 : Int32) =>
  spl (α := Int32) (v_2 + 1) fun (v_5 : Int32) =>
  spl (α := sg_F) (sg_up fp_19 0 (sgu (fp_19 0) 48 v_5)) fun (f_7 : sg_F) =>
  (f_7)
set_option maxRecDepth 100000 in
noncomputable def sX12_begins_10_f3 (f : sg_F) (L : sg_L) : sg_F :=
  spl (α := sg_F) (sg_up f 21 (sgu (f 21) 3 10)) fun (f_10 : sg_F) =>
  sX12_begins_10_f3_b19 f_10 L
set_option maxRecDepth 100000 in
noncomputable def sX12_begins_1_f4_b19 (fp_19 : sg_F) (L : sg_L) : sg_F :=
  spl (α := Int32) (fp_19 0 48) fun (v_2 : Int32) =>
  spl (α := Int32) (v_2 + 1) fun (v_5 : Int32) =>
  spl (α := sg_F) (sg_up fp_19 0 (sgu (fp_19 0) 48 v_5)) fun (f_7 : sg_F) =>
  (f_7)
set_option maxRecDepth 100000 in
noncomputable def sX12_begins_1_f4 (f : sg_F) (L : sg_L) : sg_F :=
  spl (α := sg_F) (sg_up f 21 (sgu (f 21) 4 1)) fun (f_10 : sg_F) =>
  sX12_begins_1_f4_b19 f_10 L
set_option maxRecDepth 100000 in
noncomputable def sX12_setsAs_3_f4_f3 (x1 : Int32) (f : sg_F) (L : sg_L) : Int32 × sg_F :=
  spl (sX12_begins_1_f4 f L) fun (f_4 : sg_F) =>
  spl (α := Int32) (f_4 0 48) fun (v_9 : Int32) =>
  spl (α := Int32) (f_4 0 50) fun (v_13 : Int32) =>
  spl (α := Int32) (x1 + v_13) fun (v_15 : Int32) =>
  ((v_15 : Int32), f_4)
set_option maxRecDepth 100000 in
noncomputable def sX12_sitsAs_0_f3_f3 (x1 : Int32) (f : sg_F) (L : sg_L) : Int32 × sg_F :=
  spl (sX12_begins_10_f3 f L) fun (f_4 : sg_F) =>
  spl (α := Int32) (f_4 0 48) fun (v_9 : Int32) =>
  spl2 (sX12_setsAs_3_f4_f3 x1 f_4 L) fun (r_19 : Int32) (f_16 : sg_F) =>
  spl (α := Int32) (f_16 0 48) fun (v_22 : Int32) =>
  spl (α := Int32) (r_19 * 2) fun (v_27 : Int32) =>
  ((v_27 : Int32), f_16)
set_option maxRecDepth 100000 in
noncomputable def sX12_sitsAs_2_f2_f3 (x1 : Int32) (f : sg_F) (L : sg_L) : Int32 × sg_F :=
  spl (sX12_begins_30_f2 f L) fun (f_4 : sg_F) =>
  spl (α := Int32) (f_4 0 48) fun (v_9 : Int32) =>
  spl2 (sX12_sitsAs_0_f3_f3 x1 f_4 L) fun (r_19 : Int32) (f_16 : sg_F) =>
  spl (α := Int32) (f_16 0 48) fun (v_22 : Int32) =>
  spl (α := Int32) ((-r_19)) fun (v_27 : Int32) =>
  ((v_27 : Int32), f_16)
set_option maxRecDepth 100000 in
noncomputable def sX12_sitsAs_3_f1_f3_b10 (x1 : Int32) (fp_10 : sg_F) (L : sg_L) : Int32 × sg_F :=
  spl (α := Int32) (fp_10 0 48) fun (v_2 : Int32) =>
  spl (α := Int32) (fp_10 0 49) fun (v_5 : Int32) =>
  spl (sX12_begins_41_f1 fp_10 L) fun (f_12 : sg_F) =>
  spl (α := Int32) (f_12 0 48) fun (v_17 : Int32) =>
  spl (α := Int32) (x1 + 1) fun (v_21 : Int32) =>
  spl2 (sX12_sitsAs_2_f2_f3 v_21 f_12 L) fun (r_28 : Int32) (f_25 : sg_F) =>
  spl (α := Int32) (f_25 0 48) fun (v_31 : Int32) =>
  ((r_28 : Int32), f_25)
set_option maxRecDepth 100000 in
noncomputable def sX12_sitsAs_3_f1_f3 (x1 : Int32) (f : sg_F) (L : sg_L) : Int32 × sg_F :=
  sX12_sitsAs_3_f1_f3_b10 x1 f L
set_option maxRecDepth 100000 in
noncomputable def sX12_begins_40_f5_b19 (fp_19 : sg_F) (L : sg_L) : sg_F :=
  spl (α := Int32) (fp_19 0 48) fun (v_2 : Int32) =>
  spl (α := Int32) (v_2 + 1) fun (v_5 : Int32) =>
  spl (α := sg_F) (sg_up fp_19 0 (sgu (fp_19 0) 48 v_5)) fun (f_7 : sg_F) =>
  (f_7)
set_option maxRecDepth 100000 in
noncomputable def sX12_begins_40_f5 (f : sg_F) (L : sg_L) : sg_F :=
  spl (α := sg_F) (sg_up f 21 (sgu (f 21) 5 40)) fun (f_10 : sg_F) =>
  sX12_begins_40_f5_b19 f_10 L
set_option maxRecDepth 100000 in
noncomputable def sX12_begins_11_f6_b19 (fp_19 : sg_F) (L : sg_L) : sg_F :=
  spl (α := Int32) (fp_19 0 48) fun (v_2 : Int32) =>
  spl (α := Int32) (v_2 + 1) fun (v_5 : Int32) =>
  spl (α := sg_F) (sg_up fp_19 0 (sgu (fp_19 0) 48 v_5)) fun (f_7 : sg_F) =>
  (f_7)
set_option maxRecDepth 100000 in
noncomputable def sX12_begins_11_f6 (f : sg_F) (L : sg_L) : sg_F :=
  spl (α := sg_F) (sg_up f 21 (sgu (f 21) 6 11)) fun (f_10 : sg_F) =>
  sX12_begins_11_f6_b19 f_10 L
set_option maxRecDepth 100000 in
noncomputable def sX12_slipsAs_2_f6_f3 (x1 : Int32) (f : sg_F) (L : sg_L) : Int32 × sg_F :=
  spl (sX12_begins_11_f6 f L) fun (f_4 : sg_F) =>
  spl (α := Int32) (f_4 0 48) fun (v_9 : Int32) =>
  spl (α := Int32) (f_4 0 50) fun (v_13 : Int32) =>
  spl (α := Int32) (x1 ^^^ v_13) fun (v_15 : Int32) =>
  ((v_15 : Int32), f_4)
set_option maxRecDepth 100000 in
noncomputable def sX12_slipsAs_3_f5_f3_b10 (x1 : Int32) (fp_10 : sg_F) (L : sg_L) : Int32 × sg_F :=
  spl (α := Int32) (fp_10 0 48) fun (v_2 : Int32) =>
  spl (α := Int32) (fp_10 0 49) fun (v_5 : Int32) =>
  spl (sX12_begins_40_f5 fp_10 L) fun (f_12 : sg_F) =>
  spl (α := Int32) (f_12 0 48) fun (v_17 : Int32) =>
  spl2 (sX12_slipsAs_2_f6_f3 x1 f_12 L) fun (r_27 : Int32) (f_24 : sg_F) =>
  spl (α := Int32) (f_24 0 48) fun (v_30 : Int32) =>
  spl (α := Int32) (r_27 * 3) fun (v_35 : Int32) =>
  ((v_35 : Int32), f_24)
set_option maxRecDepth 100000 in
noncomputable def sX12_slipsAs_3_f5_f3 (x1 : Int32) (f : sg_F) (L : sg_L) : Int32 × sg_F :=
  sX12_slipsAs_3_f5_f3_b10 x1 f L
set_option maxRecDepth 100000 in
noncomputable def sX12_tellsAs_3_f0_f3 (x1 : Int32) (f : sg_F) (L : sg_L) : Int32 × sg_F :=
  spl (sX12_begins_2_f0 f L) fun (f_4 : sg_F) =>
  spl (α := Int32) (f_4 0 48) fun (v_9 : Int32) =>
  spl2 (sX12_sitsAs_3_f1_f3 x1 f_4 L) fun (r_19 : Int32) (f_16 : sg_F) =>
  spl (α := Int32) (f_16 0 48) fun (v_22 : Int32) =>
  spl2 (sX12_slipsAs_3_f5_f3 1 f_16 L) fun (r_33 : Int32) (f_30 : sg_F) =>
  spl (α := Int32) (f_30 0 48) fun (v_36 : Int32) =>
  spl (α := Int32) (r_19 - r_33) fun (v_42 : Int32) =>
  ((v_42 : Int32), f_30)
set_option maxRecDepth 100000 in
noncomputable def sX12_sitsAs_4_f1_f4 (x1 : Int32) (f : sg_F) (L : sg_L) : Int32 × sg_F :=
  spl (sX12_begins_10_f1 f L) fun (f_4 : sg_F) =>
  spl (α := Int32) (f_4 0 48) fun (v_9 : Int32) =>
  spl2 (sX12_setsAs_4_f2_f4 x1 f_4 L) fun (r_19 : Int32) (f_16 : sg_F) =>
  spl (α := Int32) (f_16 0 48) fun (v_22 : Int32) =>
  spl (α := Int32) (r_19 * 2) fun (v_27 : Int32) =>
  ((v_27 : Int32), f_16)
set_option maxRecDepth 100000 in
noncomputable def sX12_slipsAs_1_f5_f4 (x1 : Int32) (f : sg_F) (L : sg_L) : Int32 × sg_F :=
  spl (sX12_begins_11_f5 f L) fun (f_4 : sg_F) =>
  spl (α := Int32) (f_4 0 48) fun (v_9 : Int32) =>
  spl (α := Int32) (f_4 0 50) fun (v_13 : Int32) =>
  spl (α := Int32) (x1 ^^^ v_13) fun (v_15 : Int32) =>
  ((v_15 : Int32), f_4)
set_option maxRecDepth 100000 in
noncomputable def sX12_setsAs_0_f7_f4 (x1 : Int32) (f : sg_F) (L : sg_L) : Int32 × sg_F :=
  spl (sX12_begins_1_f7 f L) fun (f_4 : sg_F) =>
  spl (α := Int32) (f_4 0 48) fun (v_9 : Int32) =>
  spl (α := Int32) (f_4 0 50) fun (v_13 : Int32) =>
  spl (α := Int32) (x1 + v_13) fun (v_15 : Int32) =>
  ((v_15 : Int32), f_4)
set_option maxRecDepth 100000 in
noncomputable def sX12_setsAs_4_f6_f4_b16 (x1 : Int32) (fp_16 : sg_F) (L : sg_L) : Int32 × sg_F :=
  spl (α := Int32) (fp_16 0 48) fun (v_2 : Int32) =>
  spl (α := Int32) (fp_16 0 49) fun (v_5 : Int32) =>
  spl (sX12_begins_20_f6 fp_16 L) fun (f_12 : sg_F) =>
  spl (α := Int32) (f_12 0 48) fun (v_17 : Int32) =>
  spl2 (sX12_setsAs_0_f7_f4 x1 f_12 L) fun (r_27 : Int32) (f_24 : sg_F) =>
  spl (α := Int32) (f_24 0 48) fun (v_30 : Int32) =>
  spl (α := Int32) (r_27 + 3) fun (v_35 : Int32) =>
  ((v_35 : Int32), f_24)
set_option maxRecDepth 100000 in
noncomputable def sX12_setsAs_4_f6_f4 (x1 : Int32) (f : sg_F) (L : sg_L) : Int32 × sg_F :=
  sX12_setsAs_4_f6_f4_b16 x1 f L
set_option maxRecDepth 100000 in
noncomputable def sX12_slipsAs_4_f4_f4_b36 (x1 : Int32) (fp_36 : sg_F) (L : sg_L) : Int32 × sg_F :=
  spl (α := Int32) (fp_36 0 48) fun (v_2 : Int32) =>
  spl (α := Int32) (fp_36 0 49) fun (v_5 : Int32) =>
  spl (sX12_begins_50_f4 fp_36 L) fun (f_12 : sg_F) =>
  spl (α := Int32) (f_12 0 48) fun (v_17 : Int32) =>
  spl2 (sX12_slipsAs_1_f5_f4 x1 f_12 L) fun (r_27 : Int32) (f_24 : sg_F) =>
  spl (α := Int32) (f_24 0 48) fun (v_30 : Int32) =>
  spl2 (sX12_setsAs_4_f6_f4 2 f_24 L) fun (r_41 : Int32) (f_38 : sg_F) =>
  spl (α := Int32) (f_38 0 48) fun (v_44 : Int32) =>
  spl (α := Int32) (r_27 - r_41) fun (v_50 : Int32) =>
  ((v_50 : Int32), f_38)
set_option maxRecDepth 100000 in
noncomputable def sX12_slipsAs_4_f4_f4 (x1 : Int32) (f : sg_F) (L : sg_L) : Int32 × sg_F :=
  sX12_slipsAs_4_f4_f4_b36 x1 f L
set_option maxRecDepth 100000 in
noncomputable def sX12_tellsAs_4_f0_f4 (x1 : Int32) (f : sg_F) (L : sg_L) : Int32 × sg_F :=
  spl (sX12_begins_2_f0 f L) fun (f_4 : sg_F) =>
  spl (α := Int32) (f_4 0 48) fun (v_9 : Int32) =>
  spl2 (sX12_sitsAs_4_f1_f4 x1 f_4 L) fun (r_19 : Int32) (f_16 : sg_F) =>
  spl (α := Int32) (f_16 0 48) fun (v_22 : Int32) =>
  spl2 (sX12_slipsAs_4_f4_f4 1 f_16 L) fun (r_33 : Int32) (f_30 : sg_F) =>
  spl (α := Int32) (f_30 0 48) fun (v_36 : Int32) =>
  spl (α := Int32) (r_19 - r_33) fun (v_42 : Int32) =>
  ((v_42 : Int32), f_30)
set_option maxRecDepth 100000 in
noncomputable def sX12_begins_60_f0_b19 (fp_19 : sg_F) (L : sg_L) : sg_F :=
  spl (α := Int32) (fp_19 0 48) fun (v_2 : Int32) =>
  spl (α := Int32) (v_2 + 1) fun (v_5 : Int32) =>
  spl (α := sg_F) (sg_up fp_19 0 (sgu (fp_19 0) 48 v_5)) fun (f_7 : sg_F) =>
  (f_7)
set_option maxRecDepth 100000 in
noncomputable def sX12_begins_60_f0 (f : sg_F) (L : sg_L) : sg_F :=
  spl (α := sg_F) (sg_up f 21 (sgu (f 21) 0 60)) fun (f_10 : sg_F) =>
  sX12_begins_60_f0_b19 f_10 L
set_option maxRecDepth 100000 in
noncomputable def sX12_begins_2_f1_b19 (fp_19 : sg_F) (L : sg_L) : sg_F :=
  spl (α := Int32) (fp_19 0 48) fun (v_2 : Int32) =>
  spl (α := Int32) (v_2 + 1) fun (v_5 : Int32) =>
  spl (α := sg_F) (sg_up fp_19 0 (sgu (fp_19 0) 48 v_5)) fun (f_7 : sg_F) =>
  (f_7)
set_option maxRecDepth 100000 in
noncomputable def sX12_begins_2_f1 (f : sg_F) (L : sg_L) : sg_F :=
  spl (α := sg_F) (sg_up f 21 (sgu (f 21) 1 2)) fun (f_10 : sg_F) =>
  sX12_begins_2_f1_b19 f_10 L
set_option maxRecDepth 100000 in
noncomputable def sX12_begins_41_f2_b19 (fp_19 : sg_F) (L : sg_L) : sg_F :=
  spl (α := Int32) (fp_19 0 48) fun (v_2 : Int32) =>
  spl (α := Int32) (v_2 + 1) fun (v_5 : Int32) =>
  spl (α := sg_F) (sg_up fp_19 0 (sgu (fp_19 0) 48 v_5)) fun (f_7 : sg_F) =>
  (f_7)
set_option maxRecDepth 100000 in
noncomputable def sX12_begins_41_f2 (f : sg_F) (L : sg_L) : sg_F :=
  spl (α := sg_F) (sg_up f 21 (sgu (f 21) 2 41)) fun (f_10 : sg_F) =>
  sX12_begins_41_f2_b19 f_10 L
set_option maxRecDepth 100000 in
noncomputable def sX12_begins_30_f3_b19 (fp_19 : sg_F) (L : sg_L) : sg_F :=
  spl (α := Int32) (fp_19 0 48) fun (v_2 : Int32) =>
  spl (α := Int32) (v_2 + 1) fun (v_5 : Int32) =>
  spl (α := sg_F) (sg_up fp_19 0 (sgu (fp_19 0) 48 v_5)) fun (f_7 : sg_F) =>
  (f_7)
set_option maxRecDepth 100000 in
noncomputable def sX12_begins_30_f3 (f : sg_F) (L : sg_L) : sg_F :=
  spl (α := sg_F) (sg_up f 21 (sgu (f 21) 3 30)) fun (f_10 : sg_F) =>
  sX12_begins_30_f3_b19 f_10 L
set_option maxRecDepth 100000 in
noncomputable def sX12_begins_10_f4_b19 (fp_19 : sg_F) (L : sg_L) : sg_F :=
  spl (α := Int32) (fp_19 0 48) fun (v_2 : Int32) =>
  spl (α := Int32) (v_2 + 1) fun (v_5 : Int32) =>
  spl (α := sg_F) (sg_up fp_19 0 (sgu (fp_19 0) 48 v_5)) fun (f_7 : sg_F) =>
  (f_7)
set_option maxRecDepth 100000 in
noncomputable def sX12_begins_10_f4 (f : sg_F) (L : sg_L) : sg_F :=
  spl (α := sg_F) (sg_up f 21 (sgu (f 21) 4 10)) fun (f_10 : sg_F) =>
  sX12_begins_10_f4_b19 f_10 L
set_option maxRecDepth 100000 in
noncomputable def sX12_begins_1_f5_b19 (fp_19 : sg_F) (L : sg_L) : sg_F :=
  spl (α := Int32) (fp_19 0 48) fun (v_2 : Int32) =>
  spl (α := Int32) (v_2 + 1) fun (v_5 : Int32) =>
  spl (α := sg_F) (sg_up fp_19 0 (sgu (fp_19 0) 48 v_5)) fun (f_7 : sg_F) =>
  (f_7)
set_option maxRecDepth 100000 in
noncomputable def sX12_begins_1_f5 (f : sg_F) (L : sg_L) : sg_F :=
  spl (α := sg_F) (sg_up f 21 (sgu (f 21) 5 1)) fun (f_10 : sg_F) =>
  sX12_begins_1_f5_b19 f_10 L
set_option maxRecDepth 100000 in
noncomputable def sX12_setsAs_5_f5_f5 (x1 : Int32) (f : sg_F) (L : sg_L) : Int32 × sg_F :=
  spl (sX12_begins_1_f5 f L) fun (f_4 : sg_F) =>
  spl (α := Int32) (f_4 0 48) fun (v_9 : Int32) =>
  spl (α := Int32) (f_4 0 50) fun (v_13 : Int32) =>
  spl (α := Int32) (x1 + v_13) fun (v_15 : Int32) =>
  ((v_15 : Int32), f_4)
set_option maxRecDepth 100000 in
noncomputable def sX12_sitsAs_0_f4_f5 (x1 : Int32) (f : sg_F) (L : sg_L) : Int32 × sg_F :=
  spl (sX12_begins_10_f4 f L) fun (f_4 : sg_F) =>
  spl (α := Int32) (f_4 0 48) fun (v_9 : Int32) =>
  spl2 (sX12_setsAs_5_f5_f5 x1 f_4 L) fun (r_19 : Int32) (f_16 : sg_F) =>
  spl (α := Int32) (f_16 0 48) fun (v_22 : Int32) =>
  spl (α := Int32) (r_19 * 2) fun (v_27 : Int32) =>
  ((v_27 : Int32), f_16)
set_option maxRecDepth 100000 in
noncomputable def sX12_sitsAs_2_f3_f5 (x1 : Int32) (f : sg_F) (L : sg_L) : Int32 × sg_F :=
  spl (sX12_begins_30_f3 f L) fun (f_4 : sg_F) =>
  spl (α := Int32) (f_4 0 48) fun (v_9 : Int32) =>
  spl2 (sX12_sitsAs_0_f4_f5 x1 f_4 L) fun (r_19 : Int32) (f_16 : sg_F) =>
  spl (α := Int32) (f_16 0 48) fun (v_22 : Int32) =>
  spl (α := Int32) ((-r_19)) fun (v_27 : Int32) =>
  ((v_27 : Int32), f_16)
set_option maxRecDepth 100000 in
noncomputable def sX12_sitsAs_5_f2_f5_b10 (x1 : Int32) (fp_10 : sg_F) (L : sg_L) : Int32 × sg_F :=
  spl (α := Int32) (fp_10 0 48) fun (v_2 : Int32) =>
  spl (α := Int32) (fp_10 0 49) fun (v_5 : Int32) =>
  spl (sX12_begins_41_f2 fp_10 L) fun (f_12 : sg_F) =>
  spl (α := Int32) (f_12 0 48) fun (v_17 : Int32) =>
  spl (α := Int32) (x1 + 1) fun (v_21 : Int32) =>
  spl2 (sX12_sitsAs_2_f3_f5 v_21 f_12 L) fun (r_28 : Int32) (f_25 : sg_F) =>
  spl (α := Int32) (f_25 0 48) fun (v_31 : Int32) =>
  ((r_28 : Int32), f_25)
set_option maxRecDepth 100000 in
noncomputable def sX12_sitsAs_5_f2_f5 (x1 : Int32) (f : sg_F) (L : sg_L) : Int32 × sg_F :=
  sX12_sitsAs_5_f2_f5_b10 x1 f L
set_option maxRecDepth 100000 in
noncomputable def sX12_begins_40_f6_b19 (fp_19 : sg_F) (L : sg_L) : sg_F :=
  spl (α := Int32) (fp_19 0 48) fun (v_2 : Int32) =>
  spl (α := Int32) (v_2 + 1) fun (v_5 : Int32) =>
  spl (α := sg_F) (sg_up fp_19 0 (sgu (fp_19 0) 48 v_5)) fun (f_7 : sg_F) =>
  (f_7)
set_option maxRecDepth 100000 in
noncomputable def sX12_begins_40_f6 (f : sg_F) (L : sg_L) : sg_F :=
  spl (α := sg_F) (sg_up f 21 (sgu (f 21) 6 40)) fun (f_10 : sg_F) =>
  sX12_begins_40_f6_b19 f_10 L
set_option maxRecDepth 100000 in
noncomputable def sX12_begins_11_f7_b19 (fp_19 : sg_F) (L : sg_L) : sg_F :=
  spl (α := Int32) (fp_19 0 48) fun (v_2 : Int32) =>
  spl (α := Int32) (v_2 + 1) fun (v_5 : Int32) =>
  spl (α := sg_F) (sg_up fp_19 0 (sgu (fp_19 0) 48 v_5)) fun (f_7 : sg_F) =>
  (f_7)
set_option maxRecDepth 100000 in
noncomputable def sX12_begins_11_f7 (f : sg_F) (L : sg_L) : sg_F :=
  spl (α := sg_F) (sg_up f 21 (sgu (f 21) 7 11)) fun (f_10 : sg_F) =>
  sX12_begins_11_f7_b19 f_10 L
set_option maxRecDepth 100000 in
noncomputable def sX12_slipsAs_2_f7_f5 (x1 : Int32) (f : sg_F) (L : sg_L) : Int32 × sg_F :=
  spl (sX12_begins_11_f7 f L) fun (f_4 : sg_F) =>
  spl (α := Int32) (f_4 0 48) fun (v_9 : Int32) =>
  spl (α := Int32) (f_4 0 50) fun (v_13 : Int32) =>
  spl (α := Int32) (x1 ^^^ v_13) fun (v_15 : Int32) =>
  ((v_15 : Int32), f_4)
set_option maxRecDepth 100000 in
noncomputable def sX12_slipsAs_5_f6_f5_b10 (x1 : Int32) (fp_10 : sg_F) (L : sg_L) : Int32 × sg_F :=
  spl (α := Int32) (fp_10 0 48) fun (v_2 : Int32) =>
  spl (α := Int32) (fp_10 0 49) fun (v_5 : Int32) =>
  spl (sX12_begins_40_f6 fp_10 L) fun (f_12 : sg_F) =>
  spl (α := Int32) (f_12 0 48) fun (v_17 : Int32) =>
  spl2 (sX12_slipsAs_2_f7_f5 x1 f_12 L) fun (r_27 : Int32) (f_24 : sg_F) =>
  spl (α := Int32) (f_24 0 48) fun (v_30 : Int32) =>
  spl (α := Int32) (r_27 * 3) fun (v_35 : Int32) =>
  ((v_35 : Int32), f_24)
set_option maxRecDepth 100000 in
noncomputable def sX12_slipsAs_5_f6_f5 (x1 : Int32) (f : sg_F) (L : sg_L) : Int32 × sg_F :=
  sX12_slipsAs_5_f6_f5_b10 x1 f L
set_option maxRecDepth 100000 in
noncomputable def sX12_tellsAs_3_f1_f5 (x1 : Int32) (f : sg_F) (L : sg_L) : Int32 × sg_F :=
  spl (sX12_begins_2_f1 f L) fun (f_4 : sg_F) =>
  spl (α := Int32) (f_4 0 48) fun (v_9 : Int32) =>
  spl2 (sX12_sitsAs_5_f2_f5 x1 f_4 L) fun (r_19 : Int32) (f_16 : sg_F) =>
  spl (α := Int32) (f_16 0 48) fun (v_22 : Int32) =>
  spl2 (sX12_slipsAs_5_f6_f5 1 f_16 L) fun (r_33 : Int32) (f_30 : sg_F) =>
  spl (α := Int32) (f_30 0 48) fun (v_36 : Int32) =>
  spl (α := Int32) (r_19 - r_33) fun (v_42 : Int32) =>
  ((v_42 : Int32), f_30)
set_option maxRecDepth 100000 in
noncomputable def sX12_tellsAs_5_f0_f5 (x1 : Int32) (f : sg_F) (L : sg_L) : Int32 × sg_F :=
  spl (sX12_begins_60_f0 f L) fun (f_4 : sg_F) =>
  spl (α := Int32) (f_4 0 48) fun (v_9 : Int32) =>
  spl2 (sX12_tellsAs_3_f1_f5 x1 f_4 L) fun (r_19 : Int32) (f_16 : sg_F) =>
  spl (α := Int32) (f_16 0 48) fun (v_22 : Int32) =>
  spl (α := Int32) (r_19 ^^^ 5) fun (v_27 : Int32) =>
  ((v_27 : Int32), f_16)
set_option maxRecDepth 100000 in
noncomputable def sX12_begins_70_f2_b19 (fp_19 : sg_F) (L : sg_L) : sg_F :=
  spl (α := Int32) (fp_19 0 48) fun (v_2 : Int32) =>
  spl (α := Int32) (v_2 + 1) fun (v_5 : Int32) =>
  spl (α := sg_F) (sg_up fp_19 0 (sgu (fp_19 0) 48 v_5)) fun (f_7 : sg_F) =>
  (f_7)
set_option maxRecDepth 100000 in
noncomputable def sX12_begins_70_f2 (f : sg_F) (L : sg_L) : sg_F :=
  spl (α := sg_F) (sg_up f 21 (sgu (f 21) 2 70)) fun (f_10 : sg_F) =>
  sX12_begins_70_f2_b19 f_10 L
set_option maxRecDepth 100000 in
noncomputable def sX12_setsAs_0_f3_f6 (x1 : Int32) (f : sg_F) (L : sg_L) : Int32 × sg_F :=
  spl (sX12_begins_1_f3 f L) fun (f_4 : sg_F) =>
  spl (α := Int32) (f_4 0 48) fun (v_9 : Int32) =>
  spl (α := Int32) (f_4 0 50) fun (v_13 : Int32) =>
  spl (α := Int32) (x1 + v_13) fun (v_15 : Int32) =>
  ((v_15 : Int32), f_4)
set_option maxRecDepth 100000 in
noncomputable def sX12_setsAs_6_f2_f6 (x1 : Int32) (f : sg_F) (L : sg_L) : Int32 × sg_F :=
  spl (sX12_begins_70_f2 f L) fun (f_4 : sg_F) =>
  spl (α := Int32) (f_4 0 48) fun (v_9 : Int32) =>
  spl2 (sX12_setsAs_0_f3_f6 x1 f_4 L) fun (r_19 : Int32) (f_16 : sg_F) =>
  spl (α := Int32) (f_16 0 48) fun (v_22 : Int32) =>
  spl (α := Int32) (r_19 * 2) fun (v_27 : Int32) =>
  ((v_27 : Int32), f_16)
set_option maxRecDepth 100000 in
noncomputable def sX12_sitsAs_6_f1_f6 (x1 : Int32) (f : sg_F) (L : sg_L) : Int32 × sg_F :=
  spl (sX12_begins_10_f1 f L) fun (f_4 : sg_F) =>
  spl (α := Int32) (f_4 0 48) fun (v_9 : Int32) =>
  spl2 (sX12_setsAs_6_f2_f6 x1 f_4 L) fun (r_19 : Int32) (f_16 : sg_F) =>
  spl (α := Int32) (f_16 0 48) fun (v_22 : Int32) =>
  spl (α := Int32) (r_19 * 2) fun (v_27 : Int32) =>
  ((v_27 : Int32), f_16)
set_option maxRecDepth 100000 in
noncomputable def sX12_slipsAs_6_f4_f6 (x1 : Int32) (f : sg_F) (L : sg_L) : Int32 × sg_F :=
  spl (sX12_begins_11_f4 f L) fun (f_4 : sg_F) =>
  spl (α := Int32) (f_4 0 48) fun (v_9 : Int32) =>
  spl (α := Int32) (f_4 0 50) fun (v_13 : Int32) =>
  spl (α := Int32) (x1 ^^^ v_13) fun (v_15 : Int32) =>
  ((v_15 : Int32), f_4)
set_option maxRecDepth 100000 in
noncomputable def sX12_tellsAs_6_f0_f6 (x1 : Int32) (f : sg_F) (L : sg_L) : Int32 × sg_F :=
  spl (sX12_begins_2_f0 f L) fun (f_4 : sg_F) =>
  spl (α := Int32) (f_4 0 48) fun (v_9 : Int32) =>
  spl2 (sX12_sitsAs_6_f1_f6 x1 f_4 L) fun (r_19 : Int32) (f_16 : sg_F) =>
  spl (α := Int32) (f_16 0 48) fun (v_22 : Int32) =>
  spl2 (sX12_slipsAs_6_f4_f6 1 f_16 L) fun (r_33 : Int32) (f_30 : sg_F) =>
  spl (α := Int32) (f_30 0 48) fun (v_36 : Int32) =>
  spl (α := Int32) (r_19 - r_33) fun (v_42 : Int32) =>
  ((v_42 : Int32), f_30)
set_option maxRecDepth 100000 in
noncomputable def sX12_begins_81_f0_b19 (fp_19 : sg_F) (L : sg_L) : sg_F :=
  spl (α := Int32) (fp_19 0 48) fun (v_2 : Int32) =>
  spl (α := Int32) (v_2 + 1) fun (v_5 : Int32) =>
  spl (α := sg_F) (sg_up fp_19 0 (sgu (fp_19 0) 48 v_5)) fun (f_7 : sg_F) =>
  (f_7)
set_option maxRecDepth 100000 in
noncomputable def sX12_begins_81_f0 (f : sg_F) (L : sg_L) : sg_F :=
  spl (α := sg_F) (sg_up f 21 (sgu (f 21) 0 81)) fun (f_10 : sg_F) =>
  sX12_begins_81_f0_b19 f_10 L
set_option maxRecDepth 100000 in
noncomputable def sX12_begins_80_f2_b19 (fp_19 : sg_F) (L : sg_L) : sg_F :=
  spl (α := Int32) (fp_19 0 48) fun (v_2 : Int32) =>
  spl (α := Int32) (v_2 + 1) fun (v_5 : Int32) =>
  spl (α := sg_F) (sg_up fp_19 0 (sgu (fp_19 0) 48 v_5)) fun (f_7 : sg_F) =>
  (f_7)
set_option maxRecDepth 100000 in
noncomputable def sX12_begins_80_f2 (f : sg_F) (L : sg_L) : sg_F :=
  spl (α := sg_F) (sg_up f 21 (sgu (f 21) 2 80)) fun (f_10 : sg_F) =>
  sX12_begins_80_f2_b19 f_10 L
set_option maxRecDepth 100000 in
noncomputable def sX12_begins_20_f4_b19 (fp_19 : sg_F) (L : sg_L) : sg_F :=
  spl (α := Int32) (fp_19 0 48) fun (v_2 : Int32) =>
  spl (α := Int32) (v_2 + 1) fun (v_5 : Int32) =>
  spl (α := sg_F) (sg_up fp_19 0 (sgu (fp_19 0) 48 v_5)) fun (f_7 : sg_F) =>
  (f_7)
set_option maxRecDepth 100000 in
noncomputable def sX12_begins_20_f4 (f : sg_F) (L : sg_L) : sg_F :=
  spl (α := sg_F) (sg_up f 21 (sgu (f 21) 4 20)) fun (f_10 : sg_F) =>
  sX12_begins_20_f4_b19 f_10 L
set_option maxRecDepth 100000 in
noncomputable def sX12_setsAs_0_f5_f7 (x1 : Int32) (f : sg_F) (L : sg_L) : Int32 × sg_F :=
  spl (sX12_begins_1_f5 f L) fun (f_4 : sg_F) =>
  spl (α := Int32) (f_4 0 48) fun (v_9 : Int32) =>
  spl (α := Int32) (f_4 0 50) fun (v_13 : Int32) =>
  spl (α := Int32) (x1 + v_13) fun (v_15 : Int32) =>
  ((v_15 : Int32), f_4)
set_option maxRecDepth 100000 in
noncomputable def sX12_setsAs_7_f4_f7_b16 (x1 : Int32) (fp_16 : sg_F) (L : sg_L) : Int32 × sg_F :=
  spl (α := Int32) (fp_16 0 48) fun (v_2 : Int32) =>
  spl (α := Int32) (fp_16 0 49) fun (v_5 : Int32) =>
  spl (sX12_begins_20_f4 fp_16 L) fun (f_12 : sg_F) =>
  spl (α := Int32) (f_12 0 48) fun (v_17 : Int32) =>
  spl2 (sX12_setsAs_0_f5_f7 x1 f_12 L) fun (r_27 : Int32) (f_24 : sg_F) =>
  spl (α := Int32) (f_24 0 48) fun (v_30 : Int32) =>
  spl (α := Int32) (r_27 + 3) fun (v_35 : Int32) =>
  ((v_35 : Int32), f_24)
set_option maxRecDepth 100000 in
noncomputable def sX12_setsAs_7_f4_f7 (x1 : Int32) (f : sg_F) (L : sg_L) : Int32 × sg_F :=
  sX12_setsAs_7_f4_f7_b16 x1 f L
set_option maxRecDepth 100000 in
noncomputable def sX12_sitsAs_4_f3_f7 (x1 : Int32) (f : sg_F) (L : sg_L) : Int32 × sg_F :=
  spl (sX12_begins_10_f3 f L) fun (f_4 : sg_F) =>
  spl (α := Int32) (f_4 0 48) fun (v_9 : Int32) =>
  spl2 (sX12_setsAs_7_f4_f7 x1 f_4 L) fun (r_19 : Int32) (f_16 : sg_F) =>
  spl (α := Int32) (f_16 0 48) fun (v_22 : Int32) =>
  spl (α := Int32) (r_19 * 2) fun (v_27 : Int32) =>
  ((v_27 : Int32), f_16)
set_option maxRecDepth 100000 in
noncomputable def sX12_begins_50_f6_b19 (fp_19 : sg_F) (L : sg_L) : sg_F :=
  spl (α := Int32) (fp_19 0 48) fun (v_2 : Int32) =>
  spl (α := Int32) (v_2 + 1) fun (v_5 : Int32) =>
  spl (α := sg_F) (sg_up fp_19 0 (sgu (fp_19 0) 48 v_5)) fun (f_7 : sg_F) =>
  (f_7)
set_option maxRecDepth 100000 in
noncomputable def sX12_begins_50_f6 (f : sg_F) (L : sg_L) : sg_F :=
  spl (α := sg_F) (sg_up f 21 (sgu (f 21) 6 50)) fun (f_10 : sg_F) =>
  sX12_begins_50_f6_b19 f_10 L
set_option maxRecDepth 100000 in
noncomputable def sX12_slipsAs_1_f7_f7 (x1 : Int32) (f : sg_F) (L : sg_L) : Int32 × sg_F :=
  spl (sX12_begins_11_f7 f L) fun (f_4 : sg_F) =>
  spl (α := Int32) (f_4 0 48) fun (v_9 : Int32) =>
  spl (α := Int32) (f_4 0 50) fun (v_13 : Int32) =>
  spl (α := Int32) (x1 ^^^ v_13) fun (v_15 : Int32) =>
  ((v_15 : Int32), f_4)
set_option maxRecDepth 100000 in
noncomputable def sX12_begins_20_f8_b19 (fp_19 : sg_F) (L : sg_L) : sg_F :=
  spl (α := Int32) (fp_19 0 48) fun (v_2 : Int32) =>
  spl (α := Int32) (v_2 + 1) fun (v_5 : Int32) =>
  spl (α := sg_F) (sg_up fp_19 0 (sgu (fp_19 0) 48 v_5)) fun (f_7 : sg_F) =>
  (f_7)
set_option maxRecDepth 100000 in
noncomputable def sX12_begins_20_f8 (f : sg_F) (L : sg_L) : sg_F :=
  spl (α := sg_F) (sg_up f 21 (sgu (f 21) 8 20)) fun (f_10 : sg_F) =>
  sX12_begins_20_f8_b19 f_10 L
set_option maxRecDepth 100000 in
noncomputable def sX12_begins_1_f9_b19 (fp_19 : sg_F) (L : sg_L) : sg_F :=
  spl (α := Int32) (fp_19 0 48) fun (v_2 : Int32) =>
  spl (α := Int32) (v_2 + 1) fun (v_5 : Int32) =>
  spl (α := sg_F) (sg_up fp_19 0 (sgu (fp_19 0) 48 v_5)) fun (f_7 : sg_F) =>
  (f_7)
set_option maxRecDepth 100000 in
noncomputable def sX12_begins_1_f9 (f : sg_F) (L : sg_L) : sg_F :=
  spl (α := sg_F) (sg_up f 21 (sgu (f 21) 9 1)) fun (f_10 : sg_F) =>
  sX12_begins_1_f9_b19 f_10 L
set_option maxRecDepth 100000 in
noncomputable def sX12_setsAs_0_f9_f7 (x1 : Int32) (f : sg_F) (L : sg_L) : Int32 × sg_F :=
  spl (sX12_begins_1_f9 f L) fun (f_4 : sg_F) =>
  spl (α := Int32) (f_4 0 48) fun (v_9 : Int32) =>
  spl (α := Int32) (f_4 0 50) fun (v_13 : Int32) =>
  spl (α := Int32) (x1 + v_13) fun (v_15 : Int32) =>
  ((v_15 : Int32), f_4)
set_option maxRecDepth 100000 in
noncomputable def sX12_setsAs_7_f8_f7_b16 (x1 : Int32) (fp_16 : sg_F) (L : sg_L) : Int32 × sg_F :=
  spl (α := Int32) (fp_16 0 48) fun (v_2 : Int32) =>
  spl (α := Int32) (fp_16 0 49) fun (v_5 : Int32) =>
  spl (sX12_begins_20_f8 fp_16 L) fun (f_12 : sg_F) =>
  spl (α := Int32) (f_12 0 48) fun (v_17 : Int32) =>
  spl2 (sX12_setsAs_0_f9_f7 x1 f_12 L) fun (r_27 : Int32) (f_24 : sg_F) =>
  spl (α := Int32) (f_24 0 48) fun (v_30 : Int32) =>
  spl (α := Int32) (r_27 + 3) fun (v_35 : Int32) =>
  ((v_35 : Int32), f_24)
set_option maxRecDepth 100000 in
noncomputable def sX12_setsAs_7_f8_f7 (x1 : Int32) (f : sg_F) (L : sg_L) : Int32 × sg_F :=
  sX12_setsAs_7_f8_f7_b16 x1 f L
set_option maxRecDepth 100000 in
noncomputable def sX12_slipsAs_7_f6_f7_b36 (x1 : Int32) (fp_36 : sg_F) (L : sg_L) : Int32 × sg_F :=
  spl (α := Int32) (fp_36 0 48) fun (v_2 : Int32) =>
  spl (α := Int32) (fp_36 0 49) fun (v_5 : Int32) =>
  spl (sX12_begins_50_f6 fp_36 L) fun (f_12 : sg_F) =>
  spl (α := Int32) (f_12 0 48) fun (v_17 : Int32) =>
  spl2 (sX12_slipsAs_1_f7_f7 x1 f_12 L) fun (r_27 : Int32) (f_24 : sg_F) =>
  spl (α := Int32) (f_24 0 48) fun (v_30 : Int32) =>
  spl2 (sX12_setsAs_7_f8_f7 2 f_24 L) fun (r_41 : Int32) (f_38 : sg_F) =>
  spl (α := Int32) (f_38 0 48) fun (v_44 : Int32) =>
  spl (α := Int32) (r_27 - r_41) fun (v_50 : Int32) =>
  ((v_50 : Int32), f_38)
set_option maxRecDepth 100000 in
noncomputable def sX12_slipsAs_7_f6_f7 (x1 : Int32) (f : sg_F) (L : sg_L) : Int32 × sg_F :=
  sX12_slipsAs_7_f6_f7_b36 x1 f L
set_option maxRecDepth 100000 in
noncomputable def sX12_sitsAs_7_f2_f7 (x1 : Int32) (f : sg_F) (L : sg_L) : Int32 × sg_F :=
  spl (sX12_begins_80_f2 f L) fun (f_4 : sg_F) =>
  spl (α := Int32) (f_4 0 48) fun (v_9 : Int32) =>
  spl2 (sX12_sitsAs_4_f3_f7 x1 f_4 L) fun (r_19 : Int32) (f_16 : sg_F) =>
  spl (α := Int32) (f_16 0 48) fun (v_22 : Int32) =>
  spl2 (sX12_slipsAs_7_f6_f7 2 f_16 L) fun (r_33 : Int32) (f_30 : sg_F) =>
  spl (α := Int32) (f_30 0 48) fun (v_36 : Int32) =>
  spl (α := Int32) (r_19 + r_33) fun (v_42 : Int32) =>
  ((v_42 : Int32), f_30)
set_option maxRecDepth 100000 in
noncomputable def sX12_begins_50_f10_b19 (fp_19 : sg_F) (L : sg_L) : sg_F :=
  spl (α := Int32) (fp_19 0 48) fun (v_2 : Int32) =>
  spl (α := Int32) (v_2 + 1) fun (v_5 : Int32) =>
  spl (α := sg_F) (sg_up fp_19 0 (sgu (fp_19 0) 48 v_5)) fun (f_7 : sg_F) =>
  (f_7)
set_option maxRecDepth 100000 in
noncomputable def sX12_begins_50_f10 (f : sg_F) (L : sg_L) : sg_F :=
  spl (α := sg_F) (sg_up f 21 (sgu (f 21) 10 50)) fun (f_10 : sg_F) =>
  sX12_begins_50_f10_b19 f_10 L
set_option maxRecDepth 100000 in
noncomputable def sX12_begins_11_f11_b19 (fp_19 : sg_F) (L : sg_L) : sg_F :=
  spl (α := Int32) (fp_19 0 48) fun (v_2 : Int32) =>
  spl (α := Int32) (v_2 + 1) fun (v_5 : Int32) =>
  spl (α := sg_F) (sg_up fp_19 0 (sgu (fp_19 0) 48 v_5)) fun (f_7 : sg_F) =>
  (f_7)
set_option maxRecDepth 100000 in
noncomputable def sX12_begins_11_f11 (f : sg_F) (L : sg_L) : sg_F :=
  spl (α := sg_F) (sg_up f 21 (sgu (f 21) 11 11)) fun (f_10 : sg_F) =>
  sX12_begins_11_f11_b19 f_10 L
set_option maxRecDepth 100000 in
noncomputable def sX12_slipsAs_1_f11_f7 (x1 : Int32) (f : sg_F) (L : sg_L) : Int32 × sg_F :=
  spl (sX12_begins_11_f11 f L) fun (f_4 : sg_F) =>
  spl (α := Int32) (f_4 0 48) fun (v_9 : Int32) =>
  spl (α := Int32) (f_4 0 50) fun (v_13 : Int32) =>
  spl (α := Int32) (x1 ^^^ v_13) fun (v_15 : Int32) =>
  ((v_15 : Int32), f_4)
set_option maxRecDepth 100000 in
noncomputable def sX12_begins_20_f12_b19 (fp_19 : sg_F) (L : sg_L) : sg_F :=
  spl (α := Int32) (fp_19 0 48) fun (v_2 : Int32) =>
  spl (α := Int32) (v_2 + 1) fun (v_5 : Int32) =>
  spl (α := sg_F) (sg_up fp_19 0 (sgu (fp_19 0) 48 v_5)) fun (f_7 : sg_F) =>
  (f_7)
set_option maxRecDepth 100000 in
noncomputable def sX12_begins_20_f12 (f : sg_F) (L : sg_L) : sg_F :=
  spl (α := sg_F) (sg_up f 21 (sgu (f 21) 12 20)) fun (f_10 : sg_F) =>
  sX12_begins_20_f12_b19 f_10 L
set_option maxRecDepth 100000 in
noncomputable def sX12_begins_1_f13_b19 (fp_19 : sg_F) (L : sg_L) : sg_F :=
  spl (α := Int32) (fp_19 0 48) fun (v_2 : Int32) =>
  spl (α := Int32) (v_2 + 1) fun (v_5 : Int32) =>
  spl (α := sg_F) (sg_up fp_19 0 (sgu (fp_19 0) 48 v_5)) fun (f_7 : sg_F) =>
  (f_7)
set_option maxRecDepth 100000 in
noncomputable def sX12_begins_1_f13 (f : sg_F) (L : sg_L) : sg_F :=
  spl (α := sg_F) (sg_up f 21 (sgu (f 21) 13 1)) fun (f_10 : sg_F) =>
  sX12_begins_1_f13_b19 f_10 L
set_option maxRecDepth 100000 in
noncomputable def sX12_setsAs_0_f13_f7 (x1 : Int32) (f : sg_F) (L : sg_L) : Int32 × sg_F :=
  spl (sX12_begins_1_f13 f L) fun (f_4 : sg_F) =>
  spl (α := Int32) (f_4 0 48) fun (v_9 : Int32) =>
  spl (α := Int32) (f_4 0 50) fun (v_13 : Int32) =>
  spl (α := Int32) (x1 + v_13) fun (v_15 : Int32) =>
  ((v_15 : Int32), f_4)
set_option maxRecDepth 100000 in
noncomputable def sX12_setsAs_7_f12_f7_b16 (x1 : Int32) (fp_16 : sg_F) (L : sg_L) : Int32 × sg_F :=
  spl (α := Int32) (fp_16 0 48) fun (v_2 : Int32) =>
  spl (α := Int32) (fp_16 0 49) fun (v_5 : Int32) =>
  spl (sX12_begins_20_f12 fp_16 L) fun (f_12 : sg_F) =>
  spl (α := Int32) (f_12 0 48) fun (v_17 : Int32) =>
  spl2 (sX12_setsAs_0_f13_f7 x1 f_12 L) fun (r_27 : Int32) (f_24 : sg_F) =>
  spl (α := Int32) (f_24 0 48) fun (v_30 : Int32) =>
  spl (α := Int32) (r_27 + 3) fun (v_35 : Int32) =>
  ((v_35 : Int32), f_24)
set_option maxRecDepth 100000 in
noncomputable def sX12_setsAs_7_f12_f7 (x1 : Int32) (f : sg_F) (L : sg_L) : Int32 × sg_F :=
  sX12_setsAs_7_f12_f7_b16 x1 f L
set_option maxRecDepth 100000 in
noncomputable def sX12_slipsAs_7_f10_f7_b36 (x1 : Int32) (fp_36 : sg_F) (L : sg_L) : Int32 × sg_F :=
  spl (α := Int32) (fp_36 0 48) fun (v_2 : Int32) =>
  spl (α := Int32) (fp_36 0 49) fun (v_5 : Int32) =>
  spl (sX12_begins_50_f10 fp_36 L) fun (f_12 : sg_F) =>
  spl (α := Int32) (f_12 0 48) fun (v_17 : Int32) =>
  spl2 (sX12_slipsAs_1_f11_f7 x1 f_12 L) fun (r_27 : Int32) (f_24 : sg_F) =>
  spl (α := Int32) (f_24 0 48) fun (v_30 : Int32) =>
  spl2 (sX12_setsAs_7_f12_f7 2 f_24 L) fun (r_41 : Int32) (f_38 : sg_F) =>
  spl (α := Int32) (f_38 0 48) fun (v_44 : Int32) =>
  spl (α := Int32) (r_27 - r_41) fun (v_50 : Int32) =>
  ((v_50 : Int32), f_38)
set_option maxRecDepth 100000 in
noncomputable def sX12_slipsAs_7_f10_f7 (x1 : Int32) (f : sg_F) (L : sg_L) : Int32 × sg_F :=
  sX12_slipsAs_7_f10_f7_b36 x1 f L
set_option maxRecDepth 100000 in
noncomputable def sX12_tellsAs_4_f1_f7 (x1 : Int32) (f : sg_F) (L : sg_L) : Int32 × sg_F :=
  spl (sX12_begins_2_f1 f L) fun (f_4 : sg_F) =>
  spl (α := Int32) (f_4 0 48) fun (v_9 : Int32) =>
  spl2 (sX12_sitsAs_7_f2_f7 x1 f_4 L) fun (r_19 : Int32) (f_16 : sg_F) =>
  spl (α := Int32) (f_16 0 48) fun (v_22 : Int32) =>
  spl2 (sX12_slipsAs_7_f10_f7 1 f_16 L) fun (r_33 : Int32) (f_30 : sg_F) =>
  spl (α := Int32) (f_30 0 48) fun (v_36 : Int32) =>
  spl (α := Int32) (r_19 - r_33) fun (v_42 : Int32) =>
  ((v_42 : Int32), f_30)
set_option maxRecDepth 100000 in
noncomputable def sX12_tellsAs_7_f0_f7 (x1 : Int32) (f : sg_F) (L : sg_L) : Int32 × sg_F :=
  spl (sX12_begins_81_f0 f L) fun (f_4 : sg_F) =>
  spl (α := Int32) (f_4 0 48) fun (v_9 : Int32) =>
  spl2 (sX12_tellsAs_4_f1_f7 x1 f_4 L) fun (r_19 : Int32) (f_16 : sg_F) =>
  spl (α := Int32) (f_16 0 48) fun (v_22 : Int32) =>
  spl (α := Int32) (r_19 - 1) fun (v_27 : Int32) =>
  ((v_27 : Int32), f_16)
set_option maxRecDepth 100000 in
noncomputable def sX12_act (x0 : Int32) (x1 : Int32) (x2 : Int32) (f : sg_F) (L : sg_L) : Int32 × sg_F :=
  spl (α := sg_F) (sg_up f 0 (sgu (f 0) 48 0)) fun (f_1 : sg_F) =>
  spl (α := Int32) (f_1 0 45) fun (v_2 : Int32) =>
  spl (sX12_isBody x0 f_1 L) fun (r_9 : Int32) =>
  if r_9 = 1 then (
    spl (α := Int32) (f_1 20 (Int32.toNatClampNeg x0)) fun (v_12 : Int32) =>
    spl (α := sg_F) (sg_up f_1 0 (sgu (f_1 0) 49 v_12)) fun (f_14 : sg_F) =>
    spl (α := sg_F) (sg_up f_14 0 (sgu (f_14 0) 50 x0)) fun (f_15 : sg_F) =>
    if x1.toInt = 0 then (
      if v_12.toInt = 0 then (
        spl2 (sX12_setsAs_0_f0_f0 x2 f_15 L) fun (r_25 : Int32) (f_22 : sg_F) =>
        spl (α := Int32) (f_22 0 48) fun (v_28 : Int32) =>
        ((r_25 : Int32), f_22)) else (
        if v_12.toInt = 1 then (
          spl2 (sX12_setsAs_1_f0_f1 x2 f_15 L) fun (r_39 : Int32) (f_36 : sg_F) =>
          spl (α := Int32) (f_36 0 48) fun (v_42 : Int32) =>
          ((r_39 : Int32), f_36)) else (
          if v_12.toInt = 2 then (
            spl2 (sX12_setsAs_2_f0_f2 x2 f_15 L) fun (r_53 : Int32) (f_50 : sg_F) =>
            spl (α := Int32) (f_50 0 48) fun (v_56 : Int32) =>
            ((r_53 : Int32), f_50)) else (
            if v_12.toInt = 3 then (
              spl2 (sX12_setsAs_3_f0_f3 x2 f_15 L) fun (r_67 : Int32) (f_64 : sg_F) =>
              spl (α := Int32) (f_64 0 48) fun (v_70 : Int32) =>
              ((r_67 : Int32), f_64)) else (
              if v_12.toInt = 4 then (
                spl2 (sX12_setsAs_4_f0_f4 x2 f_15 L) fun (r_81 : Int32) (f_78 : sg_F) =>
                spl (α := Int32) (f_78 0 48) fun (v_84 : Int32) =>
                ((r_81 : Int32), f_78)) else (
                if v_12.toInt = 5 then (
                  spl2 (sX12_setsAs_5_f0_f5 x2 f_15 L) fun (r_95 : Int32) (f_92 : sg_F) =>
                  spl (α := Int32) (f_92 0 48) fun (v_98 : Int32) =>
                  ((r_95 : Int32), f_92)) else (
                  if v_12.toInt = 6 then (
                    spl2 (sX12_setsAs_6_f0_f6 x2 f_15 L) fun (r_109 : Int32) (f_106 : sg_F) =>
                    spl (α := Int32) (f_106 0 48) fun (v_112 : Int32) =>
                    ((r_109 : Int32), f_106)) else (
                    spl2 (sX12_setsAs_7_f0_f7 x2 f_15 L) fun (r_123 : Int32) (f_120 : sg_F) =>
                    spl (α := Int32) (f_120 0 48) fun (v_126 : Int32) =>
                    ((r_123 : Int32), f_120))))))))) else (
      if x1.toInt = 1 then (
        if v_12.toInt = 0 then (
          spl2 (sX12_sitsAs_0_f0_f0 x2 f_15 L) fun (r_139 : Int32) (f_136 : sg_F) =>
          spl (α := Int32) (f_136 0 48) fun (v_142 : Int32) =>
          ((r_139 : Int32), f_136)) else (
          if v_12.toInt = 1 then (
            spl2 (sX12_sitsAs_1_f0_f1 x2 f_15 L) fun (r_153 : Int32) (f_150 : sg_F) =>
            spl (α := Int32) (f_150 0 48) fun (v_156 : Int32) =>
            ((r_153 : Int32), f_150)) else (
            if v_12.toInt = 2 then (
              spl2 (sX12_sitsAs_2_f0_f2 x2 f_15 L) fun (r_167 : Int32) (f_164 : sg_F) =>
              spl (α := Int32) (f_164 0 48) fun (v_170 : Int32) =>
              ((r_167 : Int32), f_164)) else (
              if v_12.toInt = 3 then (
                spl2 (sX12_sitsAs_3_f0_f3 x2 f_15 L) fun (r_181 : Int32) (f_178 : sg_F) =>
                spl (α := Int32) (f_178 0 48) fun (v_184 : Int32) =>
                ((r_181 : Int32), f_178)) else (
                if v_12.toInt = 4 then (
                  spl2 (sX12_sitsAs_4_f0_f4 x2 f_15 L) fun (r_195 : Int32) (f_192 : sg_F) =>
                  spl (α := Int32) (f_192 0 48) fun (v_198 : Int32) =>
                  ((r_195 : Int32), f_192)) else (
                  if v_12.toInt = 5 then (
                    spl2 (sX12_sitsAs_5_f0_f5 x2 f_15 L) fun (r_209 : Int32) (f_206 : sg_F) =>
                    spl (α := Int32) (f_206 0 48) fun (v_212 : Int32) =>
                    ((r_209 : Int32), f_206)) else (
                    if v_12.toInt = 6 then (
                      spl2 (sX12_sitsAs_6_f0_f6 x2 f_15 L) fun (r_223 : Int32) (f_220 : sg_F) =>
                      spl (α := Int32) (f_220 0 48) fun (v_226 : Int32) =>
                      ((r_223 : Int32), f_220)) else (
                      spl2 (sX12_sitsAs_7_f0_f7 x2 f_15 L) fun (r_237 : Int32) (f_234 : sg_F) =>
                      spl (α := Int32) (f_234 0 48) fun (v_240 : Int32) =>
                      ((r_237 : Int32), f_234))))))))) else (
        if x1.toInt = 2 then (
          if v_12.toInt = 0 then (
            spl2 (sX12_slipsAs_0_f0_f0 x2 f_15 L) fun (r_253 : Int32) (f_250 : sg_F) =>
            spl (α := Int32) (f_250 0 48) fun (v_256 : Int32) =>
            ((r_253 : Int32), f_250)) else (
            if v_12.toInt = 1 then (
              spl2 (sX12_slipsAs_1_f0_f1 x2 f_15 L) fun (r_267 : Int32) (f_264 : sg_F) =>
              spl (α := Int32) (f_264 0 48) fun (v_270 : Int32) =>
              ((r_267 : Int32), f_264)) else (
              if v_12.toInt = 2 then (
                spl2 (sX12_slipsAs_2_f0_f2 x2 f_15 L) fun (r_281 : Int32) (f_278 : sg_F) =>
                spl (α := Int32) (f_278 0 48) fun (v_284 : Int32) =>
                ((r_281 : Int32), f_278)) else (
                if v_12.toInt = 3 then (
                  spl2 (sX12_slipsAs_3_f0_f3 x2 f_15 L) fun (r_295 : Int32) (f_292 : sg_F) =>
                  spl (α := Int32) (f_292 0 48) fun (v_298 : Int32) =>
                  ((r_295 : Int32), f_292)) else (
                  if v_12.toInt = 4 then (
                    spl2 (sX12_slipsAs_4_f0_f4 x2 f_15 L) fun (r_309 : Int32) (f_306 : sg_F) =>
                    spl (α := Int32) (f_306 0 48) fun (v_312 : Int32) =>
                    ((r_309 : Int32), f_306)) else (
                    if v_12.toInt = 5 then (
                      spl2 (sX12_slipsAs_5_f0_f5 x2 f_15 L) fun (r_323 : Int32) (f_320 : sg_F) =>
                      spl (α := Int32) (f_320 0 48) fun (v_326 : Int32) =>
                      ((r_323 : Int32), f_320)) else (
                      if v_12.toInt = 6 then (
                        spl2 (sX12_slipsAs_6_f0_f6 x2 f_15 L) fun (r_337 : Int32) (f_334 : sg_F) =>
                        spl (α := Int32) (f_334 0 48) fun (v_340 : Int32) =>
                        ((r_337 : Int32), f_334)) else (
                        spl2 (sX12_slipsAs_7_f0_f7 x2 f_15 L) fun (r_351 : Int32) (f_348 : sg_F) =>
                        spl (α := Int32) (f_348 0 48) fun (v_354 : Int32) =>
                        ((r_351 : Int32), f_348))))))))) else (
          if x1.toInt = 3 then (
            if v_12.toInt = 0 then (
              spl2 (sX12_tellsAs_0_f0_f0 x2 f_15 L) fun (r_367 : Int32) (f_364 : sg_F) =>
              spl (α := Int32) (f_364 0 48) fun (v_370 : Int32) =>
              ((r_367 : Int32), f_364)) else (
              if v_12.toInt = 1 then (
                spl2 (sX12_tellsAs_1_f0_f1 x2 f_15 L) fun (r_381 : Int32) (f_378 : sg_F) =>
                spl (α := Int32) (f_378 0 48) fun (v_384 : Int32) =>
                ((r_381 : Int32), f_378)) else (
                if v_12.toInt = 2 then (
                  spl2 (sX12_tellsAs_2_f0_f2 x2 f_15 L) fun (r_395 : Int32) (f_392 : sg_F) =>
                  spl (α := Int32) (f_392 0 48) fun (v_398 : Int32) =>
                  ((r_395 : Int32), f_392)) else (
                  if v_12.toInt = 3 then (
                    spl2 (sX12_tellsAs_3_f0_f3 x2 f_15 L) fun (r_409 : Int32) (f_406 : sg_F) =>
                    spl (α := Int32) (f_406 0 48) fun (v_412 : Int32) =>
                    ((r_409 : Int32), f_406)) else (
                    if v_12.toInt = 4 then (
                      spl2 (sX12_tellsAs_4_f0_f4 x2 f_15 L) fun (r_423 : Int32) (f_420 : sg_F) =>
                      spl (α := Int32) (f_420 0 48) fun (v_426 : Int32) =>
                      ((r_423 : Int32), f_420)) else (
                      if v_12.toInt = 5 then (
                        spl2 (sX12_tellsAs_5_f0_f5 x2 f_15 L) fun (r_437 : Int32) (f_434 : sg_F) =>
                        spl (α := Int32) (f_434 0 48) fun (v_440 : Int32) =>
                        ((r_437 : Int32), f_434)) else (
                        if v_12.toInt = 6 then (
                          spl2 (sX12_tellsAs_6_f0_f6 x2 f_15 L) fun (r_451 : Int32) (f_448 : sg_F) =>
                          spl (α := Int32) (f_448 0 48) fun (v_454 : Int32) =>
                          ((r_451 : Int32), f_448)) else (
                          spl2 (sX12_tellsAs_7_f0_f7 x2 f_15 L) fun (r_465 : Int32) (f_462 : sg_F) =>
                          spl (α := Int32) (f_462 0 48) fun (v_468 : Int32) =>
                          ((r_465 : Int32), f_462))))))))) else (
            ((0 : Int32), f_15)))))) else (
    ((0 : Int32), f_1))
set_option maxRecDepth 100000 in
noncomputable def sX12_trace (x0 : Int32) (f : sg_F) (L : sg_L) : Int32 :=
  if x0.toInt < 0 then (
    (((-1) : Int32))) else (
    spl (α := Int32) (f 0 48) fun (v_3 : Int32) =>
    if x0.toInt < v_3.toInt then (
      spl (α := Int32) (f 21 (Int32.toNatClampNeg x0)) fun (v_9 : Int32) =>
      ((v_9 : Int32))) else (
      (((-1) : Int32))))
set_option maxRecDepth 100000 in
noncomputable def sX12_keep_b22 (x0 : Int32) (x1 : Int32) (fp_22 : sg_F) (L : sg_L) : Int32 × sg_F :=
  spl (α := sg_F) (sg_up fp_22 22 (sgu (fp_22 22) (Int32.toNatClampNeg x0) x1)) fun (f_1 : sg_F) =>
  spl (α := sg_F) (sg_up f_1 23 (sgu (f_1 23) (Int32.toNatClampNeg x0) 0)) fun (f_2 : sg_F) =>
  ((1 : Int32), f_2)
set_option maxRecDepth 100000 in
noncomputable def sX12_keep (x0 : Int32) (x1 : Int32) (f : sg_F) (L : sg_L) : Int32 × sg_F :=
  spl (sX12_isShelf x0 f L) fun (r_6 : Int32) =>
  if r_6 = 1 then (
    if x1.toInt = (-1) then (
      sX12_keep_b22 x0 x1 f L) else (
      spl (α := Int32) (f 0 45) fun (v_11 : Int32) =>
      spl (sX12_isBody x1 f L) fun (r_18 : Int32) =>
      if r_18 = 1 then (
        sX12_keep_b22 x0 x1 f L) else (
        (((-1) : Int32), f)))) else (
    (((-1) : Int32), f))
set_option maxRecDepth 100000 in
noncomputable def sX12_row_h57 (x0 : Int32) (x1 : Int32) (x2 : Int32) (rec_57 : Int32 → sg_F → sg_L → Int32 × sg_F × sg_L) (y4_57 : Int32) (fp_57 : sg_F) (Lp_57 : sg_L) : Int32 × sg_F × sg_L :=
  spl (α := Int32) (60 * x0) fun (v_1 : Int32) =>
  spl (α := Int32) (v_1 + 60) fun (v_3 : Int32) =>
  if y4_57.toInt < v_3.toInt then (
    spl (α := sg_L) (sg_up Lp_57 24 (sgu (Lp_57 24) (y4_57 : Int32).toNatClampNeg 0)) fun (L_7 : sg_L) =>
    spl (α := Int32) (y4_57 + 1) fun (v_8 : Int32) =>
    rec_57 v_8 fp_57 L_7) else (
    ((1 : Int32), fp_57, Lp_57))
set_option maxRecDepth 100000 in
noncomputable def sX12_row_l57 (x0 : Int32) (x1 : Int32) (x2 : Int32) (n : Nat) : Int32 → sg_F → sg_L → Int32 × sg_F × sg_L :=
  Nat.rec (motive := fun _ => Int32 → sg_F → sg_L → Int32 × sg_F × sg_L) (fun _ f L => ((0 : Int32), f, L)) (fun _ r => sX12_row_h57 x0 x1 x2 r) n
set_option maxRecDepth 100000 in
noncomputable def sX12_row (x0 : Int32) (x1 : Int32) (x2 : Int32) (f : sg_F) (L : sg_L) : Int32 × sg_F × sg_L :=
  spl (sX12_isShelf x0 f L) fun (r_13 : Int32) =>
  if r_13 = 1 then (
    spl (α := Int64) (Int32.toInt64 x1) fun (w_16 : Int64) =>
    spl (sX12_within w_16 0 4 f L) fun (r_21 : Int32) =>
    if r_21 = 1 then (
      if 60 < x2.toInt then (
        (((-1) : Int32), f, L)) else (
        if x2.toInt < 0 then (
          (((-14) : Int32), f, L)) else (
          spl (α := Int32) (50 + x1) fun (v_30 : Int32) =>
          spl (α := sg_F) (sg_up f 22 (sgu (f 22) (Int32.toNatClampNeg x0) v_30)) fun (f_32 : sg_F) =>
          spl (α := sg_F) (sg_up f_32 23 (sgu (f_32 23) (Int32.toNatClampNeg x0) x2)) fun (f_33 : sg_F) =>
          spl (α := Int32) (60 * x0) fun (v_34 : Int32) =>
          sX12_row_l57 x0 x1 x2 361 v_34 f_33 L))) else (
      (((-1) : Int32), f, L))) else (
    (((-1) : Int32), f, L))
set_option maxRecDepth 100000 in
noncomputable def sX12_refusal (x0 : Int32) (x1 : Int32) (f : sg_F) (L : sg_L) : Int32 :=
  spl (sX12_isShelf x0 f L) fun (r_4 : Int32) =>
  if r_4 = 1 then (
    spl (α := Int32) (f 22 (Int32.toNatClampNeg x0)) fun (v_7 : Int32) =>
    if v_7.toInt < 0 then (
      (((-11) : Int32))) else (
      if v_7.toInt < 50 then (
        (((-12) : Int32))) else (
        if x1.toInt < 0 then (
          (((-13) : Int32))) else (
          spl (α := Int32) (f 23 (Int32.toNatClampNeg x0)) fun (v_15 : Int32) =>
          if x1.toInt < v_15.toInt then (
            ((0 : Int32))) else (
            (((-13) : Int32))))))) else (
    (((-1) : Int32)))
set_option maxRecDepth 100000 in
noncomputable def sX12_asSort (x0 : Int32) (x1 : Int64) (f : sg_F) (L : sg_L) : Int64 :=
  if x0.toInt = 0 then (
    spl (α := Int32) (Int64.toInt32 x1) fun (v_20 : Int32) =>
    spl (α := Int32) ((Int32.toInt8 v_20).toInt32) fun (v_21 : Int32) =>
    spl (α := Int64) (Int32.toInt64 v_21) fun (w_22 : Int64) =>
    ((w_22 : Int64))) else (
    if x0.toInt = 1 then (
      spl (α := Int32) (Int64.toInt32 x1) fun (v_16 : Int32) =>
      spl (α := Int32) ((Int32.toInt16 v_16).toInt32) fun (v_17 : Int32) =>
      spl (α := Int64) (Int32.toInt64 v_17) fun (w_18 : Int64) =>
      ((w_18 : Int64))) else (
      if x0.toInt = 2 then (
        spl (α := Int32) (Int64.toInt32 x1) fun (v_13 : Int32) =>
        spl (α := Int64) (Int32.toInt64 v_13) fun (w_14 : Int64) =>
        ((w_14 : Int64))) else (
        if x0.toInt = 4 then (
          spl (α := Int32) (lg_cmp (x1 : Int64) (0 : Int64)) fun (v_9 : Int32) =>
          if v_9.toInt = 0 then (
            ((0 : Int64))) else (
            ((1 : Int64)))) else (
          ((x1 : Int64))))))
set_option maxRecDepth 100000 in
noncomputable def sX12_put_b37 (x0 : Int32) (x1 : Int32) (x2 : Int64) (y5_37 : Int32) (f : sg_F) (Lp_37 : sg_L) : Int32 × sg_L :=
  if y5_37.toInt = 0 then (
    ((1 : Int32), Lp_37)) else (
    ((y5_37 : Int32), Lp_37))
set_option maxRecDepth 100000 in
noncomputable def sX12_put (x0 : Int32) (x1 : Int32) (x2 : Int64) (f : sg_F) (L : sg_L) : Int32 × sg_L :=
  spl (sX12_refusal x0 x1 f L) fun (r_6 : Int32) =>
  if r_6 = 0 then (
    spl (α := Int32) (60 * x0) fun (v_9 : Int32) =>
    spl (α := Int32) (v_9 + x1) fun (v_11 : Int32) =>
    spl (α := Int32) (f 22 (Int32.toNatClampNeg x0)) fun (v_13 : Int32) =>
    spl (α := Int32) (v_13 - 50) fun (v_15 : Int32) =>
    spl (sX12_asSort v_15 x2 f L) fun (r_20 : Int64) =>
    spl (α := sg_L) (sg_up L 24 (sgu (L 24) (v_11 : Int32).toNatClampNeg r_20)) fun (L_22 : sg_L) =>
    sX12_put_b37 x0 x1 x2 0 f L_22) else (
    sX12_put_b37 x0 x1 x2 r_6 f L)
set_option maxRecDepth 100000 in
noncomputable def sX12_element (x0 : Int32) (x1 : Int32) (f : sg_F) (L : sg_L) : Int64 :=
  spl (sX12_refusal x0 x1 f L) fun (r_4 : Int32) =>
  if r_4 = 0 then (
    spl (α := Int32) (60 * x0) fun (v_7 : Int32) =>
    spl (α := Int32) (v_7 + x1) fun (v_9 : Int32) =>
    spl (α := Int64) (L 24 (Int32.toNatClampNeg v_9)) fun (w_11 : Int64) =>
    ((w_11 : Int64))) else (
    (((-9223372036854775808) : Int64)))
set_option maxRecDepth 100000 in
noncomputable def sX12_shift_h150 (x0 : Int32) (x1 : Int32) (x2 : Int32) (x3 : Int32) (x4 : Int32) (rec_150 : Int32 → sg_F → sg_L → Int32 × sg_L) (y6_150 : Int32) (f : sg_F) (Lp_150 : sg_L) : Int32 × sg_L :=
  if y6_150.toInt < x4.toInt then (
    spl (α := Int32) (60 * x2) fun (v_3 : Int32) =>
    spl (α := Int32) (v_3 + x3) fun (v_5 : Int32) =>
    spl (α := Int32) (v_5 + y6_150) fun (v_7 : Int32) =>
    spl (α := Int64) (Lp_150 25 (Int32.toNatClampNeg y6_150)) fun (w_9 : Int64) =>
    spl (α := sg_L) (sg_up Lp_150 24 (sgu (Lp_150 24) (v_7 : Int32).toNatClampNeg w_9)) fun (L_10 : sg_L) =>
    spl (α := Int32) (y6_150 + 1) fun (v_11 : Int32) =>
    rec_150 v_11 f L_10) else (
    ((x4 : Int32), Lp_150))
set_option maxRecDepth 100000 in
noncomputable def sX12_shift_l150 (x0 : Int32) (x1 : Int32) (x2 : Int32) (x3 : Int32) (x4 : Int32) (n : Nat) : Int32 → sg_F → sg_L → Int32 × sg_L :=
  Nat.rec (motive := fun _ => Int32 → sg_F → sg_L → Int32 × sg_L) (fun _ f L => ((0 : Int32), L)) (fun _ r => sX12_shift_h150 x0 x1 x2 x3 x4 r) n
set_option maxRecDepth 100000 in
noncomputable def sX12_shift_h113 (x0 : Int32) (x1 : Int32) (x2 : Int32) (x3 : Int32) (x4 : Int32) (rec_113 : Int32 → sg_F → sg_L → Int32 × sg_L) (y6_113 : Int32) (f : sg_F) (Lp_113 : sg_L) : Int32 × sg_L :=
  if y6_113.toInt < x4.toInt then (
    spl (α := Int32) (60 * x0) fun (v_15 : Int32) =>
    spl (α := Int32) (v_15 + x1) fun (v_17 : Int32) =>
    spl (α := Int32) (v_17 + y6_113) fun (v_19 : Int32) =>
    spl (α := Int64) (Lp_113 24 (Int32.toNatClampNeg v_19)) fun (w_21 : Int64) =>
    spl (α := sg_L) (sg_up Lp_113 25 (sgu (Lp_113 25) (y6_113 : Int32).toNatClampNeg w_21)) fun (L_22 : sg_L) =>
    spl (α := Int32) (y6_113 + 1) fun (v_23 : Int32) =>
    rec_113 v_23 f L_22) else (
    sX12_shift_l150 x0 x1 x2 x3 x4 61 0 f Lp_113)
set_option maxRecDepth 100000 in
noncomputable def sX12_shift_l113 (x0 : Int32) (x1 : Int32) (x2 : Int32) (x3 : Int32) (x4 : Int32) (n : Nat) : Int32 → sg_F → sg_L → Int32 × sg_L :=
  Nat.rec (motive := fun _ => Int32 → sg_F → sg_L → Int32 × sg_L) (fun _ f L => ((0 : Int32), L)) (fun _ r => sX12_shift_h113 x0 x1 x2 x3 x4 r) n
set_option maxRecDepth 100000 in
noncomputable def sX12_shift (x0 : Int32) (x1 : Int32) (x2 : Int32) (x3 : Int32) (x4 : Int32) (f : sg_F) (L : sg_L) : Int32 × sg_L :=
  spl (sX12_isShelf x0 f L) fun (r_28 : Int32) =>
  if r_28 = 1 then (
    spl (sX12_isShelf x2 f L) fun (r_34 : Int32) =>
    if r_34 = 1 then (
      spl (α := Int32) (f 22 (Int32.toNatClampNeg x0)) fun (v_37 : Int32) =>
      if v_37.toInt < 0 then (
        (((-11) : Int32), L)) else (
        spl (α := Int32) (f 22 (Int32.toNatClampNeg x2)) fun (v_41 : Int32) =>
        if v_41.toInt < 0 then (
          (((-11) : Int32), L)) else (
          if v_37.toInt < 50 then (
            (((-12) : Int32), L)) else (
            if v_37.toInt = v_41.toInt then (
              if x4.toInt < 0 then (
                (((-13) : Int32), L)) else (
                if x1.toInt < 0 then (
                  (((-13) : Int32), L)) else (
                  if x3.toInt < 0 then (
                    (((-13) : Int32), L)) else (
                    spl (α := Int32) (f 23 (Int32.toNatClampNeg x0)) fun (v_55 : Int32) =>
                    spl (α := Int32) (v_55 - x4) fun (v_57 : Int32) =>
                    if v_57.toInt < x1.toInt then (
                      (((-13) : Int32), L)) else (
                      spl (α := Int32) (f 23 (Int32.toNatClampNeg x2)) fun (v_61 : Int32) =>
                      spl (α := Int32) (v_61 - x4) fun (v_63 : Int32) =>
                      if v_63.toInt < x3.toInt then (
                        (((-13) : Int32), L)) else (
                        sX12_shift_l113 x0 x1 x2 x3 x4 61 0 f L)))))) else (
              (((-12) : Int32), L)))))) else (
      (((-1) : Int32), L))) else (
    (((-1) : Int32), L))
set_option maxRecDepth 100000 in
noncomputable def sX12_kindOf (x0 : Int32) (f : sg_F) (L : sg_L) : Int32 :=
  spl (α := Int32) (f 20 (Int32.toNatClampNeg x0)) fun (v_1 : Int32) =>
  ((v_1 : Int32))
set_option maxRecDepth 100000 in
noncomputable def sX12_above (x0 : Int32) (f : sg_F) (L : sg_L) : Int32 :=
  if x0.toInt = 3 then (
    ((2 : Int32))) else (
    if x0.toInt = 4 then (
      ((1 : Int32))) else (
      if x0.toInt = 5 then (
        ((3 : Int32))) else (
        if x0.toInt = 7 then (
          ((4 : Int32))) else (
          ((0 : Int32))))))
set_option maxRecDepth 100000 in
noncomputable def sX12_taken_b75 (x0 : Int32) (x1 : Int32) (y3_75 : Int32) (f : sg_F) (L : sg_L) : Int32 :=
  if y3_75.toInt = x1.toInt then (
    spl (α := Int32) (f 22 (Int32.toNatClampNeg x0)) fun (v_3 : Int32) =>
    spl (sX12_kindOf v_3 f L) fun (r_9 : Int32) =>
    ((r_9 : Int32))) else (
    (((-12) : Int32)))
set_option maxRecDepth 100000 in
noncomputable def sX12_taken_h58 (x0 : Int32) (x1 : Int32) (rec_58 : Int32 → sg_F → sg_L → Int32) (y3_58 : Int32) (f : sg_F) (L : sg_L) : Int32 :=
  if y3_58.toInt = x1.toInt then (
    sX12_taken_b75 x0 x1 y3_58 f L) else (
    if 0 < y3_58.toInt then (
      spl (sX12_above y3_58 f L) fun (r_18 : Int32) =>
      rec_58 r_18 f L) else (
      sX12_taken_b75 x0 x1 y3_58 f L))
set_option maxRecDepth 100000 in
noncomputable def sX12_taken_l58 (x0 : Int32) (x1 : Int32) (n : Nat) : Int32 → sg_F → sg_L → Int32 :=
  Nat.rec (motive := fun _ => Int32 → sg_F → sg_L → Int32) (fun _ f L => ((0 : Int32))) (fun _ r => sX12_taken_h58 x0 x1 r) n
set_option maxRecDepth 100000 in
noncomputable def sX12_taken (x0 : Int32) (x1 : Int32) (f : sg_F) (L : sg_L) : Int32 :=
  spl (sX12_isShelf x0 f L) fun (r_24 : Int32) =>
  if r_24 = 1 then (
    spl (α := Int64) (Int32.toInt64 x1) fun (w_27 : Int64) =>
    spl (sX12_within w_27 0 7 f L) fun (r_32 : Int32) =>
    if r_32 = 1 then (
      spl (α := Int32) (f 22 (Int32.toNatClampNeg x0)) fun (v_37 : Int32) =>
      if v_37.toInt < 0 then (
        (((-11) : Int32))) else (
        if v_37.toInt < 50 then (
          spl (sX12_kindOf v_37 f L) fun (r_49 : Int32) =>
          sX12_taken_l58 x0 x1 8 r_49 f L) else (
          (((-12) : Int32))))) else (
      (((-1) : Int32)))) else (
    (((-1) : Int32)))
set_option maxRecDepth 100000 in
noncomputable def sX12_count (x0 : Int32) (f : sg_F) (L : sg_L) : Int32 :=
  if x0.toInt = 0 then (
    spl (α := Int32) (f 0 6) fun (v_3 : Int32) =>
    ((v_3 : Int32))) else (
    if x0.toInt = 1 then (
      spl (α := Int32) (f 0 9) fun (v_6 : Int32) =>
      ((v_6 : Int32))) else (
      if x0.toInt = 2 then (
        spl (α := Int32) (f 0 5) fun (v_9 : Int32) =>
        ((v_9 : Int32))) else (
        if x0.toInt = 3 then (
          spl (α := Int32) (f 0 45) fun (v_12 : Int32) =>
          ((v_12 : Int32))) else (
          if x0.toInt = 4 then (
            spl (α := Int32) (f 0 48) fun (v_15 : Int32) =>
            ((v_15 : Int32))) else (
            (((-1) : Int32)))))))
