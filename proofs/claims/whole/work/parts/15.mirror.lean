def J9_floorDiv_f86c9 (F : Nat) (p1 : Int64) (p2 : Int64) : Option Int64 :=
  (if ¬ p2 = 0 then
  bnd ((p1 / p2) : Int64) fun x4 =>
  (if 0 ≤ (p1 ^^^ p2) then
    some x4
  else
    (if (x4 * p2) = p1 then
      some x4
    else
      some (x4 - 1))) else none)
def X0_length (F : Nat) (zn : zN) : Option Int32 :=
  some zn.2
def X0_has (F : Nat) (N : Nat) (zn : zN) (p1 : Int32) : Option Int32 :=
  (if p1 < 0 then
    some 0
  else
    (if zn.2 ≤ p1 then
      some 0
    else
      (if (nI N) ≤ p1 then
        some 0
      else
        some 1)))
def X0_at (F : Nat) (N : Nat) (zn : zN) (p1 : Int32) : Option Int32 :=
  Option.bind (X0_has F N zn p1) fun r2 =>
  (if r2 = 0 then
    some 0
  else
    (if ¬ (p1 < 0 ∨ N ≤ (Int32.toNatClampNeg p1)) then
    some (zn.1 (Int32.toNatClampNeg p1)) else none))
def X0_put (F : Nat) (N : Nat) (zn : zN) (p1 : Int32) (p2 : Int32) : Option zN :=
  Option.bind (X0_has F N zn p1) fun r2 =>
  (if r2 = 0 then
    some zn
  else
    (if ¬ (p1 < 0 ∨ N ≤ (Int32.toNatClampNeg p1)) then
    some ((upd zn.1 (Int32.toNatClampNeg p1) p2), zn.2) else none))
def X0_push (F : Nat) (N : Nat) (zn : zN) (p1 : Int32) : Option zN :=
  (if zn.2 < 0 then
    some zn
  else
    (if (nI N) ≤ zn.2 then
      some zn
    else
      (if ¬ (zn.2 < 0 ∨ N ≤ (Int32.toNatClampNeg zn.2)) then
      some ((upd zn.1 (Int32.toNatClampNeg zn.2) p1), (zn.2 + 1)) else none)))
def X0_clear (F : Nat) (zn : zN) : Option zN :=
  some (zn.1, 0)
def X0_squeezeIn_L12 (p1 : Int32) (N : Nat) (F : Nat) : Nat → Int32 → zN → Option (zN)
  | 0, _, _ => none
  | n + 1, x3_1, znl12 =>
    (if x3_1 ≤ p1 then
      some znl12
    else
      Option.bind (X0_at F N znl12 (x3_1 - 1)) fun r23 =>
      Option.bind (X0_put F N znl12 x3_1 r23) fun zn26 =>
      bnd (x3_1 + (-1) : Int32) fun x3_2 =>
      X0_squeezeIn_L12 p1 N F n x3_2 zn26)
def X0_squeezeIn (F : Nat) (N : Nat) (zn : zN) (p1 : Int32) (p2 : Int32) : Option zN :=
  Option.bind (X0_push F N zn p2) fun zn2 =>
  bnd ((zn2.2 - 1) : Int32) fun x3 =>
  Option.bind (X0_squeezeIn_L12 p1 N F F x3 zn2) fun znx12 =>
  Option.bind (X0_put F N znx12 p1 p2) fun zn38 =>
  some zn38
def X0_takeOut_L10 (N : Nat) (F : Nat) : Nat → Int32 → zN → Option (zN)
  | 0, _, _ => none
  | n + 1, x2, znl10 =>
    (if (znl10.2 - 1) ≤ x2 then
      some znl10
    else
      Option.bind (X0_at F N znl10 (x2 + 1)) fun r26 =>
      Option.bind (X0_put F N znl10 x2 r26) fun zn29 =>
      bnd (x2 + 1 : Int32) fun x2_1 =>
      X0_takeOut_L10 N F n x2_1 zn29)
def X0_takeOut (F : Nat) (N : Nat) (zn : zN) (p1 : Int32) : Option zN :=
  Option.bind (X0_has F N zn p1) fun r2 =>
  (if r2 = 0 then
    some zn
  else
    Option.bind (X0_takeOut_L10 N F F p1 zn) fun znx10 =>
    some (znx10.1, (znx10.2 - 1)))
def X0_below_L10 (p1 : Int32) (zn : zN) (N : Nat) (F : Nat) : Nat → Int32 → Int32 → Int32 → Option (Int32)
  | 0, _, _, _ => none
  | n + 1, x4, x3, x2 =>
    (if 64 ≤ x4 then
      some x2
    else
      (if x3 ≤ x2 then
        some x2
      else
        bnd (((x2 + x3) / 2) : Int32) fun x5 =>
        Option.bind (X0_at F N zn x5) fun r32 =>
        (if p1 ≤ r32 then
          bnd (x4 + 1 : Int32) fun x4_1 =>
          X0_below_L10 p1 zn N F n x4_1 x5 x2
        else
          bnd ((x5 + 1) : Int32) fun x2_1 =>
          bnd (x4 + 1 : Int32) fun x4_2 =>
          X0_below_L10 p1 zn N F n x4_2 x3 x2_1)))
def X0_below (F : Nat) (N : Nat) (zn : zN) (p1 : Int32) : Option Int32 :=
  Option.bind (X0_below_L10 p1 zn N F F 0 zn.2 0) fun x2_2 =>
  some x2_2
def X0_indexOf (F : Nat) (N : Nat) (zn : zN) (p1 : Int32) : Option Int32 :=
  Option.bind (X0_below F N zn p1) fun r2 =>
  Option.bind (X0_has F N zn r2) fun r8 =>
  (if r8 = 0 then
    some (-1)
  else
    (if ¬ (r2 < 0 ∨ N ≤ (Int32.toNatClampNeg r2)) then
    (if (zn.1 (Int32.toNatClampNeg r2)) = p1 then
      some r2
    else
      some (-1)) else none))
def X1_begin (F : Nat) (zt : zT) (p1 : Int32) (p2 : Int32) (p3 : Int32) : Option zT :=
  some (p1, p2, p3, 0, 1, 1, 0)
def X1_take (F : Nat) (zt : zT) (p1 : Int32) (p2 : Int32) : Option (Int32 × zT) :=
  bnd (((Int32.toInt64 p1) - (Int32.toInt64 zt.1)) : Int64) fun x3 =>
  bnd ((((Int32.toInt64 p2) - (Int32.toInt64 zt.2.1)) - (Int32.toInt64 zt.2.2.1)) : Int64) fun x5 =>
  bnd ((x5 + (2 * (Int32.toInt64 zt.2.2.1))) : Int64) fun x7 =>
  bnd ((if (x5 * zt.2.2.2.2.1) ≤ (zt.2.2.2.1 * x3) then 0 else 1) : Int32) fun y61 =>
  bnd ((if (zt.2.2.2.2.2.1 * x3) ≤ (x7 * zt.2.2.2.2.2.2) then 0 else 1) : Int32) fun y85 =>
  (if y61 = 0 then
    (if y85 = 0 then
      Option.bind (α := zT) (
        (if y61 = 0 then
          some zt
        else
          some (zt.1, zt.2.1, zt.2.2.1, x5, x3, zt.2.2.2.2.2.1, zt.2.2.2.2.2.2))) fun ztj149 =>
      (if y85 = 0 then
        some (1, ztj149)
      else
        some (1, (ztj149.1, ztj149.2.1, ztj149.2.2.1, ztj149.2.2.2.1, ztj149.2.2.2.2.1, x7, x3)))
    else
      (if (zt.2.2.2.1 * x3) ≤ (x7 * zt.2.2.2.2.1) then
        Option.bind (α := zT) (
          (if y61 = 0 then
            some zt
          else
            some (zt.1, zt.2.1, zt.2.2.1, x5, x3, zt.2.2.2.2.2.1, zt.2.2.2.2.2.2))) fun ztj149_1 =>
        (if y85 = 0 then
          some (1, ztj149_1)
        else
          some (1, (ztj149_1.1, ztj149_1.2.1, ztj149_1.2.2.1, ztj149_1.2.2.2.1, ztj149_1.2.2.2.2.1, x7, x3)))
      else
        some (0, zt)))
  else
    (if (zt.2.2.2.2.2.1 * x3) < (x5 * zt.2.2.2.2.2.2) then
      some (0, zt)
    else
      (if y85 = 0 then
        Option.bind (α := zT) (
          (if y61 = 0 then
            some zt
          else
            some (zt.1, zt.2.1, zt.2.2.1, x5, x3, zt.2.2.2.2.2.1, zt.2.2.2.2.2.2))) fun ztj149_2 =>
        (if y85 = 0 then
          some (1, ztj149_2)
        else
          some (1, (ztj149_2.1, ztj149_2.2.1, ztj149_2.2.2.1, ztj149_2.2.2.2.1, ztj149_2.2.2.2.2.1, x7, x3)))
      else
        (if (zt.2.2.2.1 * x3) ≤ (x7 * zt.2.2.2.2.1) then
          Option.bind (α := zT) (
            (if y61 = 0 then
              some zt
            else
              some (zt.1, zt.2.1, zt.2.2.1, x5, x3, zt.2.2.2.2.2.1, zt.2.2.2.2.2.2))) fun ztj149_3 =>
          (if y85 = 0 then
            some (1, ztj149_3)
          else
            some (1, (ztj149_3.1, ztj149_3.2.1, ztj149_3.2.2.1, ztj149_3.2.2.2.1, ztj149_3.2.2.2.2.1, x7, x3)))
        else
          some (0, zt)))))
def X1_divisor_L13 : Nat → Int32 → Int64 → Int64 → Option (Int64)
  | 0, _, _, _ => none
  | n + 1, x5, x3, x1 =>
    (if 64 ≤ x5 then
      some x1
    else
      (if x3 = 0 then
        some x1
      else
        (if ¬ x3 = 0 then
        bnd ((x1 - x1 / x3 * x3) : Int64) fun x6 =>
        bnd (x5 + 1 : Int32) fun x5_1 =>
        X1_divisor_L13 n x5_1 x6 x3 else none)))
def X1_divisor (F : Nat) (zt : zT) : Option Int64 :=
  Option.bind (X1_divisor_L13 F 0 zt.2.2.2.1 zt.2.2.2.2.1) fun x1_1 =>
  (if 1 ≤ x1_1 then
    some x1_1
  else
    some 1)
def X1_leastRise (F : Nat) (zt : zT) : Option Int32 :=
  Option.bind (X1_divisor F zt) fun r5 =>
  (if ¬ r5 = 0 then
  some (Int64.toInt32 (zt.2.2.2.1 / r5)) else none)
def X1_leastRun (F : Nat) (zt : zT) : Option Int32 :=
  Option.bind (X1_divisor F zt) fun r5 =>
  (if ¬ r5 = 0 then
  some (Int64.toInt32 (zt.2.2.2.2.1 / r5)) else none)
def X3_thrown (F : Nat) (yth : Int32) : Option Int32 :=
  some yth
def X3_isKey (F : Nat) (p1 : Int32) : Option Int32 :=
  (if p1 < (-1000000) then
    some 0
  else
    (if 1000000 < p1 then
      some 0
    else
      some 1))
def X3_behind (F : Nat) (yrm : Int32) (yst : Nat → Int32) (ypc : Int32) (p1 : Int32) : Option Int32 :=
  (if ypc ≤ (p1 + 1) then
    some yrm
  else
    (if ¬ ((p1 + 1) < 0 ∨ 257 ≤ (Int32.toNatClampNeg (p1 + 1))) then
    some (yst (Int32.toNatClampNeg (p1 + 1))) else none))
def X3_common_L6 : Nat → Int64 → Int64 → Option (Int64)
  | 0, _, _ => none
  | n + 1, x6, x4 =>
    (if x6 ≤ 0 then
      some x4
    else
      (if ¬ x6 = 0 then
      bnd ((x4 - x4 / x6 * x6) : Int64) fun x8 =>
      X3_common_L6 n x8 x6 else none))
def X3_common (F : Nat) (p1 : Int64) (p2 : Int64) : Option Int64 :=
  Option.bind (X3_common_L6 F p2 p1) fun x4_1 =>
  some x4_1
def X3_fits_row_L21 (p2 : Int32) (p3 : Int32) (ybd : Int32) (yrow : Nat → Int32) : Nat → Int32 → Int64 → Int64 → Int64 → Int64 → Option (Int64 × Int64 × Int64 × Int64)
  | 0, _, _, _, _, _ => none
  | n + 1, x8_1, x6, x4, yupl21, yunl21 =>
    (if p3 ≤ x8_1 then
      some (x6, x4, yupl21, yunl21)
    else
      (if ¬ (x8_1 < 0 ∨ 256 ≤ (Int32.toNatClampNeg x8_1)) then
      (if ¬ (p2 < 0 ∨ 256 ≤ (Int32.toNatClampNeg p2)) then
      bnd (((Int32.toInt64 (yrow (Int32.toNatClampNeg x8_1))) - (Int32.toInt64 (yrow (Int32.toNatClampNeg p2)))) : Int64) fun x9 =>
      bnd ((Int32.toInt64 (x8_1 - p2)) : Int64) fun x11 =>
      Option.bind (α := Int64 × Int64) (
        (if ((x11 - (Int32.toInt64 ybd)) * yunl21) ≤ (yupl21 * x9) then
          some (yupl21, yunl21)
        else
          some ((x11 - (Int32.toInt64 ybd)), x9))) fun (yupj88, yunj88) =>
      (if x6 = 0 then
        bnd ((x11 + (Int32.toInt64 ybd)) : Int64) fun x4_1 =>
        bnd (x8_1 + 1 : Int32) fun x8_2 =>
        X3_fits_row_L21 p2 p3 ybd yrow n x8_2 x9 x4_1 yupj88 yunj88
      else
        (if (x4 * x9) ≤ ((x11 + (Int32.toInt64 ybd)) * x6) then
          bnd (x8_1 + 1 : Int32) fun x8_3 =>
          X3_fits_row_L21 p2 p3 ybd yrow n x8_3 x6 x4 yupj88 yunj88
        else
          bnd ((x11 + (Int32.toInt64 ybd)) : Int64) fun x4_2 =>
          bnd (x8_1 + 1 : Int32) fun x8_4 =>
          X3_fits_row_L21 p2 p3 ybd yrow n x8_4 x9 x4_2 yupj88 yunj88)) else none) else none))
def X3_fits_row (F : Nat) (ybd : Int32) (yrow : Nat → Int32) (yup : Int64) (yun : Int64) (p2 : Int32) (p3 : Int32) : Option (Int32 × Int64 × Int64) :=
  bnd ((p2 + 1) : Int32) fun x8 =>
  Option.bind (X3_fits_row_L21 p2 p3 ybd yrow F x8 0 0 0 1) fun (x6_1, x4_3, yupx21, yunx21) =>
  (if x6_1 = 0 then
    some (1, yupx21, yunx21)
  else
    (if (x4_3 * yunx21) < (yupx21 * x6_1) then
      some (0, yupx21, yunx21)
    else
      some (1, yupx21, yunx21)))
def X3_lays (F : Nat) (ybd : Int32) (yrow : Nat → Int32) (yrm : Int32) (yst : Nat → Int32) (ypc : Int32) (yup : Int64) (yun : Int64) (p1 : Int32) : Option (Int64 × Int64) :=
  (if ¬ (p1 < 0 ∨ 257 ≤ (Int32.toNatClampNeg p1)) then
  Option.bind (X3_behind F yrm yst ypc p1) fun r13 =>
  Option.bind (X3_fits_row F ybd yrow yup yun (yst (Int32.toNatClampNeg p1)) r13) fun (r16, yup16, yun16) =>
  Option.bind (X3_common F yup16 yun16) fun r28 =>
  (if ¬ r28 = 0 then
  (if ¬ r28 = 0 then
  some ((yup16 / r28), (yun16 / r28)) else none) else none) else none)
def X3_placeOf_L2 (p1 : Int32) (yrow : Nat → Int32) (yrm : Int32) : Nat → Int32 → Option (Int32)
  | 0, _ => none
  | n + 1, x2 =>
    (if yrm ≤ x2 then
      some x2
    else
      (if ¬ (x2 < 0 ∨ 256 ≤ (Int32.toNatClampNeg x2)) then
      (if p1 ≤ (yrow (Int32.toNatClampNeg x2)) then
        some x2
      else
        bnd (x2 + 1 : Int32) fun x2_1 =>
        X3_placeOf_L2 p1 yrow yrm n x2_1) else none))
def X3_placeOf (F : Nat) (yrow : Nat → Int32) (yrm : Int32) (p1 : Int32) : Option Int32 :=
  Option.bind (X3_placeOf_L2 p1 yrow yrm F 0) fun x2_2 =>
  some x2_2
def X3_isInRow (F : Nat) (yrow : Nat → Int32) (yrm : Int32) (p1 : Int32) : Option Int32 :=
  Option.bind (X3_placeOf F yrow yrm p1) fun r2 =>
  (if yrm ≤ r2 then
    some 0
  else
    (if ¬ (r2 < 0 ∨ 256 ≤ (Int32.toNatClampNeg r2)) then
    (if (yrow (Int32.toNatClampNeg r2)) = p1 then
      some 1
    else
      some 0) else none))
def X3_isBuffered_L4 (p1 : Int32) (ybu : Nat → Int32) (ybn : Int32) : Nat → Int32 → Int32 → Option (Int32)
  | 0, _, _ => none
  | n + 1, x3, x2 =>
    (if ybn ≤ x3 then
      some x2
    else
      (if x2 = 0 then
        (if ¬ (x3 < 0 ∨ 16 ≤ (Int32.toNatClampNeg x3)) then
        (if (ybu (Int32.toNatClampNeg x3)) = p1 then
          bnd (x3 + 1 : Int32) fun x3_3 =>
          X3_isBuffered_L4 p1 ybu ybn n x3_3 1
        else
          bnd (x3 + 1 : Int32) fun x3_2 =>
          X3_isBuffered_L4 p1 ybu ybn n x3_2 0) else none)
      else
        bnd (x3 + 1 : Int32) fun x3_1 =>
        X3_isBuffered_L4 p1 ybu ybn n x3_1 1))
def X3_isBuffered (F : Nat) (ybu : Nat → Int32) (ybn : Int32) (p1 : Int32) : Option Int32 :=
  Option.bind (X3_isBuffered_L4 p1 ybu ybn F 0 0) fun x2_1 =>
  (if x2_1 = 0 ∨ x2_1 = 1 then some x2_1 else none)
def X3_isThere (F : Nat) (yrow : Nat → Int32) (ymk : Nat → Int32) (yrm : Int32) (ybu : Nat → Int32) (ybn : Int32) (p1 : Int32) : Option Int32 :=
  Option.bind (X3_isBuffered F ybu ybn p1) fun r2 =>
  (if r2 = 0 then
    Option.bind (X3_isInRow F yrow yrm p1) fun r10 =>
    (if r10 = 0 then
      some 0
    else
      Option.bind (X3_placeOf F yrow yrm p1) fun r22 =>
      (if ¬ (r22 < 0 ∨ 256 ≤ (Int32.toNatClampNeg r22)) then
      (if (ymk (Int32.toNatClampNeg r22)) = 0 then
        some 1
      else
        some 0) else none))
  else
    some 1)
def X3_pieceOf_L4 (p1 : Int32) (yrow : Nat → Int32) (yst : Nat → Int32) (ypc : Int32) : Nat → Int32 → Int32 → Option (Int32)
  | 0, _, _ => none
  | n + 1, x3, x2 =>
    (if ypc ≤ x3 then
      some x2
    else
      (if ¬ (x3 < 0 ∨ 257 ≤ (Int32.toNatClampNeg x3)) then
      (if ¬ ((yst (Int32.toNatClampNeg x3)) < 0 ∨ 256 ≤ (Int32.toNatClampNeg (yst (Int32.toNatClampNeg x3)))) then
      (if p1 < (yrow (Int32.toNatClampNeg (yst (Int32.toNatClampNeg x3)))) then
        bnd (x3 + 1 : Int32) fun x3_1 =>
        X3_pieceOf_L4 p1 yrow yst ypc n x3_1 x2
      else
        bnd (x3 + 1 : Int32) fun x3_2 =>
        X3_pieceOf_L4 p1 yrow yst ypc n x3_2 x3) else none) else none))
def X3_pieceOf (F : Nat) (yrow : Nat → Int32) (yst : Nat → Int32) (ypc : Int32) (p1 : Int32) : Option Int32 :=
  Option.bind (X3_pieceOf_L4 p1 yrow yst ypc F 0 (-1)) fun x2_1 =>
  some x2_1
def X3_many (F : Nat) (yrm : Int32) (ybn : Int32) : Option Int32 :=
  some (yrm + ybn)
def X3_isAbove (F : Nat) (yrow : Nat → Int32) (yrm : Int32) (ybu : Nat → Int32) (ybn : Int32) (p1 : Int32) : Option Int32 :=
  Option.bind (α := Int32) (
    (if yrm = 0 then
      some 1
    else
      (if ¬ ((yrm - 1) < 0 ∨ 256 ≤ (Int32.toNatClampNeg (yrm - 1))) then
      (if p1 ≤ (yrow (Int32.toNatClampNeg (yrm - 1))) then
        some 0
      else
        some 1) else none))) fun y27 =>
  (if y27 = 0 then
    some 0
  else
    (if ybn = 0 then
      some 1
    else
      (if ¬ ((ybn - 1) < 0 ∨ 16 ≤ (Int32.toNatClampNeg (ybn - 1))) then
      (if p1 ≤ (ybu (Int32.toNatClampNeg (ybn - 1))) then
        some 0
      else
        some 1) else none)))
def X3_ends (F : Nat) (ybd : Int32) (yrow : Nat → Int32) (ymk : Nat → Int32) (yrm : Int32) (yst : Nat → Int32) (ypc : Int32) (yup : Int64) (yun : Int64) (p1 : Int32) : Option ((Nat → Int32) × (Nat → Int32) × Int32 × (Nat → Int32) × Int32 × Int64 × Int64) :=
  (if ¬ (yrm < 0 ∨ 256 ≤ (Int32.toNatClampNeg yrm)) then
  (if ¬ (yrm < 0 ∨ 256 ≤ (Int32.toNatClampNeg yrm)) then
  (if ypc = 0 then
    (if ¬ (ypc < 0 ∨ 257 ≤ (Int32.toNatClampNeg ypc)) then
    some ((upd yrow (Int32.toNatClampNeg yrm) p1), (upd ymk (Int32.toNatClampNeg yrm) 0), (yrm + 1), (upd yst (Int32.toNatClampNeg ypc) ((yrm + 1) - 1)), (ypc + 1), yup, yun) else none)
  else
    (if ¬ ((ypc - 1) < 0 ∨ 257 ≤ (Int32.toNatClampNeg (ypc - 1))) then
    Option.bind (X3_fits_row F ybd (upd yrow (Int32.toNatClampNeg yrm) p1) yup yun (yst (Int32.toNatClampNeg (ypc - 1))) (yrm + 1)) fun (r57, yup57, yun57) =>
    (if r57 = 0 then
      (if ¬ (ypc < 0 ∨ 257 ≤ (Int32.toNatClampNeg ypc)) then
      some ((upd yrow (Int32.toNatClampNeg yrm) p1), (upd ymk (Int32.toNatClampNeg yrm) 0), (yrm + 1), (upd yst (Int32.toNatClampNeg ypc) ((yrm + 1) - 1)), (ypc + 1), yup57, yun57) else none)
    else
      some ((upd yrow (Int32.toNatClampNeg yrm) p1), (upd ymk (Int32.toNatClampNeg yrm) 0), (yrm + 1), yst, ypc, yup57, yun57)) else none)) else none) else none)
def X3_append (F : Nat) (yth : Int32) (ybd : Int32) (yrow : Nat → Int32) (ymk : Nat → Int32) (yrm : Int32) (yst : Nat → Int32) (ypc : Int32) (ybu : Nat → Int32) (ybn : Int32) (yup : Int64) (yun : Int64) (p1 : Int32) : Option (Int32 × Int32 × (Nat → Int32) × (Nat → Int32) × Int32 × (Nat → Int32) × Int32 × Int64 × Int64) :=
  Option.bind (X3_isKey F p1) fun r2 =>
  Option.bind (α := Int32) (
    (if r2 = 0 then
      some 1
    else
      Option.bind (X3_many F yrm ybn) fun r13 =>
      (if r13 = 256 then
        some 2
      else
        Option.bind (X3_isAbove F yrow yrm ybu ybn p1) fun r24 =>
        (if r24 = 0 then
          some 2
        else
          some 0)))) fun y35 =>
  (if y35 = 0 then
    Option.bind (X3_ends F ybd yrow ymk yrm yst ypc yup yun p1) fun (yrow47, ymk47, yrm47, yst47, ypc47, yup47, yun47) =>
    some (ypc47, y35, yrow47, ymk47, yrm47, yst47, ypc47, yup47, yun47)
  else
    some (ypc, y35, yrow, ymk, yrm, yst, ypc, yup, yun))
def X3_appendMany_L91 (p1 : Int32) (p2 : Int32) (p3 : Int32) (ybd : Int32) (F : Nat) (y85 : Int32) : Nat → Int32 → (Nat → Int32) → (Nat → Int32) → Int32 → (Nat → Int32) → Int32 → Int64 → Int64 → Option ((Nat → Int32) × (Nat → Int32) × Int32 × (Nat → Int32) × Int32 × Int64 × Int64)
  | 0, _, _, _, _, _, _, _, _ => none
  | n + 1, x5, yrowl91, ymkl91, yrml91, ystl91, ypcl91, yupl91, yunl91 =>
    (if p3 ≤ x5 then
      some (yrowl91, ymkl91, yrml91, ystl91, ypcl91, yupl91, yunl91)
    else
      (if y85 = 0 then
        Option.bind (X3_ends F ybd yrowl91 ymkl91 yrml91 ystl91 ypcl91 yupl91 yunl91 (p1 + (p2 * x5))) fun (yrow111, ymk111, yrm111, yst111, ypc111, yup111, yun111) =>
        bnd (x5 + 1 : Int32) fun x5_1 =>
        X3_appendMany_L91 p1 p2 p3 ybd F y85 n x5_1 yrow111 ymk111 yrm111 yst111 ypc111 yup111 yun111
      else
        some (yrowl91, ymkl91, yrml91, ystl91, ypcl91, yupl91, yunl91)))
def X3_appendMany (F : Nat) (yth : Int32) (ybd : Int32) (yrow : Nat → Int32) (ymk : Nat → Int32) (yrm : Int32) (yst : Nat → Int32) (ypc : Int32) (ybu : Nat → Int32) (ybn : Int32) (yup : Int64) (yun : Int64) (p1 : Int32) (p2 : Int32) (p3 : Int32) : Option (Int32 × Int32 × (Nat → Int32) × (Nat → Int32) × Int32 × (Nat → Int32) × Int32 × Int64 × Int64) :=
  Option.bind (X3_isKey F p1) fun r1 =>
  bnd ((if r1 = 0 then 0 else (if p2 < 1 then 0 else (if 10000 < p2 then 0 else (if p3 < 1 then 0 else (if 100 < p3 then 0 else 1))))) : Int32) fun y35 =>
  Option.bind (α := Int32) (
    (if y35 = 0 then
      some 1
    else
      Option.bind (X3_isKey F (p1 + (p2 * (p3 - 1)))) fun r50 =>
      (if r50 = 0 then
        some 1
      else
        Option.bind (X3_many F yrm ybn) fun r61 =>
        (if 256 < (r61 + p3) then
          some 2
        else
          Option.bind (X3_isAbove F yrow yrm ybu ybn p1) fun r74 =>
          (if r74 = 0 then
            some 2
          else
            some 0))))) fun y85 =>
  Option.bind (X3_appendMany_L91 p1 p2 p3 ybd F y85 F 0 yrow ymk yrm yst ypc yup yun) fun (yrowx91, ymkx91, yrmx91, ystx91, ypcx91, yupx91, yunx91) =>
  some (ypcx91, y85, yrowx91, ymkx91, yrmx91, ystx91, ypcx91, yupx91, yunx91)
def X3_makes_L5 (p1 : Int32) : Nat → Int32 → (Nat → Int32) → Option (Int32 × (Nat → Int32))
  | 0, _, _ => none
  | n + 1, x2, ymdl5 =>
    (if x2 ≤ 0 then
      some (x2, ymdl5)
    else
      (if ¬ ((x2 - 1) < 0 ∨ 256 ≤ (Int32.toNatClampNeg (x2 - 1))) then
      (if (ymdl5 (Int32.toNatClampNeg (x2 - 1))) ≤ p1 then
        some (x2, ymdl5)
      else
        (if ¬ ((x2 - 1) < 0 ∨ 256 ≤ (Int32.toNatClampNeg (x2 - 1))) then
        (if ¬ (x2 < 0 ∨ 256 ≤ (Int32.toNatClampNeg x2)) then
        bnd (x2 + (-1) : Int32) fun x2_1 =>
        X3_makes_L5 p1 n x2_1 (upd ymdl5 (Int32.toNatClampNeg x2) (ymdl5 (Int32.toNatClampNeg (x2 - 1)))) else none) else none)) else none))
def X3_makes (F : Nat) (ymd : Nat → Int32) (ymm : Int32) (p1 : Int32) : Option ((Nat → Int32) × Int32) :=
  Option.bind (X3_makes_L5 p1 F ymm ymd) fun (x2_2, ymdx5) =>
  (if ¬ (x2_2 < 0 ∨ 256 ≤ (Int32.toNatClampNeg x2_2)) then
  some ((upd ymdx5 (Int32.toNatClampNeg x2_2) p1), (ymm + 1)) else none)
def X3_gathers_L9 (p1 : Int32) (yrow : Nat → Int32) (ymk : Nat → Int32) (yrm : Int32) (yst : Nat → Int32) (ypc : Int32) (F : Nat) : Nat → Int32 → Int32 → (Nat → Int32) → Int32 → Option (Int32 × (Nat → Int32) × Int32)
  | 0, _, _, _, _ => none
  | n + 1, x3_1, x2, ymdl9, ymml9 =>
    Option.bind (X3_behind F yrm yst ypc p1) fun r12 =>
    (if r12 ≤ x3_1 then
      some (x2, ymdl9, ymml9)
    else
      (if ¬ (x3_1 < 0 ∨ 256 ≤ (Int32.toNatClampNeg x3_1)) then
      (if (ymk (Int32.toNatClampNeg x3_1)) = 0 then
        (if ¬ (x3_1 < 0 ∨ 256 ≤ (Int32.toNatClampNeg x3_1)) then
        Option.bind (X3_makes F ymdl9 ymml9 (yrow (Int32.toNatClampNeg x3_1))) fun (ymd39, ymm39) =>
        bnd (x3_1 + 1 : Int32) fun x3_2 =>
        X3_gathers_L9 p1 yrow ymk yrm yst ypc F n x3_2 x2 ymd39 ymm39 else none)
      else
        bnd (x3_1 + 1 : Int32) fun x3_3 =>
        X3_gathers_L9 p1 yrow ymk yrm yst ypc F n x3_3 1 ymdl9 ymml9) else none))
def X3_gathers_L50 (p1 : Int32) (yrow : Nat → Int32) (yst : Nat → Int32) (ypc : Int32) (ybu : Nat → Int32) (ybn : Int32) (F : Nat) : Nat → Int32 → Int32 → (Nat → Int32) → Int32 → Option (Int32 × (Nat → Int32) × Int32)
  | 0, _, _, _, _ => none
  | n + 1, x3_4, x2_2, ymdl50, ymml50 =>
    (if ybn ≤ x3_4 then
      some (x2_2, ymdl50, ymml50)
    else
      (if ¬ (x3_4 < 0 ∨ 16 ≤ (Int32.toNatClampNeg x3_4)) then
      Option.bind (X3_pieceOf F yrow yst ypc (ybu (Int32.toNatClampNeg x3_4))) fun r65 =>
      (if r65 = p1 then
        (if ¬ (x3_4 < 0 ∨ 16 ≤ (Int32.toNatClampNeg x3_4)) then
        Option.bind (X3_makes F ymdl50 ymml50 (ybu (Int32.toNatClampNeg x3_4))) fun (ymd93, ymm93) =>
        bnd (x3_4 + 1 : Int32) fun x3_5 =>
        X3_gathers_L50 p1 yrow yst ypc ybu ybn F n x3_5 1 ymd93 ymm93 else none)
      else
        (if r65 = (-1) then
          (if p1 = 0 then
            (if ¬ (x3_4 < 0 ∨ 16 ≤ (Int32.toNatClampNeg x3_4)) then
            Option.bind (X3_makes F ymdl50 ymml50 (ybu (Int32.toNatClampNeg x3_4))) fun (ymd93_1, ymm93_1) =>
            bnd (x3_4 + 1 : Int32) fun x3_8 =>
            X3_gathers_L50 p1 yrow yst ypc ybu ybn F n x3_8 1 ymd93_1 ymm93_1 else none)
          else
            bnd (x3_4 + 1 : Int32) fun x3_7 =>
            X3_gathers_L50 p1 yrow yst ypc ybu ybn F n x3_7 x2_2 ymdl50 ymml50)
        else
          bnd (x3_4 + 1 : Int32) fun x3_6 =>
          X3_gathers_L50 p1 yrow yst ypc ybu ybn F n x3_6 x2_2 ymdl50 ymml50)) else none))
def X3_gathers (F : Nat) (yrow : Nat → Int32) (ymk : Nat → Int32) (yrm : Int32) (yst : Nat → Int32) (ypc : Int32) (ybu : Nat → Int32) (ybn : Int32) (ymd : Nat → Int32) (ymm : Int32) (p1 : Int32) : Option (Int32 × (Nat → Int32) × Int32) :=
  (if ¬ (p1 < 0 ∨ 257 ≤ (Int32.toNatClampNeg p1)) then
  bnd ((yst (Int32.toNatClampNeg p1)) : Int32) fun x3 =>
  Option.bind (X3_gathers_L9 p1 yrow ymk yrm yst ypc F F x3 0 ymd ymm) fun (x2_1, ymdx9, ymmx9) =>
  Option.bind (X3_gathers_L50 p1 yrow yst ypc ybu ybn F F 0 x2_1 ymdx9 ymmx9) fun (x2_3, ymdx50, ymmx50) =>
  (if x2_3 = 0 ∨ x2_3 = 1 then some (x2_3, ymdx50, ymmx50) else none) else none)
def X3_fits_made_L21 (p2 : Int32) (p3 : Int32) (ybd : Int32) (ymd : Nat → Int32) : Nat → Int32 → Int64 → Int64 → Int64 → Int64 → Option (Int64 × Int64 × Int64 × Int64)
  | 0, _, _, _, _, _ => none
  | n + 1, x8_1, x6, x4, yupl21, yunl21 =>
    (if p3 ≤ x8_1 then
      some (x6, x4, yupl21, yunl21)
    else
      (if ¬ (x8_1 < 0 ∨ 256 ≤ (Int32.toNatClampNeg x8_1)) then
      (if ¬ (p2 < 0 ∨ 256 ≤ (Int32.toNatClampNeg p2)) then
      bnd (((Int32.toInt64 (ymd (Int32.toNatClampNeg x8_1))) - (Int32.toInt64 (ymd (Int32.toNatClampNeg p2)))) : Int64) fun x9 =>
      bnd ((Int32.toInt64 (x8_1 - p2)) : Int64) fun x11 =>
      Option.bind (α := Int64 × Int64) (
        (if ((x11 - (Int32.toInt64 ybd)) * yunl21) ≤ (yupl21 * x9) then
          some (yupl21, yunl21)
        else
          some ((x11 - (Int32.toInt64 ybd)), x9))) fun (yupj88, yunj88) =>
      (if x6 = 0 then
        bnd ((x11 + (Int32.toInt64 ybd)) : Int64) fun x4_1 =>
        bnd (x8_1 + 1 : Int32) fun x8_2 =>
        X3_fits_made_L21 p2 p3 ybd ymd n x8_2 x9 x4_1 yupj88 yunj88
      else
        (if (x4 * x9) ≤ ((x11 + (Int32.toInt64 ybd)) * x6) then
          bnd (x8_1 + 1 : Int32) fun x8_3 =>
          X3_fits_made_L21 p2 p3 ybd ymd n x8_3 x6 x4 yupj88 yunj88
        else
          bnd ((x11 + (Int32.toInt64 ybd)) : Int64) fun x4_2 =>
          bnd (x8_1 + 1 : Int32) fun x8_4 =>
          X3_fits_made_L21 p2 p3 ybd ymd n x8_4 x9 x4_2 yupj88 yunj88)) else none) else none))
def X3_fits_made (F : Nat) (ybd : Int32) (ymd : Nat → Int32) (yup : Int64) (yun : Int64) (p2 : Int32) (p3 : Int32) : Option (Int32 × Int64 × Int64) :=
  bnd ((p2 + 1) : Int32) fun x8 =>
  Option.bind (X3_fits_made_L21 p2 p3 ybd ymd F x8 0 0 0 1) fun (x6_1, x4_3, yupx21, yunx21) =>
  (if x6_1 = 0 then
    some (1, yupx21, yunx21)
  else
    (if (x4_3 * yunx21) < (yupx21 * x6_1) then
      some (0, yupx21, yunx21)
    else
      some (1, yupx21, yunx21)))
def X3_cuts_L5 (p2 : Int32) (ybd : Int32) (ymd : Nat → Int32) (ymm : Int32) (F : Nat) : Nat → Int32 → Int32 → (Nat → Int32) → Int64 → Int64 → Option (Int32 × (Nat → Int32) × Int64 × Int64)
  | 0, _, _, _, _, _ => none
  | n + 1, x4, x3, ybgl5, yupl5, yunl5 =>
    (if ymm ≤ x4 then
      some (x3, ybgl5, yupl5, yunl5)
    else
      (if x3 = p2 then
        (if ¬ (x3 < 0 ∨ 257 ≤ (Int32.toNatClampNeg x3)) then
        bnd (x3 + 1 : Int32) fun x3_1 =>
        bnd (x4 + 1 : Int32) fun x4_1 =>
        X3_cuts_L5 p2 ybd ymd ymm F n x4_1 x3_1 (upd ybgl5 (Int32.toNatClampNeg x3) x4) yupl5 yunl5 else none)
      else
        (if ¬ ((x3 - 1) < 0 ∨ 257 ≤ (Int32.toNatClampNeg (x3 - 1))) then
        Option.bind (X3_fits_made F ybd ymd yupl5 yunl5 (ybgl5 (Int32.toNatClampNeg (x3 - 1))) (x4 + 1)) fun (r36, yup36, yun36) =>
        (if r36 = 0 then
          (if ¬ (x3 < 0 ∨ 257 ≤ (Int32.toNatClampNeg x3)) then
          bnd (x3 + 1 : Int32) fun x3_2 =>
          bnd (x4 + 1 : Int32) fun x4_3 =>
          X3_cuts_L5 p2 ybd ymd ymm F n x4_3 x3_2 (upd ybgl5 (Int32.toNatClampNeg x3) x4) yup36 yun36 else none)
        else
          bnd (x4 + 1 : Int32) fun x4_2 =>
          X3_cuts_L5 p2 ybd ymd ymm F n x4_2 x3 ybgl5 yup36 yun36) else none)))
def X3_cuts (F : Nat) (ybd : Int32) (ymd : Nat → Int32) (ybg : Nat → Int32) (ymm : Int32) (yup : Int64) (yun : Int64) (p1 : Int32) (p2 : Int32) : Option (Int32 × (Nat → Int32) × Int64 × Int64) :=
  Option.bind (X3_cuts_L5 p2 ybd ymd ymm F F p1 p2 ybg yup yun) fun (x3_3, ybgx5, yupx5, yunx5) =>
  some (x3_3, ybgx5, yupx5, yunx5)
def X3_becomes_L20 (ymd : Nat → Int32) (ymm : Int32) : Nat → Int32 → (Nat → Int32) → (Nat → Int32) → Option ((Nat → Int32) × (Nat → Int32))
  | 0, _, _, _ => none
  | n + 1, x2, yrowl20, ymkl20 =>
    (if ymm ≤ x2 then
      some (yrowl20, ymkl20)
    else
      (if ¬ (x2 < 0 ∨ 256 ≤ (Int32.toNatClampNeg x2)) then
      (if ¬ (x2 < 0 ∨ 256 ≤ (Int32.toNatClampNeg x2)) then
      (if ¬ (x2 < 0 ∨ 256 ≤ (Int32.toNatClampNeg x2)) then
      bnd (x2 + 1 : Int32) fun x2_1 =>
      X3_becomes_L20 ymd ymm n x2_1 (upd yrowl20 (Int32.toNatClampNeg x2) (ymd (Int32.toNatClampNeg x2))) (upd ymkl20 (Int32.toNatClampNeg x2) 0) else none) else none) else none))
def X3_becomes_L55 (p1 : Int32) (ybg : Nat → Int32) : Nat → Int32 → (Nat → Int32) → Option ((Nat → Int32))
  | 0, _, _ => none
  | n + 1, x2_2, ystl55 =>
    (if p1 ≤ x2_2 then
      some ystl55
    else
      (if ¬ (x2_2 < 0 ∨ 257 ≤ (Int32.toNatClampNeg x2_2)) then
      (if ¬ (x2_2 < 0 ∨ 257 ≤ (Int32.toNatClampNeg x2_2)) then
      bnd (x2_2 + 1 : Int32) fun x2_3 =>
      X3_becomes_L55 p1 ybg n x2_3 (upd ystl55 (Int32.toNatClampNeg x2_2) (ybg (Int32.toNatClampNeg x2_2))) else none) else none))
def X3_becomes (F : Nat) (yrow : Nat → Int32) (ymk : Nat → Int32) (yrm : Int32) (yst : Nat → Int32) (ypc : Int32) (ybn : Int32) (ymd : Nat → Int32) (ybg : Nat → Int32) (ymm : Int32) (p1 : Int32) : Option ((Nat → Int32) × (Nat → Int32) × Int32 × (Nat → Int32) × Int32 × Int32) :=
  Option.bind (X3_becomes_L20 ymd ymm F 0 yrow ymk) fun (yrowx20, ymkx20) =>
  Option.bind (X3_becomes_L55 p1 ybg F 0 yst) fun ystx55 =>
  some (yrowx20, ymkx20, ymm, ystx55, p1, 0)
def X3_joinsPieces_L46 (ypcl2 : Int32) : Nat → Int32 → (Nat → Int32) → Option ((Nat → Int32))
  | 0, _, _ => none
  | n + 1, x2_1, ystl46 =>
    (if ypcl2 ≤ (x2_1 + 1) then
      some ystl46
    else
      (if ¬ ((x2_1 + 1) < 0 ∨ 257 ≤ (Int32.toNatClampNeg (x2_1 + 1))) then
      (if ¬ (x2_1 < 0 ∨ 257 ≤ (Int32.toNatClampNeg x2_1)) then
      bnd (x2_1 + 1 : Int32) fun x2_2 =>
      X3_joinsPieces_L46 ypcl2 n x2_2 (upd ystl46 (Int32.toNatClampNeg x2_1) (ystl46 (Int32.toNatClampNeg (x2_1 + 1)))) else none) else none))
def X3_joinsPieces_L2 (ybd : Int32) (yrow : Nat → Int32) (yrm : Int32) (F : Nat) : Nat → Int32 → (Nat → Int32) → Int32 → Int32 → Int64 → Int64 → Option ((Nat → Int32) × Int32 × Int32 × Int64 × Int64)
  | 0, _, _, _, _, _, _ => none
  | n + 1, x1, ystl2, ypcl2, yjnl2, yupl2, yunl2 =>
    (if ypcl2 ≤ (x1 + 1) then
      some (ystl2, ypcl2, yjnl2, yupl2, yunl2)
    else
      (if ¬ (x1 < 0 ∨ 257 ≤ (Int32.toNatClampNeg x1)) then
      Option.bind (X3_behind F yrm ystl2 ypcl2 (x1 + 1)) fun r27 =>
      Option.bind (X3_fits_row F ybd yrow yupl2 yunl2 (ystl2 (Int32.toNatClampNeg x1)) r27) fun (r30, yup30, yun30) =>
      (if r30 = 0 then
        bnd (x1 + 1 : Int32) fun x1_1 =>
        X3_joinsPieces_L2 ybd yrow yrm F n x1_1 ystl2 ypcl2 yjnl2 yup30 yun30
      else
        bnd ((x1 + 1) : Int32) fun x2 =>
        Option.bind (X3_joinsPieces_L46 ypcl2 F x2 ystl2) fun ystx46 =>
        X3_joinsPieces_L2 ybd yrow yrm F n x1 ystx46 (ypcl2 - 1) (yjnl2 + 1) yup30 yun30) else none))
def X3_joinsPieces (F : Nat) (ybd : Int32) (yrow : Nat → Int32) (yrm : Int32) (yst : Nat → Int32) (ypc : Int32) (yjn : Int32) (yup : Int64) (yun : Int64) : Option ((Nat → Int32) × Int32 × Int32 × Int64 × Int64) :=
  Option.bind (X3_joinsPieces_L2 ybd yrow yrm F F 0 yst ypc yjn yup yun) fun (ystx2, ypcx2, yjnx2, yupx2, yunx2) =>
  some (ystx2, ypcx2, yjnx2, yupx2, yunx2)
def X3_mergesAll_L9 (ybd : Int32) (yrow : Nat → Int32) (ymk : Nat → Int32) (yrm : Int32) (yst : Nat → Int32) (ypc : Int32) (ybu : Nat → Int32) (ybn : Int32) (F : Nat) : Nat → Int32 → Int32 → Int32 → (Nat → Int32) → (Nat → Int32) → Int32 → Int64 → Int64 → Option (Int32 × Int32 × (Nat → Int32) × (Nat → Int32) × Int32 × Int64 × Int64)
  | 0, _, _, _, _, _, _, _, _ => none
  | n + 1, x2, x1, yspl9, ymdl9, ybgl9, ymml9, yupl9, yunl9 =>
    (if ypc ≤ x2 then
      some (x1, yspl9, ymdl9, ybgl9, ymml9, yupl9, yunl9)
    else
      Option.bind (X3_gathers F yrow ymk yrm yst ypc ybu ybn ymdl9 ymml9 x2) fun (r24, ymd24, ymm24) =>
      Option.bind (α := Int32 × (Nat → Int32) × Int64 × Int64) (
        (if r24 = 0 then
          (if ¬ (x1 < 0 ∨ 257 ≤ (Int32.toNatClampNeg x1)) then
          bnd ((x1 + 1) : Int32) fun x5 =>
          some (x5, (upd ybgl9 (Int32.toNatClampNeg x1) ymml9), yupl9, yunl9) else none)
        else
          Option.bind (X3_cuts F ybd ymd24 ybgl9 ymm24 yupl9 yunl9 ymml9 x1) fun (r40, ybg40, yup40, yun40) =>
          some (r40, ybg40, yup40, yun40))) fun (x5_1, ybgj60, yupj60, yunj60) =>
      bnd ((if x5_1 ≤ x1 then 0 else ((x5_1 - x1) - 1)) : Int32) fun y81 =>
      bnd (x2 + 1 : Int32) fun x2_1 =>
      X3_mergesAll_L9 ybd yrow ymk yrm yst ypc ybu ybn F n x2_1 x5_1 (yspl9 + y81) ymd24 ybgj60 ymm24 yupj60 yunj60)
def X3_mergesAll_L110 (ybu : Nat → Int32) (ybn : Int32) (F : Nat) : Nat → Int32 → (Nat → Int32) → Int32 → Option ((Nat → Int32) × Int32)
  | 0, _, _, _ => none
  | n + 1, x2_2, ymdl110, ymml110 =>
    (if ybn ≤ x2_2 then
      some (ymdl110, ymml110)
    else
      (if ¬ (x2_2 < 0 ∨ 16 ≤ (Int32.toNatClampNeg x2_2)) then
      Option.bind (X3_makes F ymdl110 ymml110 (ybu (Int32.toNatClampNeg x2_2))) fun (ymd125, ymm125) =>
      bnd (x2_2 + 1 : Int32) fun x2_3 =>
      X3_mergesAll_L110 ybu ybn F n x2_3 ymd125 ymm125 else none))
def X3_mergesAll (F : Nat) (ybd : Int32) (yrow : Nat → Int32) (ymk : Nat → Int32) (yrm : Int32) (yst : Nat → Int32) (ypc : Int32) (ybu : Nat → Int32) (ybn : Int32) (ymg : Int32) (ysp : Int32) (yjn : Int32) (ymd : Nat → Int32) (ybg : Nat → Int32) (ymm : Int32) (yup : Int64) (yun : Int64) : Option ((Nat → Int32) × (Nat → Int32) × Int32 × (Nat → Int32) × Int32 × Int32 × Int32 × Int32 × Int32 × (Nat → Int32) × (Nat → Int32) × Int32 × Int64 × Int64) :=
  Option.bind (X3_mergesAll_L9 ybd yrow ymk yrm yst ypc ybu ybn F F 0 0 ysp ymd ybg 0 yup yun) fun (x1_1, yspx9, ymdx9, ybgx9, ymmx9, yupx9, yunx9) =>
  Option.bind (α := Int32 × Int32 × (Nat → Int32) × (Nat → Int32) × Int32 × Int64 × Int64) (
    (if ypc = 0 then
      (if ybn ≤ 0 then
        some (x1_1, yspx9, ymdx9, ybgx9, ymmx9, yupx9, yunx9)
      else
        Option.bind (X3_mergesAll_L110 ybu ybn F F 0 ymdx9 ymmx9) fun (ymdx110, ymmx110) =>
        Option.bind (X3_cuts F ybd ymdx110 ybgx9 ymmx110 yupx9 yunx9 0 0) fun (r137, ybg137, yup137, yun137) =>
        some (r137, (yspx9 + (r137 - 1)), ymdx110, ybg137, ymmx110, yup137, yun137))
    else
      some (x1_1, yspx9, ymdx9, ybgx9, ymmx9, yupx9, yunx9))) fun (x1_2, yspj153, ymdj153, ybgj153, ymmj153, yupj153, yunj153) =>
  Option.bind (X3_becomes F yrow ymk yrm yst ypc ybn ymdj153 ybgj153 ymmj153 x1_2) fun (yrow155, ymk155, yrm155, yst155, ypc155, ybn155) =>
  Option.bind (X3_joinsPieces F ybd yrow155 yrm155 yst155 ypc155 yjn yupj153 yunj153) fun (yst159, ypc159, yjn159, yup159, yun159) =>
  some (yrow155, ymk155, yrm155, yst159, ypc159, ybn155, (ymg + 1), yspj153, yjn159, ymdj153, ybgj153, ymmj153, yup159, yun159)
def X3_insert_L82 (p1 : Int32) : Nat → Int32 → (Nat → Int32) → Option (Int32 × (Nat → Int32))
  | 0, _, _ => none
  | n + 1, x3, ybul82 =>
    (if x3 ≤ 0 then
      some (x3, ybul82)
    else
      (if ¬ ((x3 - 1) < 0 ∨ 16 ≤ (Int32.toNatClampNeg (x3 - 1))) then
      (if (ybul82 (Int32.toNatClampNeg (x3 - 1))) ≤ p1 then
        some (x3, ybul82)
      else
        (if ¬ ((x3 - 1) < 0 ∨ 16 ≤ (Int32.toNatClampNeg (x3 - 1))) then
        (if ¬ (x3 < 0 ∨ 16 ≤ (Int32.toNatClampNeg x3)) then
        bnd (x3 + (-1) : Int32) fun x3_1 =>
        X3_insert_L82 p1 n x3_1 (upd ybul82 (Int32.toNatClampNeg x3) (ybul82 (Int32.toNatClampNeg (x3 - 1)))) else none) else none)) else none))
def X3_insert (F : Nat) (yth : Int32) (ybd : Int32) (yro : Int32) (yrow : Nat → Int32) (ymk : Nat → Int32) (yrm : Int32) (yst : Nat → Int32) (ypc : Int32) (ybu : Nat → Int32) (ybn : Int32) (ymg : Int32) (ysp : Int32) (yjn : Int32) (ymd : Nat → Int32) (ybg : Nat → Int32) (ymm : Int32) (yup : Int64) (yun : Int64) (p1 : Int32) : Option (Int32 × Int32 × (Nat → Int32) × (Nat → Int32) × Int32 × (Nat → Int32) × Int32 × (Nat → Int32) × Int32 × Int32 × Int32 × Int32 × (Nat → Int32) × (Nat → Int32) × Int32 × Int64 × Int64) :=
  Option.bind (X3_isInRow F yrow yrm p1) fun r2 =>
  Option.bind (X3_isKey F p1) fun r8 =>
  Option.bind (α := Int32) (
    (if r8 = 0 then
      some 1
    else
      Option.bind (X3_isThere F yrow ymk yrm ybu ybn p1) fun r20 =>
      (if r20 = 0 then
        Option.bind (X3_many F yrm ybn) fun r27 =>
        (if r27 = 256 then
          (if r2 = 0 then
            some 2
          else
            some 0)
        else
          some 0)
      else
        some 2))) fun y45 =>
  (if y45 ≤ 0 then
    (if r2 = 0 then
      Option.bind (X3_insert_L82 p1 F ybn ybu) fun (x3_2, ybux82) =>
      (if ¬ (x3_2 < 0 ∨ 16 ≤ (Int32.toNatClampNeg x3_2)) then
      (if (ybn + 1) = yro then
        Option.bind (X3_mergesAll F ybd yrow ymk yrm yst ypc (upd ybux82 (Int32.toNatClampNeg x3_2) p1) (ybn + 1) ymg ysp yjn ymd ybg ymm yup yun) fun (yrow147, ymk147, yrm147, yst147, ypc147, ybn147, ymg147, ysp147, yjn147, ymd147, ybg147, ymm147, yup147, yun147) =>
        some (ybn147, y45, yrow147, ymk147, yrm147, yst147, ypc147, (upd ybux82 (Int32.toNatClampNeg x3_2) p1), ybn147, ymg147, ysp147, yjn147, ymd147, ybg147, ymm147, yup147, yun147)
      else
        some ((ybn + 1), y45, yrow, ymk, yrm, yst, ypc, (upd ybux82 (Int32.toNatClampNeg x3_2) p1), (ybn + 1), ymg, ysp, yjn, ymd, ybg, ymm, yup, yun)) else none)
    else
      Option.bind (X3_placeOf F yrow yrm p1) fun r67 =>
      (if ¬ (r67 < 0 ∨ 256 ≤ (Int32.toNatClampNeg r67)) then
      some (ybn, y45, yrow, (upd ymk (Int32.toNatClampNeg r67) 0), yrm, yst, ypc, ybu, ybn, ymg, ysp, yjn, ymd, ybg, ymm, yup, yun) else none))
  else
    some (0, y45, yrow, ymk, yrm, yst, ypc, ybu, ybn, ymg, ysp, yjn, ymd, ybg, ymm, yup, yun))
def X3_below_L5 (p1 : Int64) (yrow : Nat → Int32) (ymk : Nat → Int32) (yrm : Int32) : Nat → Int32 → Int32 → Option (Int32)
  | 0, _, _ => none
  | n + 1, x4, x3 =>
    (if yrm ≤ x4 then
      some x3
    else
      (if ¬ (x4 < 0 ∨ 256 ≤ (Int32.toNatClampNeg x4)) then
      (if (ymk (Int32.toNatClampNeg x4)) = 0 then
        (if ¬ (x4 < 0 ∨ 256 ≤ (Int32.toNatClampNeg x4)) then
        (if p1 ≤ (Int32.toInt64 (yrow (Int32.toNatClampNeg x4))) then
          bnd ((x3 + 0) : Int32) fun x3_2 =>
          bnd (x4 + 1 : Int32) fun x4_2 =>
          X3_below_L5 p1 yrow ymk yrm n x4_2 x3_2
        else
          bnd ((x3 + 1) : Int32) fun x3_3 =>
          bnd (x4 + 1 : Int32) fun x4_3 =>
          X3_below_L5 p1 yrow ymk yrm n x4_3 x3_3) else none)
      else
        bnd ((x3 + 0) : Int32) fun x3_1 =>
        bnd (x4 + 1 : Int32) fun x4_1 =>
        X3_below_L5 p1 yrow ymk yrm n x4_1 x3_1) else none))
def X3_below_L54 (p1 : Int64) (ybu : Nat → Int32) (ybn : Int32) : Nat → Int32 → Int32 → Option (Int32)
  | 0, _, _ => none
  | n + 1, x4_4, x3_5 =>
    (if ybn ≤ x4_4 then
      some x3_5
    else
      (if ¬ (x4_4 < 0 ∨ 16 ≤ (Int32.toNatClampNeg x4_4)) then
      (if p1 ≤ (Int32.toInt64 (ybu (Int32.toNatClampNeg x4_4))) then
        bnd ((x3_5 + 0) : Int32) fun x3_6 =>
        bnd (x4_4 + 1 : Int32) fun x4_5 =>
        X3_below_L54 p1 ybu ybn n x4_5 x3_6
      else
        bnd ((x3_5 + 1) : Int32) fun x3_7 =>
        bnd (x4_4 + 1 : Int32) fun x4_6 =>
        X3_below_L54 p1 ybu ybn n x4_6 x3_7) else none))
def X3_below (F : Nat) (yrow : Nat → Int32) (ymk : Nat → Int32) (yrm : Int32) (ybu : Nat → Int32) (ybn : Int32) (p1 : Int64) : Option Int32 :=
  Option.bind (X3_below_L5 p1 yrow ymk yrm F 0 0) fun x3_4 =>
  Option.bind (X3_below_L54 p1 ybu ybn F 0 x3_4) fun x3_8 =>
  some x3_8
def X3_keys (F : Nat) (yrow : Nat → Int32) (ymk : Nat → Int32) (yrm : Int32) (ybu : Nat → Int32) (ybn : Int32) : Option Int32 :=
  Option.bind (X3_below F yrow ymk yrm ybu ybn 1000001) fun r4 =>
  some r4
def X3_remove_L54 (p1 : Int32) (ybn : Int32) : Nat → Int32 → Int32 → (Nat → Int32) → Option (Int32 × (Nat → Int32))
  | 0, _, _, _ => none
  | n + 1, x3, x2, ybul54 =>
    (if ybn ≤ x3 then
      some (x2, ybul54)
    else
      (if ¬ (x3 < 0 ∨ 16 ≤ (Int32.toNatClampNeg x3)) then
      (if (ybul54 (Int32.toNatClampNeg x3)) = p1 then
        bnd (x3 + 1 : Int32) fun x3_1 =>
        X3_remove_L54 p1 ybn n x3_1 x2 ybul54
      else
        (if ¬ (x3 < 0 ∨ 16 ≤ (Int32.toNatClampNeg x3)) then
        (if ¬ (x2 < 0 ∨ 16 ≤ (Int32.toNatClampNeg x2)) then
        bnd (x2 + 1 : Int32) fun x2_1 =>
        bnd (x3 + 1 : Int32) fun x3_2 =>
        X3_remove_L54 p1 ybn n x3_2 x2_1 (upd ybul54 (Int32.toNatClampNeg x2) (ybul54 (Int32.toNatClampNeg x3))) else none) else none)) else none))
def X3_remove (F : Nat) (yth : Int32) (yrow : Nat → Int32) (ymk : Nat → Int32) (yrm : Int32) (ybu : Nat → Int32) (ybn : Int32) (p1 : Int32) : Option (Int32 × Int32 × (Nat → Int32) × (Nat → Int32) × Int32) :=
  Option.bind (X3_isThere F yrow ymk yrm ybu ybn p1) fun r3 =>
  bnd ((if r3 = 0 then 1 else 0) : Int32) fun y14 =>
  (if y14 ≤ 0 then
    Option.bind (X3_isBuffered F ybu ybn p1) fun r28 =>
    (if r28 = 0 then
      Option.bind (X3_placeOf F yrow yrm p1) fun r40 =>
      (if ¬ (r40 < 0 ∨ 256 ≤ (Int32.toNatClampNeg r40)) then
      Option.bind (X3_keys F yrow (upd ymk (Int32.toNatClampNeg r40) 1) yrm ybu ybn) fun r46 =>
      some (r46, y14, (upd ymk (Int32.toNatClampNeg r40) 1), ybu, ybn) else none)
    else
      Option.bind (X3_remove_L54 p1 ybn F 0 0 ybu) fun (x2_2, ybux54) =>
      Option.bind (X3_keys F yrow ymk yrm ybux54 x2_2) fun r99 =>
      some (r99, y14, ymk, ybux54, x2_2))
  else
    some (0, y14, ymk, ybu, ybn))
def X3_merge (F : Nat) (yth : Int32) (ybd : Int32) (yrow : Nat → Int32) (ymk : Nat → Int32) (yrm : Int32) (yst : Nat → Int32) (ypc : Int32) (ybu : Nat → Int32) (ybn : Int32) (ymg : Int32) (ysp : Int32) (yjn : Int32) (ymd : Nat → Int32) (ybg : Nat → Int32) (ymm : Int32) (yup : Int64) (yun : Int64) : Option (Int32 × Int32 × (Nat → Int32) × (Nat → Int32) × Int32 × (Nat → Int32) × Int32 × Int32 × Int32 × Int32 × Int32 × (Nat → Int32) × (Nat → Int32) × Int32 × Int64 × Int64) :=
  Option.bind (X3_mergesAll F ybd yrow ymk yrm yst ypc ybu ybn ymg ysp yjn ymd ybg ymm yup yun) fun (yrow6, ymk6, yrm6, yst6, ypc6, ybn6, ymg6, ysp6, yjn6, ymd6, ybg6, ymm6, yup6, yun6) =>
  some (ypc6, 0, yrow6, ymk6, yrm6, yst6, ypc6, ybn6, ymg6, ysp6, yjn6, ymd6, ybg6, ymm6, yup6, yun6)
def X3_rebuild_L56 (yrow : Nat → Int32) (ymk : Nat → Int32) (yrm : Int32) (F : Nat) : Nat → Int32 → (Nat → Int32) → Int32 → Option ((Nat → Int32) × Int32)
  | 0, _, _, _ => none
  | n + 1, x3, ymdl56, ymml56 =>
    (if yrm ≤ x3 then
      some (ymdl56, ymml56)
    else
      (if ¬ (x3 < 0 ∨ 256 ≤ (Int32.toNatClampNeg x3)) then
      (if (ymk (Int32.toNatClampNeg x3)) = 0 then
        (if ¬ (x3 < 0 ∨ 256 ≤ (Int32.toNatClampNeg x3)) then
        Option.bind (X3_makes F ymdl56 ymml56 (yrow (Int32.toNatClampNeg x3))) fun (ymd80, ymm80) =>
        bnd (x3 + 1 : Int32) fun x3_2 =>
        X3_rebuild_L56 yrow ymk yrm F n x3_2 ymd80 ymm80 else none)
      else
        bnd (x3 + 1 : Int32) fun x3_1 =>
        X3_rebuild_L56 yrow ymk yrm F n x3_1 ymdl56 ymml56) else none))
def X3_rebuild_L91 (ybu : Nat → Int32) (ybn : Int32) (F : Nat) : Nat → Int32 → (Nat → Int32) → Int32 → Option ((Nat → Int32) × Int32)
  | 0, _, _, _ => none
  | n + 1, x3_3, ymdl91, ymml91 =>
    (if ybn ≤ x3_3 then
      some (ymdl91, ymml91)
    else
      (if ¬ (x3_3 < 0 ∨ 16 ≤ (Int32.toNatClampNeg x3_3)) then
      Option.bind (X3_makes F ymdl91 ymml91 (ybu (Int32.toNatClampNeg x3_3))) fun (ymd106, ymm106) =>
      bnd (x3_3 + 1 : Int32) fun x3_4 =>
      X3_rebuild_L91 ybu ybn F n x3_4 ymd106 ymm106 else none))
def X3_rebuild (F : Nat) (yth : Int32) (ybd : Int32) (yro : Int32) (yrow : Nat → Int32) (ymk : Nat → Int32) (yrm : Int32) (yst : Nat → Int32) (ypc : Int32) (ybu : Nat → Int32) (ybn : Int32) (ymd : Nat → Int32) (ybg : Nat → Int32) (ymm : Int32) (yup : Int64) (yun : Int64) (p1 : Int32) (p2 : Int32) : Option (Int32 × Int32 × Int32 × Int32 × (Nat → Int32) × (Nat → Int32) × Int32 × (Nat → Int32) × Int32 × Int32 × (Nat → Int32) × (Nat → Int32) × Int32 × Int64 × Int64) :=
  bnd ((if p1 < 0 then 1 else (if 20 < p1 then 1 else (if p2 < 1 then 1 else (if p2 ≤ 16 then 0 else 1)))) : Int32) fun y27 =>
  (if y27 ≤ 0 then
    Option.bind (X3_rebuild_L56 yrow ymk yrm F F 0 ymd 0) fun (ymdx56, ymmx56) =>
    Option.bind (X3_rebuild_L91 ybu ybn F F 0 ymdx56 ymmx56) fun (ymdx91, ymmx91) =>
    Option.bind (X3_cuts F p1 ymdx91 ybg ymmx91 yup yun 0 0) fun (r119, ybg119, yup119, yun119) =>
    Option.bind (X3_becomes F yrow ymk yrm yst ypc ybn ymdx91 ybg119 ymmx91 r119) fun (yrow122, ymk122, yrm122, yst122, ypc122, ybn122) =>
    some (ypc122, y27, p1, p2, yrow122, ymk122, yrm122, yst122, ypc122, ybn122, ymdx91, ybg119, ymmx91, yup119, yun119)
  else
    some (0, y27, ybd, yro, yrow, ymk, yrm, yst, ypc, ybn, ymd, ybg, ymm, yup, yun))
def X3_size (F : Nat) (yth : Int32) (yrow : Nat → Int32) (ymk : Nat → Int32) (yrm : Int32) (ybu : Nat → Int32) (ybn : Int32) : Option (Int32 × Int32) :=
  Option.bind (X3_keys F yrow ymk yrm ybu ybn) fun r6 =>
  some (r6, 0)
def X3_contains (F : Nat) (yth : Int32) (yrow : Nat → Int32) (ymk : Nat → Int32) (yrm : Int32) (ybu : Nat → Int32) (ybn : Int32) (p1 : Int32) : Option (Int32 × Int32) :=
  Option.bind (X3_isThere F yrow ymk yrm ybu ybn p1) fun r7 =>
  (if r7 = 0 ∨ r7 = 1 then some (r7, 0) else none)
def X3_rank (F : Nat) (yth : Int32) (yrow : Nat → Int32) (ymk : Nat → Int32) (yrm : Int32) (ybu : Nat → Int32) (ybn : Int32) (p1 : Int32) : Option (Int32 × Int32) :=
  Option.bind (X3_below F yrow ymk yrm ybu ybn (Int32.toInt64 p1)) fun r8 =>
  some (r8, 0)
def X3_behindSo_L4 (p1 : Int32) (yrow : Nat → Int32) (ymk : Nat → Int32) (yrm : Int32) (ybu : Nat → Int32) (ybn : Int32) (F : Nat) : Nat → Int32 → Int32 → Option (Int32)
  | 0, _, _ => none
  | n + 1, x3, x2 =>
    (if yrm ≤ x3 then
      some x2
    else
      (if ¬ (x3 < 0 ∨ 256 ≤ (Int32.toNatClampNeg x3)) then
      (if (ymk (Int32.toNatClampNeg x3)) = 0 then
        (if ¬ (x3 < 0 ∨ 256 ≤ (Int32.toNatClampNeg x3)) then
        Option.bind (X3_below F yrow ymk yrm ybu ybn (Int32.toInt64 (yrow (Int32.toNatClampNeg x3)))) fun r29 =>
        (if r29 = p1 then
          (if ¬ (x3 < 0 ∨ 256 ≤ (Int32.toNatClampNeg x3)) then
          bnd ((yrow (Int32.toNatClampNeg x3)) : Int32) fun x2_1 =>
          bnd (x3 + 1 : Int32) fun x3_3 =>
          X3_behindSo_L4 p1 yrow ymk yrm ybu ybn F n x3_3 x2_1 else none)
        else
          bnd (x3 + 1 : Int32) fun x3_2 =>
          X3_behindSo_L4 p1 yrow ymk yrm ybu ybn F n x3_2 x2) else none)
      else
        bnd (x3 + 1 : Int32) fun x3_1 =>
        X3_behindSo_L4 p1 yrow ymk yrm ybu ybn F n x3_1 x2) else none))
def X3_behindSo_L55 (p1 : Int32) (yrow : Nat → Int32) (ymk : Nat → Int32) (yrm : Int32) (ybu : Nat → Int32) (ybn : Int32) (F : Nat) : Nat → Int32 → Int32 → Option (Int32)
  | 0, _, _ => none
  | n + 1, x3_4, x2_3 =>
    (if ybn ≤ x3_4 then
      some x2_3
    else
      (if ¬ (x3_4 < 0 ∨ 16 ≤ (Int32.toNatClampNeg x3_4)) then
      Option.bind (X3_below F yrow ymk yrm ybu ybn (Int32.toInt64 (ybu (Int32.toNatClampNeg x3_4)))) fun r71 =>
      (if r71 = p1 then
        (if ¬ (x3_4 < 0 ∨ 16 ≤ (Int32.toNatClampNeg x3_4)) then
        bnd ((ybu (Int32.toNatClampNeg x3_4)) : Int32) fun x2_4 =>
        bnd (x3_4 + 1 : Int32) fun x3_6 =>
        X3_behindSo_L55 p1 yrow ymk yrm ybu ybn F n x3_6 x2_4 else none)
      else
        bnd (x3_4 + 1 : Int32) fun x3_5 =>
        X3_behindSo_L55 p1 yrow ymk yrm ybu ybn F n x3_5 x2_3) else none))
def X3_behindSo (F : Nat) (yrow : Nat → Int32) (ymk : Nat → Int32) (yrm : Int32) (ybu : Nat → Int32) (ybn : Int32) (p1 : Int32) : Option Int32 :=
  Option.bind (X3_behindSo_L4 p1 yrow ymk yrm ybu ybn F F 0 0) fun x2_2 =>
  Option.bind (X3_behindSo_L55 p1 yrow ymk yrm ybu ybn F F 0 x2_2) fun x2_5 =>
  some x2_5
def X3_select (F : Nat) (yth : Int32) (yrow : Nat → Int32) (ymk : Nat → Int32) (yrm : Int32) (ybu : Nat → Int32) (ybn : Int32) (p1 : Int32) : Option (Int32 × Int32) :=
  Option.bind (α := Int32) (
    (if p1 < 0 then
      some 1
    else
      Option.bind (X3_keys F yrow ymk yrm ybu ybn) fun r7 =>
      (if r7 ≤ p1 then
        some 1
      else
        some 0))) fun y18 =>
  (if y18 ≤ 0 then
    Option.bind (X3_behindSo F yrow ymk yrm ybu ybn p1) fun r34 =>
    some (r34, y18)
  else
    some (0, y18))
def X3_ceiling (F : Nat) (yth : Int32) (yrow : Nat → Int32) (ymk : Nat → Int32) (yrm : Int32) (ybu : Nat → Int32) (ybn : Int32) (p1 : Int32) : Option (Int32 × Int32) :=
  Option.bind (X3_below F yrow ymk yrm ybu ybn (Int32.toInt64 p1)) fun r3 =>
  Option.bind (X3_keys F yrow ymk yrm ybu ybn) fun r10 =>
  bnd ((if r10 ≤ r3 then 1 else 0) : Int32) fun y21 =>
  (if y21 ≤ 0 then
    Option.bind (X3_behindSo F yrow ymk yrm ybu ybn r3) fun r37 =>
    some (r37, y21)
  else
    some (0, y21))
def X3_count (F : Nat) (yth : Int32) (yrow : Nat → Int32) (ymk : Nat → Int32) (yrm : Int32) (ybu : Nat → Int32) (ybn : Int32) (p1 : Int32) (p2 : Int32) : Option (Int32 × Int32) :=
  (if p1 ≤ p2 then
    Option.bind (X3_below F yrow ymk yrm ybu ybn ((Int32.toInt64 p2) + 1)) fun r19 =>
    Option.bind (X3_below F yrow ymk yrm ybu ybn (Int32.toInt64 p1)) fun r25 =>
    some ((r19 - r25), 0)
  else
    some (0, 0))
def X3_place (F : Nat) (yth : Int32) (yrow : Nat → Int32) (yrm : Int32) (p1 : Int32) : Option (Int32 × Int32) :=
  Option.bind (X3_placeOf F yrow yrm p1) fun r7 =>
  some (r7, 0)
def X3_guessOf (F : Nat) (ybd : Int32) (yrow : Nat → Int32) (yrm : Int32) (yst : Nat → Int32) (ypc : Int32) (yup : Int64) (yun : Int64) (p1 : Int32) (p2 : Int32) : Option (Int64 × Int64 × Int64) :=
  Option.bind (X3_lays F ybd yrow yrm yst ypc yup yun p2) fun (yup2, yun2) =>
  (if ¬ (p2 < 0 ∨ 257 ≤ (Int32.toNatClampNeg p2)) then
  (if ¬ (p2 < 0 ∨ 257 ≤ (Int32.toNatClampNeg p2)) then
  (if ¬ ((yst (Int32.toNatClampNeg p2)) < 0 ∨ 256 ≤ (Int32.toNatClampNeg (yst (Int32.toNatClampNeg p2)))) then
  (if ¬ yun2 = 0 then
  some (((Int32.toInt64 (yst (Int32.toNatClampNeg p2))) + ((yup2 * ((Int32.toInt64 p1) - (Int32.toInt64 (yrow (Int32.toNatClampNeg (yst (Int32.toNatClampNeg p2))))))) / yun2)), yup2, yun2) else none) else none) else none) else none)
def X3_guess (F : Nat) (yth : Int32) (ybd : Int32) (yrow : Nat → Int32) (yrm : Int32) (yst : Nat → Int32) (ypc : Int32) (yup : Int64) (yun : Int64) (p1 : Int32) : Option (Int64 × Int32 × Int64 × Int64) :=
  Option.bind (X3_isKey F p1) fun r2 =>
  bnd ((if r2 = 0 then 1 else 0) : Int32) fun y13 =>
  Option.bind (X3_pieceOf F yrow yst ypc p1) fun r18 =>
  (if 0 < y13 then
    some ((-1), y13, yup, yun)
  else
    (if r18 = (-1) then
      some ((-1), y13, yup, yun)
    else
      Option.bind (X3_guessOf F ybd yrow yrm yst ypc yup yun p1 r18) fun (r43, yup43, yun43) =>
      some (r43, y13, yup43, yun43)))
def X3_looks_L142 (p1 : Int32) (yrow : Nat → Int32) : Nat → Int32 → Int64 → Int64 → Option (Int32)
  | 0, _, _, _ => none
  | n + 1, x10, x8, x6 =>
    (if x8 ≤ x6 then
      some x10
    else
      bnd (((x6 + x8) / 2) : Int64) fun x11 =>
      bnd (x10 + 1 : Int32) fun x10_1 =>
      (if ¬ ((Int64.toInt32 x11) < 0 ∨ 256 ≤ (Int32.toNatClampNeg (Int64.toInt32 x11))) then
      (if p1 ≤ (yrow (Int32.toNatClampNeg (Int64.toInt32 x11))) then
        X3_looks_L142 p1 yrow n x10_1 x11 x6
      else
        bnd ((x11 + 1) : Int64) fun x6_1 =>
        X3_looks_L142 p1 yrow n x10_1 x8 x6_1) else none))
def X3_looks (F : Nat) (yth : Int32) (ybd : Int32) (yrow : Nat → Int32) (yrm : Int32) (yst : Nat → Int32) (ypc : Int32) (yup : Int64) (yun : Int64) (p1 : Int32) : Option (Int32 × Int32 × Int64 × Int64) :=
  Option.bind (X3_isKey F p1) fun r2 =>
  bnd ((if r2 = 0 then 1 else 0) : Int32) fun y13 =>
  Option.bind (X3_pieceOf F yrow yst ypc p1) fun r18 =>
  (if 0 < y13 then
    some (0, y13, yup, yun)
  else
    (if r18 = (-1) then
      some (0, y13, yup, yun)
    else
      Option.bind (X3_guessOf F ybd yrow yrm yst ypc yup yun p1 r18) fun (r39, yup39, yun39) =>
      Option.bind (X3_behind F yrm yst ypc r18) fun r45 =>
      (if ¬ (r18 < 0 ∨ 257 ≤ (Int32.toNatClampNeg r18)) then
      Option.bind (α := Int64) (
        (if (r39 - (Int32.toInt64 ybd)) ≤ (Int32.toInt64 (yst (Int32.toNatClampNeg r18))) then
          (if ¬ (r18 < 0 ∨ 257 ≤ (Int32.toNatClampNeg r18)) then
          some (Int32.toInt64 (yst (Int32.toNatClampNeg r18))) else none)
        else
          some (r39 - (Int32.toInt64 ybd)))) fun y85 =>
      bnd ((if (Int32.toInt64 r45) ≤ y85 then (Int32.toInt64 r45) else y85) : Int64) fun y104 =>
      bnd ((if (Int32.toInt64 r45) ≤ ((r39 + (Int32.toInt64 ybd)) + 1) then (Int32.toInt64 r45) else ((r39 + (Int32.toInt64 ybd)) + 1)) : Int64) fun y137 =>
      Option.bind (X3_looks_L142 p1 yrow F 0 y137 y104) fun x10_2 =>
      some (x10_2, y13, yup39, yun39) else none)))
def X3_worstError_L9 (ybd : Int32) (yrow : Nat → Int32) (yrm : Int32) (yst : Nat → Int32) (ypc : Int32) (F : Nat) : Nat → Int32 → Int64 → Int64 → Int64 → Option (Int64 × Int64 × Int64)
  | 0, _, _, _, _ => none
  | n + 1, x3, x1, yupl9, yunl9 =>
    (if yrm ≤ x3 then
      some (x1, yupl9, yunl9)
    else
      (if ¬ (x3 < 0 ∨ 256 ≤ (Int32.toNatClampNeg x3)) then
      (if ¬ (x3 < 0 ∨ 256 ≤ (Int32.toNatClampNeg x3)) then
      Option.bind (X3_pieceOf F yrow yst ypc (yrow (Int32.toNatClampNeg x3))) fun r31 =>
      Option.bind (X3_guessOf F ybd yrow yrm yst ypc yupl9 yunl9 (yrow (Int32.toNatClampNeg x3)) r31) fun (r34, yup34, yun34) =>
      bnd ((r34 - (Int32.toInt64 x3)) : Int64) fun x4 =>
      bnd ((if 0 ≤ x4 then x4 else (-x4)) : Int64) fun y57 =>
      (if y57 ≤ x1 then
        bnd (x3 + 1 : Int32) fun x3_1 =>
        X3_worstError_L9 ybd yrow yrm yst ypc F n x3_1 x1 yup34 yun34
      else
        bnd (x3 + 1 : Int32) fun x3_2 =>
        X3_worstError_L9 ybd yrow yrm yst ypc F n x3_2 y57 yup34 yun34) else none) else none))
def X3_worstError (F : Nat) (yth : Int32) (ybd : Int32) (yrow : Nat → Int32) (yrm : Int32) (yst : Nat → Int32) (ypc : Int32) (yup : Int64) (yun : Int64) : Option (Int32 × Int32 × Int64 × Int64) :=
  Option.bind (X3_worstError_L9 ybd yrow yrm yst ypc F F 0 0 yup yun) fun (x1_1, yupx9, yunx9) =>
  some ((Int64.toInt32 x1_1), 0, yupx9, yunx9)
def X3_pieces (F : Nat) (yth : Int32) (ypc : Int32) : Option (Int32 × Int32) :=
  some (ypc, 0)
def X3_asks (F : Nat) (yth : Int32) (ypc : Int32) (p1 : Int32) : Option (Int32 × Int32) :=
  bnd ((if p1 < 0 then 1 else (if ypc ≤ p1 then 1 else 0)) : Int32) fun y18 =>
  (if y18 = 0 then
    some (1, y18)
  else
    some (0, y18))
def X3_start (F : Nat) (yth : Int32) (yst : Nat → Int32) (ypc : Int32) (p1 : Int32) : Option (Int32 × Int32) :=
  Option.bind (X3_asks F yth ypc p1) fun (r2, yth2) =>
  (if r2 = 0 then
    some (0, yth2)
  else
    (if ¬ (p1 < 0 ∨ 257 ≤ (Int32.toNatClampNeg p1)) then
    some ((yst (Int32.toNatClampNeg p1)), yth2) else none))
def X3_firstKey (F : Nat) (yth : Int32) (yrow : Nat → Int32) (yst : Nat → Int32) (ypc : Int32) (p1 : Int32) : Option (Int32 × Int32) :=
  Option.bind (X3_asks F yth ypc p1) fun (r2, yth2) =>
  (if r2 = 0 then
    some (0, yth2)
  else
    (if ¬ (p1 < 0 ∨ 257 ≤ (Int32.toNatClampNeg p1)) then
    (if ¬ ((yst (Int32.toNatClampNeg p1)) < 0 ∨ 256 ≤ (Int32.toNatClampNeg (yst (Int32.toNatClampNeg p1)))) then
    some ((yrow (Int32.toNatClampNeg (yst (Int32.toNatClampNeg p1)))), yth2) else none) else none))
def X3_riseOf (F : Nat) (ybd : Int32) (yrow : Nat → Int32) (yrm : Int32) (yst : Nat → Int32) (ypc : Int32) (yup : Int64) (yun : Int64) (p1 : Int32) : Option (Int32 × Int64 × Int64) :=
  Option.bind (X3_lays F ybd yrow yrm yst ypc yup yun p1) fun (yup2, yun2) =>
  some ((Int64.toInt32 yup2), yup2, yun2)
def X3_runOf (F : Nat) (ybd : Int32) (yrow : Nat → Int32) (yrm : Int32) (yst : Nat → Int32) (ypc : Int32) (yup : Int64) (yun : Int64) (p1 : Int32) : Option (Int32 × Int64 × Int64) :=
  Option.bind (X3_lays F ybd yrow yrm yst ypc yup yun p1) fun (yup2, yun2) =>
  some ((Int64.toInt32 yun2), yup2, yun2)
def X3_rise (F : Nat) (yth : Int32) (ybd : Int32) (yrow : Nat → Int32) (yrm : Int32) (yst : Nat → Int32) (ypc : Int32) (yup : Int64) (yun : Int64) (p1 : Int32) : Option (Int32 × Int32 × Int64 × Int64) :=
  Option.bind (X3_asks F yth ypc p1) fun (r2, yth2) =>
  (if r2 = 0 then
    some (0, yth2, yup, yun)
  else
    Option.bind (X3_riseOf F ybd yrow yrm yst ypc yup yun p1) fun (r10, yup10, yun10) =>
    some (r10, yth2, yup10, yun10))
def X3_run (F : Nat) (yth : Int32) (ybd : Int32) (yrow : Nat → Int32) (yrm : Int32) (yst : Nat → Int32) (ypc : Int32) (yup : Int64) (yun : Int64) (p1 : Int32) : Option (Int32 × Int32 × Int64 × Int64) :=
  Option.bind (X3_asks F yth ypc p1) fun (r2, yth2) =>
  (if r2 = 0 then
    some (0, yth2, yup, yun)
  else
    Option.bind (X3_runOf F ybd yrow yrm yst ypc yup yun p1) fun (r10, yup10, yun10) =>
    some (r10, yth2, yup10, yun10))
def X3_alike_L19 (ybd : Int32) (yrow : Nat → Int32) (yrm : Int32) (yst : Nat → Int32) (ypc : Int32) (F : Nat) (r4 : Int32) (r11 : Int32) : Nat → Int32 → Int32 → Int64 → Int64 → Option (Int32 × Int64 × Int64)
  | 0, _, _, _, _ => none
  | n + 1, x6, x3, yupl19, yunl19 =>
    (if ypc ≤ x6 then
      some (x3, yupl19, yunl19)
    else
      Option.bind (X3_riseOf F ybd yrow yrm yst ypc yupl19 yunl19 x6) fun (r32, yup32, yun32) =>
      (if r32 = r4 then
        Option.bind (X3_runOf F ybd yrow yrm yst ypc yup32 yun32 x6) fun (r43, yup43, yun43) =>
        (if r43 = r11 then
          bnd ((x3 + 1) : Int32) fun x3_3 =>
          bnd (x6 + 1 : Int32) fun x6_3 =>
          X3_alike_L19 ybd yrow yrm yst ypc F r4 r11 n x6_3 x3_3 yup43 yun43
        else
          bnd ((x3 + 0) : Int32) fun x3_2 =>
          bnd (x6 + 1 : Int32) fun x6_2 =>
          X3_alike_L19 ybd yrow yrm yst ypc F r4 r11 n x6_2 x3_2 yup43 yun43)
      else
        bnd ((x3 + 0) : Int32) fun x3_1 =>
        bnd (x6 + 1 : Int32) fun x6_1 =>
        X3_alike_L19 ybd yrow yrm yst ypc F r4 r11 n x6_1 x3_1 yup32 yun32))
def X3_alike (F : Nat) (ybd : Int32) (yrow : Nat → Int32) (yrm : Int32) (yst : Nat → Int32) (ypc : Int32) (yup : Int64) (yun : Int64) (p1 : Int32) (p2 : Int32) : Option (Int32 × Int64 × Int64) :=
  Option.bind (X3_riseOf F ybd yrow yrm yst ypc yup yun p1) fun (r4, yup4, yun4) =>
  Option.bind (X3_runOf F ybd yrow yrm yst ypc yup4 yun4 p1) fun (r11, yup11, yun11) =>
  Option.bind (X3_alike_L19 ybd yrow yrm yst ypc F r4 r11 F p2 0 yup11 yun11) fun (x3_4, yupx19, yunx19) =>
  some (x3_4, yupx19, yunx19)
def X3_slopes_L9 (ybd : Int32) (yrow : Nat → Int32) (yrm : Int32) (yst : Nat → Int32) (ypc : Int32) (F : Nat) : Nat → Int32 → Int32 → Int64 → Int64 → Option (Int32 × Int64 × Int64)
  | 0, _, _, _, _ => none
  | n + 1, x2, x1, yupl9, yunl9 =>
    (if ypc ≤ x2 then
      some (x1, yupl9, yunl9)
    else
      Option.bind (X3_alike F ybd yrow yrm yst ypc yupl9 yunl9 x2 x2) fun (r21, yup21, yun21) =>
      (if r21 = 1 then
        bnd ((x1 + 1) : Int32) fun x1_2 =>
        bnd (x2 + 1 : Int32) fun x2_2 =>
        X3_slopes_L9 ybd yrow yrm yst ypc F n x2_2 x1_2 yup21 yun21
      else
        bnd ((x1 + 0) : Int32) fun x1_1 =>
        bnd (x2 + 1 : Int32) fun x2_1 =>
        X3_slopes_L9 ybd yrow yrm yst ypc F n x2_1 x1_1 yup21 yun21))
def X3_slopes (F : Nat) (yth : Int32) (ybd : Int32) (yrow : Nat → Int32) (yrm : Int32) (yst : Nat → Int32) (ypc : Int32) (yup : Int64) (yun : Int64) : Option (Int32 × Int32 × Int64 × Int64) :=
  Option.bind (X3_slopes_L9 ybd yrow yrm yst ypc F F 0 0 yup yun) fun (x1_3, yupx9, yunx9) =>
  some (x1_3, 0, yupx9, yunx9)
def X3_commonest_L11 (ybd : Int32) (yrow : Nat → Int32) (yrm : Int32) (yst : Nat → Int32) (ypc : Int32) (F : Nat) : Nat → Int32 → Int32 → Int32 → Int64 → Int64 → Option (Int32 × Int64 × Int64)
  | 0, _, _, _, _, _ => none
  | n + 1, x3, x2, x1, yupl11, yunl11 =>
    (if ypc ≤ x3 then
      some (x1, yupl11, yunl11)
    else
      Option.bind (X3_alike F ybd yrow yrm yst ypc yupl11 yunl11 x3 0) fun (r22, yup22, yun22) =>
      bnd ((if r22 ≤ x2 then x1 else x3) : Int32) fun y38 =>
      (if r22 ≤ x2 then
        bnd (x3 + 1 : Int32) fun x3_1 =>
        X3_commonest_L11 ybd yrow yrm yst ypc F n x3_1 x2 y38 yup22 yun22
      else
        bnd (x3 + 1 : Int32) fun x3_2 =>
        X3_commonest_L11 ybd yrow yrm yst ypc F n x3_2 r22 y38 yup22 yun22))
def X3_commonest (F : Nat) (yth : Int32) (ybd : Int32) (yrow : Nat → Int32) (yrm : Int32) (yst : Nat → Int32) (ypc : Int32) (yup : Int64) (yun : Int64) : Option (Int32 × Int32 × Int64 × Int64) :=
  Option.bind (X3_commonest_L11 ybd yrow yrm yst ypc F F 0 0 (-1) yup yun) fun (x1_1, yupx11, yunx11) =>
  some (x1_1, 0, yupx11, yunx11)
def X3_buffered (F : Nat) (yth : Int32) (ybn : Int32) : Option (Int32 × Int32) :=
  some (ybn, 0)
def X3_marked_L9 (ymk : Nat → Int32) (yrm : Int32) : Nat → Int32 → Int32 → Option (Int32)
  | 0, _, _ => none
  | n + 1, x2, x1 =>
    (if yrm ≤ x2 then
      some x1
    else
      (if ¬ (x2 < 0 ∨ 256 ≤ (Int32.toNatClampNeg x2)) then
      (if (ymk (Int32.toNatClampNeg x2)) = 0 then
        bnd ((x1 + 0) : Int32) fun x1_1 =>
        bnd (x2 + 1 : Int32) fun x2_1 =>
        X3_marked_L9 ymk yrm n x2_1 x1_1
      else
        bnd ((x1 + 1) : Int32) fun x1_2 =>
        bnd (x2 + 1 : Int32) fun x2_2 =>
        X3_marked_L9 ymk yrm n x2_2 x1_2) else none))
def X3_marked (F : Nat) (yth : Int32) (ymk : Nat → Int32) (yrm : Int32) : Option (Int32 × Int32) :=
  Option.bind (X3_marked_L9 ymk yrm F 0 0) fun x1_3 =>
  some (x1_3, 0)
def X3_rowSize (F : Nat) (yth : Int32) (yrm : Int32) : Option (Int32 × Int32) :=
  some (yrm, 0)
def X3_merges (F : Nat) (yth : Int32) (ymg : Int32) : Option (Int32 × Int32) :=
  some (ymg, 0)
def X3_splits (F : Nat) (yth : Int32) (ysp : Int32) : Option (Int32 × Int32) :=
  some (ysp, 0)
def X3_joins (F : Nat) (yth : Int32) (yjn : Int32) : Option (Int32 × Int32) :=
  some (yjn, 0)
def X2_needKey (F : Nat) (p1 : Int64) : Option (Nat ⊕ Unit) :=
  (if p1 < (-1000000) then
    some (Sum.inl 1)
  else
    (if p1 ≤ 1000000 then
      some (Sum.inr ())
    else
      some (Sum.inl 1)))
def X2_allKeys (F : Nat) (zk : zN) (zb : zN) : Option Int32 :=
  Option.bind (X0_length F zk) fun r4 =>
  Option.bind (X0_length F zb) fun r11 =>
  some (r4 + r11)
def X2_needToFollow (F : Nat) (zk : zN) (zb : zN) (p1 : Int32) (p2 : Int32) : Option (Nat ⊕ Unit) :=
  Option.bind (X0_below F 256 zk p1) fun r5 =>
  Option.bind (X0_length F zk) fun r12 =>
  Option.bind (α := Int32) (
    (if r5 = r12 then
      Option.bind (X0_below F 16 zb p1) fun r23 =>
      Option.bind (X0_length F zb) fun r30 =>
      (if r23 = r30 then
        some 1
      else
        some 0)
    else
      some 0)) fun y41 =>
  Option.bind (X2_allKeys F zk zb) fun r43 =>
  (if 256 < (r43 + p2) then
    some (Sum.inl 2)
  else
    (if y41 = 0 then
      some (Sum.inl 2)
    else
      some (Sum.inr ())))
def X2_noteTailSlope (F : Nat) (zs : zN) (zr : zN) (zu : zN) (zt : zT) : Option (zN × zN) :=
  Option.bind (X0_length F zs) fun r4 =>
  bnd ((r4 - 1) : Int32) fun x1 =>
  Option.bind (X1_leastRise F zt) fun r19 =>
  Option.bind (X0_put F 256 zr x1 r19) fun zr22 =>
  Option.bind (X1_leastRun F zt) fun r34 =>
  Option.bind (X0_put F 256 zu x1 r34) fun zu37 =>
  some (zr22, zu37)
def X2_beginPiece (F : Nat) (zs : zN) (zr : zN) (zu : zN) (zt : zT) (zbd : Int32) (p1 : Int32) (p2 : Int32) : Option (zN × zN × zN × zT) :=
  Option.bind (X1_begin F zt p1 p2 zbd) fun zt10 =>
  Option.bind (X0_push F 256 zs p2) fun zs18 =>
  Option.bind (X1_leastRise F zt10) fun r29 =>
  Option.bind (X0_push F 256 zr r29) fun zr32 =>
  Option.bind (X1_leastRun F zt10) fun r43 =>
  Option.bind (X0_push F 256 zu r43) fun zu46 =>
  some (zs18, zr32, zu46, zt10)
def X2_addLast (F : Nat) (zk : zN) (zm : zN) (zs : zN) (zr : zN) (zu : zN) (zt : zT) (zbd : Int32) (p1 : Int32) : Option (zN × zN × zN × zN × zN × zT) :=
  Option.bind (X0_length F zk) fun r4 =>
  Option.bind (X0_push F 256 zk p1) fun zk13 =>
  Option.bind (X0_push F 256 zm 0) fun zm21 =>
  Option.bind (X0_length F zs) fun r28 =>
  (if r28 ≤ 0 then
    Option.bind (X2_beginPiece F zs zr zu zt zbd p1 r4) fun (zs56, zr56, zu56, zt56) =>
    some (zk13, zm21, zs56, zr56, zu56, zt56)
  else
    Option.bind (X1_take F zt p1 r4) fun (r40, zt40) =>
    (if r40 = 0 then
      Option.bind (X2_beginPiece F zs zr zu zt40 zbd p1 r4) fun (zs56_1, zr56_1, zu56_1, zt56_1) =>
      some (zk13, zm21, zs56_1, zr56_1, zu56_1, zt56_1)
    else
      Option.bind (X2_noteTailSlope F zs zr zu zt40) fun (zr47, zu47) =>
      some (zk13, zm21, zs, zr47, zu47, zt40)))
def X2_append (F : Nat) (zk : zN) (zm : zN) (zb : zN) (zs : zN) (zr : zN) (zu : zN) (zt : zT) (zbd : Int32) (p1 : Int32) : Option (Nat ⊕ (Int32 × zN × zN × zN × zN × zN × zT)) :=
  Option.bind (X2_needKey F (Int32.toInt64 p1)) fun z_ => match z_ with
  | Sum.inl e_ => some (Sum.inl e_)
  | Sum.inr _ =>
  Option.bind (X2_needToFollow F zk zb p1 1) fun z_ => match z_ with
  | Sum.inl e_ => some (Sum.inl e_)
  | Sum.inr _ =>
  Option.bind (X2_addLast F zk zm zs zr zu zt zbd p1) fun (zk13, zm13, zs13, zr13, zu13, zt13) =>
  Option.bind (X0_length F zs13) fun r20 =>
  some (Sum.inr (r20, zk13, zm13, zs13, zr13, zu13, zt13))
def X2_appendMany_L64 (p1 : Int32) (p2 : Int32) (p3 : Int32) (zbd : Int32) (F : Nat) : Nat → Int32 → zN → zN → zN → zN → zN → zT → Option (zN × zN × zN × zN × zN × zT)
  | 0, _, _, _, _, _, _, _ => none
  | n + 1, x6, zkl64, zml64, zsl64, zrl64, zul64, ztl64 =>
    (if p3 ≤ x6 then
      some (zkl64, zml64, zsl64, zrl64, zul64, ztl64)
    else
      Option.bind (X2_addLast F zkl64 zml64 zsl64 zrl64 zul64 ztl64 zbd (p1 + (p2 * x6))) fun (zk77, zm77, zs77, zr77, zu77, zt77) =>
      bnd (x6 + 1 : Int32) fun x6_1 =>
      X2_appendMany_L64 p1 p2 p3 zbd F n x6_1 zk77 zm77 zs77 zr77 zu77 zt77)
def X2_appendMany (F : Nat) (zk : zN) (zm : zN) (zb : zN) (zs : zN) (zr : zN) (zu : zN) (zt : zT) (zbd : Int32) (p1 : Int32) (p2 : Int32) (p3 : Int32) : Option (Nat ⊕ (Int32 × zN × zN × zN × zN × zN × zT)) :=
  (if p2 < 1 then
    some (Sum.inl 1)
  else
    (if 10000 < p2 then
      some (Sum.inl 1)
    else
      (if p3 < 1 then
        some (Sum.inl 1)
      else
        (if p3 ≤ 100 then
          bnd (((Int32.toInt64 p1) + ((Int32.toInt64 p2) * (Int32.toInt64 (p3 - 1)))) : Int64) fun x4 =>
          Option.bind (X2_needKey F (Int32.toInt64 p1)) fun z_ => match z_ with
          | Sum.inl e_ => some (Sum.inl e_)
          | Sum.inr _ =>
          Option.bind (X2_needKey F x4) fun z_ => match z_ with
          | Sum.inl e_ => some (Sum.inl e_)
          | Sum.inr _ =>
          Option.bind (X2_needToFollow F zk zb p1 p3) fun z_ => match z_ with
          | Sum.inl e_ => some (Sum.inl e_)
          | Sum.inr _ =>
          Option.bind (X2_appendMany_L64 p1 p2 p3 zbd F F 0 zk zm zs zr zu zt) fun (zkx64, zmx64, zsx64, zrx64, zux64, ztx64) =>
          Option.bind (X0_length F zsx64) fun r90 =>
          some (Sum.inr (r90, zkx64, zmx64, zsx64, zrx64, zux64, ztx64))
        else
          some (Sum.inl 1)))))
def X2_isThere (F : Nat) (zk : zN) (zm : zN) (zb : zN) (p1 : Int32) : Option Int32 :=
  Option.bind (X0_indexOf F 256 zk p1) fun r5 =>
  (if r5 = (-1) then
    Option.bind (X0_indexOf F 16 zb p1) fun r19 =>
    (if r19 = (-1) then
      some 0
    else
      some 1)
  else
    Option.bind (X0_at F 256 zm r5) fun r39 =>
    (if r39 = 0 then
      some 1
    else
      some 0))
def X2_gather_L26 (p4 : Int32) (zb : zN) (F : Nat) (r21 : Int32) : Nat → Int32 → zN → Option (Int32 × zN)
  | 0, _, _ => none
  | n + 1, x6_1, zfl26 =>
    (if p4 ≤ x6_1 then
      some (x6_1, zfl26)
    else
      Option.bind (X0_at F 16 zb x6_1) fun r39 =>
      (if r21 ≤ r39 then
        some (x6_1, zfl26)
      else
        Option.bind (X0_at F 16 zb x6_1) fun r57 =>
        Option.bind (X0_push F 256 zfl26 r57) fun zf60 =>
        bnd (x6_1 + 1 : Int32) fun x6_2 =>
        X2_gather_L26 p4 zb F r21 n x6_2 zf60))
def X2_gather_L9 (p2 : Int32) (p4 : Int32) (zk : zN) (zm : zN) (zb : zN) (F : Nat) : Nat → Int32 → Int32 → Int32 → zN → Option (Int32 × Int32 × zN)
  | 0, _, _, _, _ => none
  | n + 1, x7, x6, x5, zfl9 =>
    (if p2 ≤ x7 then
      some (x6, x5, zfl9)
    else
      Option.bind (X0_at F 256 zk x7) fun r21 =>
      Option.bind (X2_gather_L26 p4 zb F r21 F x6 zfl9) fun (x6_3, zfx26) =>
      Option.bind (X0_at F 256 zm x7) fun r75 =>
      (if r75 = 0 then
        Option.bind (X0_push F 256 zfx26 r21) fun zf87 =>
        bnd (x7 + 1 : Int32) fun x7_2 =>
        X2_gather_L9 p2 p4 zk zm zb F n x7_2 x6_3 x5 zf87
      else
        bnd (x7 + 1 : Int32) fun x7_1 =>
        X2_gather_L9 p2 p4 zk zm zb F n x7_1 x6_3 1 zfx26))
def X2_gather_L102 (p4 : Int32) (zb : zN) (F : Nat) : Nat → Int32 → zN → Option (zN)
  | 0, _, _ => none
  | n + 1, x6_5, zfl102 =>
    (if p4 ≤ x6_5 then
      some zfl102
    else
      Option.bind (X0_at F 16 zb x6_5) fun r119 =>
      Option.bind (X0_push F 256 zfl102 r119) fun zf122 =>
      bnd (x6_5 + 1 : Int32) fun x6_6 =>
      X2_gather_L102 p4 zb F n x6_6 zf122)
def X2_gather (F : Nat) (zk : zN) (zm : zN) (zb : zN) (zf : zN) (p1 : Int32) (p2 : Int32) (p3 : Int32) (p4 : Int32) : Option (Int32 × zN) :=
  Option.bind (X2_gather_L9 p2 p4 zk zm zb F F p1 p3 0 zf) fun (x6_4, x5_1, zfx9) =>
  Option.bind (X2_gather_L102 p4 zb F F x6_4 zfx9) fun zfx102 =>
  (if x5_1 = 0 ∨ x5_1 = 1 then some (x5_1, zfx102) else none)
def X2_cutFresh_L2 (p1 : Int32) (zf : zN) (zbd : Int32) (F : Nat) : Nat → Int32 → zT → zN → Int32 → Option (zT × zN × Int32)
  | 0, _, _, _, _ => none
  | n + 1, x2, ztl2, zgl2, zspl2 =>
    Option.bind (X0_length F zf) fun r7 =>
    (if r7 ≤ x2 then
      some (ztl2, zgl2, zspl2)
    else
      Option.bind (X0_at F 256 zf x2) fun r18 =>
      (if x2 = p1 then
        Option.bind (X1_begin F ztl2 r18 x2 zbd) fun zt49 =>
        Option.bind (X0_push F 256 zgl2 x2) fun zg57 =>
        (if x2 = p1 then
          bnd (x2 + 1 : Int32) fun x2_2 =>
          X2_cutFresh_L2 p1 zf zbd F n x2_2 zt49 zg57 (zspl2 + 0)
        else
          bnd (x2 + 1 : Int32) fun x2_1 =>
          X2_cutFresh_L2 p1 zf zbd F n x2_1 zt49 zg57 (zspl2 + 1))
      else
        Option.bind (X1_take F ztl2 r18 x2) fun (r33, zt33) =>
        (if r33 = 0 then
          Option.bind (X1_begin F zt33 r18 x2 zbd) fun zt49_1 =>
          Option.bind (X0_push F 256 zgl2 x2) fun zg57_1 =>
          (if x2 = p1 then
            bnd (x2 + 1 : Int32) fun x2_5 =>
            X2_cutFresh_L2 p1 zf zbd F n x2_5 zt49_1 zg57_1 (zspl2 + 0)
          else
            bnd (x2 + 1 : Int32) fun x2_4 =>
            X2_cutFresh_L2 p1 zf zbd F n x2_4 zt49_1 zg57_1 (zspl2 + 1))
        else
          bnd (x2 + 1 : Int32) fun x2_3 =>
          X2_cutFresh_L2 p1 zf zbd F n x2_3 zt33 zgl2 zspl2)))
def X2_cutFresh (F : Nat) (zt : zT) (zf : zN) (zg : zN) (zbd : Int32) (zsp : Int32) (p1 : Int32) : Option (zT × zN × Int32) :=
  Option.bind (X2_cutFresh_L2 p1 zf zbd F F p1 zt zg zsp) fun (ztx2, zgx2, zspx2) =>
  some (ztx2, zgx2, zspx2)
def X2_firstOf (F : Nat) (zk : zN) (zs : zN) (p1 : Int32) : Option Int32 :=
  Option.bind (X0_at F 256 zs p1) fun r9 =>
  Option.bind (X0_at F 256 zk r9) fun r12 =>
  some r12
def X2_endOf (F : Nat) (zk : zN) (zs : zN) (p1 : Int32) : Option Int32 :=
  Option.bind (X0_has F 256 zs (p1 + 1)) fun r7 =>
  (if r7 = 0 then
    Option.bind (X0_length F zk) fun r30 =>
    some r30
  else
    Option.bind (X0_at F 256 zs (p1 + 1)) fun r20 =>
    some r20)
def X2_mergePiece (F : Nat) (zk : zN) (zm : zN) (zb : zN) (zs : zN) (zt : zT) (zf : zN) (zg : zN) (zbd : Int32) (zsp : Int32) (p1 : Int32) : Option (zT × zN × zN × Int32) :=
  Option.bind (α := Int32) (
    (if p1 = 0 then
      some 0
    else
      Option.bind (X2_firstOf F zk zs p1) fun r14 =>
      Option.bind (X0_below F 16 zb r14) fun r17 =>
      some r17)) fun y20 =>
  Option.bind (X0_has F 256 zs (p1 + 1)) fun r28 =>
  Option.bind (α := Int32) (
    (if r28 = 0 then
      Option.bind (X0_length F zb) fun r55 =>
      some r55
    else
      Option.bind (X2_firstOf F zk zs (p1 + 1)) fun r42 =>
      Option.bind (X0_below F 16 zb r42) fun r45 =>
      some r45)) fun y58 =>
  Option.bind (X0_length F zf) fun r63 =>
  Option.bind (X0_at F 256 zs p1) fun r74 =>
  Option.bind (X2_endOf F zk zs p1) fun r79 =>
  Option.bind (X2_gather F zk zm zb zf r74 r79 y20 y58) fun (r84, zf84) =>
  (if r84 = 0 then
    (if y58 ≤ y20 then
      Option.bind (X0_push F 256 zg r63) fun zg114 =>
      some (zt, zf84, zg114, zsp)
    else
      Option.bind (X2_cutFresh F zt zf84 zg zbd zsp r63) fun (zt102_1, zg102_1, zsp102_1) =>
      some (zt102_1, zf84, zg102_1, zsp102_1))
  else
    Option.bind (X2_cutFresh F zt zf84 zg zbd zsp r63) fun (zt102, zg102, zsp102) =>
    some (zt102, zf84, zg102, zsp102))
def X2_clearPieces (F : Nat) (zs : zN) (zr : zN) (zu : zN) : Option (zN × zN × zN) :=
  Option.bind (X0_clear F zs) fun zs4 =>
  Option.bind (X0_clear F zr) fun zr11 =>
  Option.bind (X0_clear F zu) fun zu18 =>
  some (zs4, zr11, zu18)
def X2_clearRow (F : Nat) (zk : zN) (zm : zN) (zb : zN) (zs : zN) (zr : zN) (zu : zN) (zmc : Int32) : Option (zN × zN × zN × zN × zN × zN × Int32) :=
  Option.bind (X0_clear F zk) fun zk4 =>
  Option.bind (X0_clear F zm) fun zm11 =>
  Option.bind (X0_clear F zb) fun zb23 =>
  Option.bind (X2_clearPieces F zs zr zu) fun (zs27, zr27, zu27) =>
  some (zk4, zm11, zb23, zs27, zr27, zu27, 0)
def X2_tailTakes_L2 (p2 : Int32) (zk : zN) (F : Nat) : Nat → Int32 → zT → Option ((Int32 × zT) ⊕ zT)
  | 0, _, _ => none
  | n + 1, x3, ztl2 =>
    (if p2 ≤ x3 then
      some (Sum.inr ztl2)
    else
      Option.bind (X0_at F 256 zk x3) fun r16 =>
      Option.bind (X1_take F ztl2 r16 x3) fun (r20, zt20) =>
      (if r20 = 0 then
        some (Sum.inl (0, zt20))
      else
        bnd (x3 + 1 : Int32) fun x3_1 =>
        X2_tailTakes_L2 p2 zk F n x3_1 zt20))
def X2_tailTakes (F : Nat) (zk : zN) (zt : zT) (p1 : Int32) (p2 : Int32) : Option (Int32 × zT) :=
  Option.bind (X2_tailTakes_L2 p2 zk F F p1 zt) fun z_ => match z_ with
  | Sum.inl r_ => some r_
  | Sum.inr ztx2 =>
  some (1, ztx2)
def X2_joinFresh_L2 (zk : zN) (zg : zN) (zbd : Int32) (F : Nat) : Nat → Int32 → zN → zN → zN → zT → Int32 → Option (zN × zN × zN × zT × Int32)
  | 0, _, _, _, _, _, _ => none
  | n + 1, x1, zsl2, zrl2, zul2, ztl2, zjnl2 =>
    Option.bind (X0_length F zg) fun r7 =>
    (if r7 ≤ x1 then
      some (zsl2, zrl2, zul2, ztl2, zjnl2)
    else
      Option.bind (X0_at F 256 zg x1) fun r18 =>
      Option.bind (X0_has F 256 zg (x1 + 1)) fun r29 =>
      Option.bind (α := Int32) (
        (if r29 = 0 then
          Option.bind (X0_length F zk) fun r52 =>
          some r52
        else
          Option.bind (X0_at F 256 zg (x1 + 1)) fun r42 =>
          some r42)) fun y55 =>
      Option.bind (α := zN × zN × zN × zT × Int32) (
        (if x1 ≤ 0 then
          Option.bind (X0_at F 256 zk r18) fun r88 =>
          Option.bind (X2_beginPiece F zsl2 zrl2 zul2 ztl2 zbd r88 r18) fun (zs92, zr92, zu92, zt92) =>
          Option.bind (X2_tailTakes F zk zt92 (r18 + 1) y55) fun (r100, zt100) =>
          some (zs92, zr92, zu92, zt100, zjnl2)
        else
          Option.bind (X2_tailTakes F zk ztl2 r18 y55) fun (r63, zt63) =>
          (if r63 = 0 then
            Option.bind (X0_at F 256 zk r18) fun r88_1 =>
            Option.bind (X2_beginPiece F zsl2 zrl2 zul2 zt63 zbd r88_1 r18) fun (zs92_1, zr92_1, zu92_1, zt92_1) =>
            Option.bind (X2_tailTakes F zk zt92_1 (r18 + 1) y55) fun (r100_1, zt100_1) =>
            some (zs92_1, zr92_1, zu92_1, zt100_1, zjnl2)
          else
            some (zsl2, zrl2, zul2, zt63, (zjnl2 + 1))))) fun (zsj104, zrj104, zuj104, ztj104, zjnj104) =>
      Option.bind (X2_noteTailSlope F zsj104 zrj104 zuj104 ztj104) fun (zr105, zu105) =>
      bnd (x1 + 1 : Int32) fun x1_1 =>
      X2_joinFresh_L2 zk zg zbd F n x1_1 zsj104 zr105 zu105 ztj104 zjnj104)
def X2_joinFresh (F : Nat) (zk : zN) (zs : zN) (zr : zN) (zu : zN) (zt : zT) (zg : zN) (zbd : Int32) (zjn : Int32) : Option (zN × zN × zN × zT × Int32) :=
  Option.bind (X2_joinFresh_L2 zk zg zbd F F 0 zs zr zu zt zjn) fun (zsx2, zrx2, zux2, ztx2, zjnx2) =>
  some (zsx2, zrx2, zux2, ztx2, zjnx2)
def X2_mergeAll_L46 (zk : zN) (zm : zN) (zb : zN) (zs : zN) (zbd : Int32) (F : Nat) : Nat → Int32 → zT → zN → zN → Int32 → Option (zT × zN × zN × Int32)
  | 0, _, _, _, _, _ => none
  | n + 1, x1, ztl46, zfl46, zgl46, zspl46 =>
    Option.bind (X0_length F zs) fun r51 =>
    (if r51 ≤ x1 then
      some (ztl46, zfl46, zgl46, zspl46)
    else
      Option.bind (X2_mergePiece F zk zm zb zs ztl46 zfl46 zgl46 zbd zspl46 x1) fun (zt59, zf59, zg59, zsp59) =>
      bnd (x1 + 1 : Int32) fun x1_1 =>
      X2_mergeAll_L46 zk zm zb zs zbd F n x1_1 zt59 zf59 zg59 zsp59)
def X2_mergeAll_L74 (F : Nat) (zfx46 : zN) : Nat → Int32 → zN → zN → Option (zN × zN)
  | 0, _, _, _ => none
  | n + 1, x1_2, zkl74, zml74 =>
    Option.bind (X0_length F zfx46) fun r79 =>
    (if r79 ≤ x1_2 then
      some (zkl74, zml74)
    else
      Option.bind (X0_at F 256 zfx46 x1_2) fun r94 =>
      Option.bind (X0_push F 256 zkl74 r94) fun zk97 =>
      Option.bind (X0_push F 256 zml74 0) fun zm105 =>
      bnd (x1_2 + 1 : Int32) fun x1_3 =>
      X2_mergeAll_L74 F zfx46 n x1_3 zk97 zm105)
def X2_mergeAll (F : Nat) (zk : zN) (zm : zN) (zb : zN) (zs : zN) (zr : zN) (zu : zN) (zt : zT) (zf : zN) (zg : zN) (zbd : Int32) (zmc : Int32) (zmg : Int32) (zsp : Int32) (zjn : Int32) : Option (zN × zN × zN × zN × zN × zN × zT × zN × zN × Int32 × Int32 × Int32 × Int32) :=
  Option.bind (X0_clear F zf) fun zf4 =>
  Option.bind (X0_clear F zg) fun zg11 =>
  Option.bind (X0_length F zs) fun r18 =>
  Option.bind (α := zT × zN × zN × Int32) (
    (if r18 = 0 then
      Option.bind (X0_length F zb) fun r32 =>
      Option.bind (X2_gather F zk zm zb zf4 0 0 0 r32) fun (r35, zf35) =>
      Option.bind (X2_cutFresh F zt zf35 zg11 zbd zsp 0) fun (zt41, zg41, zsp41) =>
      some (zt41, zf35, zg41, zsp41)
    else
      some (zt, zf4, zg11, zsp))) fun (ztj44, zfj44, zgj44, zspj44) =>
  Option.bind (X2_mergeAll_L46 zk zm zb zs zbd F F 0 ztj44 zfj44 zgj44 zspj44) fun (ztx46, zfx46, zgx46, zspx46) =>
  Option.bind (X2_clearRow F zk zm zb zs zr zu zmc) fun (zk69, zm69, zb69, zs69, zr69, zu69, zmc69) =>
  Option.bind (X2_mergeAll_L74 F zfx46 F 0 zk69 zm69) fun (zkx74, zmx74) =>
  Option.bind (X2_joinFresh F zkx74 zs69 zr69 zu69 ztx46 zgx46 zbd zjn) fun (zs115, zr115, zu115, zt115, zjn115) =>
  some (zkx74, zmx74, zb69, zs115, zr115, zu115, zt115, zfx46, zgx46, zmc69, (zmg + 1), zspx46, zjn115)
def X2_addLate (F : Nat) (zk : zN) (zm : zN) (zb : zN) (zs : zN) (zr : zN) (zu : zN) (zt : zT) (zf : zN) (zg : zN) (zbd : Int32) (zro : Int32) (zmc : Int32) (zmg : Int32) (zsp : Int32) (zjn : Int32) (p1 : Int32) : Option (zN × zN × zN × zN × zN × zN × zT × zN × zN × Int32 × Int32 × Int32 × Int32) :=
  Option.bind (X0_below F 16 zb p1) fun r9 =>
  Option.bind (X0_squeezeIn F 16 zb r9 p1) fun zb13 =>
  Option.bind (X0_length F zb13) fun r20 =>
  (if r20 < zro then
    some (zk, zm, zb13, zs, zr, zu, zt, zf, zg, zmc, zmg, zsp, zjn)
  else
    Option.bind (X2_mergeAll F zk zm zb13 zs zr zu zt zf zg zbd zmc zmg zsp zjn) fun (zk31, zm31, zb31, zs31, zr31, zu31, zt31, zf31, zg31, zmc31, zmg31, zsp31, zjn31) =>
    some (zk31, zm31, zb31, zs31, zr31, zu31, zt31, zf31, zg31, zmc31, zmg31, zsp31, zjn31))
def X2_insert (F : Nat) (zk : zN) (zm : zN) (zb : zN) (zs : zN) (zr : zN) (zu : zN) (zt : zT) (zf : zN) (zg : zN) (zbd : Int32) (zro : Int32) (zmc : Int32) (zmg : Int32) (zsp : Int32) (zjn : Int32) (p1 : Int32) : Option (Nat ⊕ (Int32 × zN × zN × zN × zN × zN × zN × zT × zN × zN × Int32 × Int32 × Int32 × Int32)) :=
  Option.bind (X2_needKey F (Int32.toInt64 p1)) fun z_ => match z_ with
  | Sum.inl e_ => some (Sum.inl e_)
  | Sum.inr _ =>
  Option.bind (X0_indexOf F 256 zk p1) fun r10 =>
  Option.bind (X2_isThere F zk zm zb p1) fun r16 =>
  (if r16 = 0 then
    bnd (fun (_ : Unit) =>
      Option.bind (α := zN × zN × zN × zN × zN × zN × zT × zN × zN × Int32 × Int32 × Int32 × Int32) (
        (if r10 = (-1) then
          Option.bind (X2_addLate F zk zm zb zs zr zu zt zf zg zbd zro zmc zmg zsp zjn p1) fun (zk54, zm54, zb54, zs54, zr54, zu54, zt54, zf54, zg54, zmc54, zmg54, zsp54, zjn54) =>
          some (zk54, zm54, zb54, zs54, zr54, zu54, zt54, zf54, zg54, zmc54, zmg54, zsp54, zjn54)
        else
          Option.bind (X0_put F 256 zm r10 0) fun zm66 =>
          some (zk, zm66, zb, zs, zr, zu, zt, zf, zg, (zmc - 1), zmg, zsp, zjn))) fun (zkj79, zmj79, zbj79, zsj79, zrj79, zuj79, ztj79, zfj79, zgj79, zmcj79, zmgj79, zspj79, zjnj79) =>
      Option.bind (X0_length F zbj79) fun r83 =>
      some (Sum.inr (r83, zkj79, zmj79, zbj79, zsj79, zrj79, zuj79, ztj79, zfj79, zgj79, zmcj79, zmgj79, zspj79, zjnj79))) fun k_47 =>
    (if r10 = (-1) then
      Option.bind (X2_allKeys F zk zb) fun r28 =>
      (if r28 < 256 then
        k_47 ()
      else
        some (Sum.inl 2))
    else
      k_47 ())
  else
    some (Sum.inl 2))
def X2_keysThere (F : Nat) (zk : zN) (zb : zN) (zmc : Int32) : Option Int32 :=
  Option.bind (X2_allKeys F zk zb) fun r1 =>
  some (r1 - zmc)
def X2_remove (F : Nat) (zk : zN) (zm : zN) (zb : zN) (zmc : Int32) (p1 : Int32) : Option (Nat ⊕ (Int32 × zN × zN × Int32)) :=
  Option.bind (X2_isThere F zk zm zb p1) fun r2 =>
  (if r2 = 0 then
    some (Sum.inl 4)
  else
    Option.bind (X0_indexOf F 256 zk p1) fun r23 =>
    Option.bind (α := zN × zN × Int32) (
      (if r23 = (-1) then
        Option.bind (X0_below F 16 zb p1) fun r41 =>
        Option.bind (X0_takeOut F 16 zb r41) fun zb44 =>
        some (zm, zb44, zmc)
      else
        Option.bind (X0_put F 256 zm r23 1) fun zm56 =>
        some (zm56, zb, (zmc + 1)))) fun (zmj69, zbj69, zmcj69) =>
    Option.bind (X2_keysThere F zk zbj69 zmcj69) fun r70 =>
    some (Sum.inr (r70, zmj69, zbj69, zmcj69)))
def X2_merge (F : Nat) (zk : zN) (zm : zN) (zb : zN) (zs : zN) (zr : zN) (zu : zN) (zt : zT) (zf : zN) (zg : zN) (zbd : Int32) (zmc : Int32) (zmg : Int32) (zsp : Int32) (zjn : Int32) : Option (Int32 × zN × zN × zN × zN × zN × zN × zT × zN × zN × Int32 × Int32 × Int32 × Int32) :=
  Option.bind (X2_mergeAll F zk zm zb zs zr zu zt zf zg zbd zmc zmg zsp zjn) fun (zk1, zm1, zb1, zs1, zr1, zu1, zt1, zf1, zg1, zmc1, zmg1, zsp1, zjn1) =>
  Option.bind (X0_length F zs1) fun r8 =>
  some (r8, zk1, zm1, zb1, zs1, zr1, zu1, zt1, zf1, zg1, zmc1, zmg1, zsp1, zjn1)
def X2_gatherAll (F : Nat) (zk : zN) (zm : zN) (zb : zN) (zf : zN) : Option zN :=
  Option.bind (X0_clear F zf) fun zf4 =>
  Option.bind (X0_length F zk) fun r13 =>
  Option.bind (X0_length F zb) fun r21 =>
  Option.bind (X2_gather F zk zm zb zf4 0 r13 0 r21) fun (r24, zf24) =>
  some zf24
def X2_rebuild_L51 (p1 : Int32) (F : Nat) (zf42 : zN) : Nat → Int32 → zN → zN → zN → zN → zN → zT → Option (zN × zN × zN × zN × zN × zT)
  | 0, _, _, _, _, _, _, _ => none
  | n + 1, x3, zkl51, zml51, zsl51, zrl51, zul51, ztl51 =>
    Option.bind (X0_length F zf42) fun r56 =>
    (if r56 ≤ x3 then
      some (zkl51, zml51, zsl51, zrl51, zul51, ztl51)
    else
      Option.bind (X0_at F 256 zf42 x3) fun r68 =>
      Option.bind (X2_addLast F zkl51 zml51 zsl51 zrl51 zul51 ztl51 p1 r68) fun (zk71, zm71, zs71, zr71, zu71, zt71) =>
      bnd (x3 + 1 : Int32) fun x3_1 =>
      X2_rebuild_L51 p1 F zf42 n x3_1 zk71 zm71 zs71 zr71 zu71 zt71)
def X2_rebuild (F : Nat) (zk : zN) (zm : zN) (zb : zN) (zs : zN) (zr : zN) (zu : zN) (zt : zT) (zf : zN) (zbd : Int32) (zro : Int32) (zmc : Int32) (p1 : Int32) (p2 : Int32) : Option (Nat ⊕ (Int32 × zN × zN × zN × zN × zN × zN × zT × zN × Int32 × Int32 × Int32)) :=
  (if p1 < 0 then
    some (Sum.inl 1)
  else
    (if 20 < p1 then
      some (Sum.inl 1)
    else
      (if p2 < 1 then
        some (Sum.inl 1)
      else
        (if p2 ≤ 16 then
          Option.bind (X2_gatherAll F zk zm zb zf) fun zf42 =>
          Option.bind (X2_clearRow F zk zm zb zs zr zu zmc) fun (zk46, zm46, zb46, zs46, zr46, zu46, zmc46) =>
          Option.bind (X2_rebuild_L51 p1 F zf42 F 0 zk46 zm46 zs46 zr46 zu46 zt) fun (zkx51, zmx51, zsx51, zrx51, zux51, ztx51) =>
          Option.bind (X0_length F zsx51) fun r84 =>
          some (Sum.inr (r84, zkx51, zmx51, zb46, zsx51, zrx51, zux51, ztx51, zf42, p1, p2, zmc46))
        else
          some (Sum.inl 1)))))
def X2_size (F : Nat) (zk : zN) (zb : zN) (zmc : Int32) : Option Int32 :=
  Option.bind (X2_keysThere F zk zb zmc) fun r1 =>
  some r1
def X2_contains (F : Nat) (zk : zN) (zm : zN) (zb : zN) (p1 : Int32) : Option Int32 :=
  Option.bind (X2_isThere F zk zm zb p1) fun r2 =>
  (if r2 = 0 ∨ r2 = 1 then some r2 else none)
def X2_thereBelow_L21 (zm : zN) (F : Nat) (r5 : Int32) : Nat → Int32 → Int32 → Option (Int32)
  | 0, _, _ => none
  | n + 1, x4, x3 =>
    (if r5 ≤ x4 then
      some x3
    else
      Option.bind (X0_at F 256 zm x4) fun r35 =>
      bnd ((x3 + (1 - r35)) : Int32) fun x3_1 =>
      bnd (x4 + 1 : Int32) fun x4_1 =>
      X2_thereBelow_L21 zm F r5 n x4_1 x3_1)
def X2_thereBelow (F : Nat) (zk : zN) (zm : zN) (zb : zN) (p1 : Int32) : Option Int32 :=
  Option.bind (X0_below F 256 zk p1) fun r5 =>
  Option.bind (X0_below F 16 zb p1) fun r14 =>
  Option.bind (X2_thereBelow_L21 zm F r5 F 0 r14) fun x3_2 =>
  some x3_2
def X2_rank (F : Nat) (zk : zN) (zm : zN) (zb : zN) (p1 : Int32) : Option Int32 :=
  Option.bind (X2_thereBelow F zk zm zb p1) fun r2 =>
  some r2
def X2_keyThere (F : Nat) (zk : zN) (zm : zN) (zb : zN) (zf : zN) (p1 : Int32) : Option (Int32 × zN) :=
  Option.bind (X2_gatherAll F zk zm zb zf) fun zf1 =>
  Option.bind (X0_at F 256 zf1 p1) fun r9 =>
  some (r9, zf1)
def X2_select (F : Nat) (zk : zN) (zm : zN) (zb : zN) (zf : zN) (zmc : Int32) (p1 : Int32) : Option (Nat ⊕ (Int32 × zN)) :=
  (if p1 < 0 then
    some (Sum.inl 3)
  else
    Option.bind (X2_keysThere F zk zb zmc) fun r6 =>
    (if p1 < r6 then
      Option.bind (X2_keyThere F zk zm zb zf p1) fun (r24, zf24) =>
      some (Sum.inr (r24, zf24))
    else
      some (Sum.inl 3)))
def X2_ceiling (F : Nat) (zk : zN) (zm : zN) (zb : zN) (zf : zN) (zmc : Int32) (p1 : Int32) : Option (Nat ⊕ (Int32 × zN)) :=
  Option.bind (X2_thereBelow F zk zm zb p1) fun r2 =>
  Option.bind (X2_keysThere F zk zb zmc) fun r8 =>
  (if r2 < r8 then
    Option.bind (X2_keyThere F zk zm zb zf r2) fun (r26, zf26) =>
    some (Sum.inr (r26, zf26))
  else
    some (Sum.inl 4))
def X2_count (F : Nat) (zk : zN) (zm : zN) (zb : zN) (p1 : Int32) (p2 : Int32) : Option Int32 :=
  (if p1 ≤ p2 then
    Option.bind (X2_thereBelow F zk zm zb p2) fun r9 =>
    Option.bind (X2_thereBelow F zk zm zb p1) fun r14 =>
    Option.bind (X2_isThere F zk zm zb p2) fun r20 =>
    (if r20 = 0 then
      some ((r9 - r14) + 0)
    else
      some ((r9 - r14) + 1))
  else
    some 0)
def X2_place (F : Nat) (zk : zN) (p1 : Int32) : Option Int32 :=
  Option.bind (X0_below F 256 zk p1) fun r5 =>
  some r5
def X2_pieceOf (F : Nat) (zk : zN) (zs : zN) (p1 : Int32) : Option Int32 :=
  Option.bind (X0_below F 256 zk (p1 + 1)) fun r7 =>
  Option.bind (X0_below F 256 zs r7) fun r16 =>
  some (r16 - 1)
def X2_guessBy (F : Nat) (zk : zN) (zs : zN) (zr : zN) (zu : zN) (p1 : Int32) (p2 : Int32) : Option Int64 :=
  Option.bind (X0_at F 256 zu p1) fun r5 =>
  bnd ((Int32.toInt64 r5) : Int64) fun x3 =>
  (if 1 ≤ x3 then
    Option.bind (X2_firstOf F zk zs p1) fun r24 =>
    bnd (((Int32.toInt64 p2) - (Int32.toInt64 r24)) : Int64) fun x5 =>
    Option.bind (X0_at F 256 zs p1) fun r36 =>
    Option.bind (X0_at F 256 zr p1) fun r45 =>
    Option.bind (J9_floorDiv_f86c9 F ((Int32.toInt64 r45) * x5) x3) fun r53 =>
    some ((Int32.toInt64 r36) + r53)
  else
    some (-1))
def X2_guess (F : Nat) (zk : zN) (zs : zN) (zr : zN) (zu : zN) (p1 : Int32) : Option (Nat ⊕ Int64) :=
  Option.bind (X2_needKey F (Int32.toInt64 p1)) fun z_ => match z_ with
  | Sum.inl e_ => some (Sum.inl e_)
  | Sum.inr _ =>
  Option.bind (X2_pieceOf F zk zs p1) fun r8 =>
  Option.bind (X2_guessBy F zk zs zr zu r8 p1) fun r12 =>
  some (Sum.inr r12)
def X2_looksBy_L67 (p2 : Int32) (zk : zN) (F : Nat) : Nat → Int32 → Int32 → Int32 → Option (Int32)
  | 0, _, _, _ => none
  | n + 1, x9, x8_1, x7_1 =>
    (if 64 ≤ x9 then
      some x9
    else
      (if x8_1 ≤ x7_1 then
        some x9
      else
        bnd (((x7_1 + x8_1) / 2) : Int32) fun x10 =>
        Option.bind (X0_at F 256 zk x10) fun r96 =>
        (if p2 ≤ r96 then
          bnd (x9 + 1 : Int32) fun x9_1 =>
          X2_looksBy_L67 p2 zk F n x9_1 x10 x7_1
        else
          bnd ((x10 + 1) : Int32) fun x7_2 =>
          bnd (x9 + 1 : Int32) fun x9_2 =>
          X2_looksBy_L67 p2 zk F n x9_2 x8_1 x7_2)))
def X2_looksBy (F : Nat) (zk : zN) (zs : zN) (zr : zN) (zu : zN) (zbd : Int32) (p1 : Int32) (p2 : Int32) : Option Int32 :=
  Option.bind (X2_guessBy F zk zs zr zu p1 p2) fun r3 =>
  Option.bind (X0_at F 256 zs p1) fun r12 =>
  Option.bind (X2_endOf F zk zs p1) fun r19 =>
  bnd ((if (r3 - (Int32.toInt64 zbd)) < (Int32.toInt64 r12) then (Int32.toInt64 r12) else (r3 - (Int32.toInt64 zbd))) : Int64) fun q37 =>
  bnd ((if q37 < (Int32.toInt64 r19) then q37 else (Int32.toInt64 r19)) : Int64) fun q40 =>
  bnd ((Int64.toInt32 q40) : Int32) fun x7 =>
  bnd ((if ((r3 + (Int32.toInt64 zbd)) + 1) < (Int32.toInt64 r19) then ((r3 + (Int32.toInt64 zbd)) + 1) else (Int32.toInt64 r19)) : Int64) fun q58 =>
  bnd ((Int64.toInt32 q58) : Int32) fun x8 =>
  Option.bind (X2_looksBy_L67 p2 zk F F 0 x8 x7) fun x9_3 =>
  some x9_3
def X2_looks (F : Nat) (zk : zN) (zs : zN) (zr : zN) (zu : zN) (zbd : Int32) (p1 : Int32) : Option (Nat ⊕ Int32) :=
  Option.bind (X2_needKey F (Int32.toInt64 p1)) fun z_ => match z_ with
  | Sum.inl e_ => some (Sum.inl e_)
  | Sum.inr _ =>
  Option.bind (X2_pieceOf F zk zs p1) fun r7 =>
  (if r7 = (-1) then
    some (Sum.inr 0)
  else
    Option.bind (X2_looksBy F zk zs zr zu zbd r7 p1) fun r23 =>
    some (Sum.inr r23))
def X2_worstError_L32 (zk : zN) (zs : zN) (zr : zN) (zu : zN) (F : Nat) (x3 : Int32) (r17 : Int32) : Nat → Int32 → Int64 → Option (Int64)
  | 0, _, _ => none
  | n + 1, x5, x1_1 =>
    (if r17 ≤ x5 then
      some x1_1
    else
      Option.bind (X0_at F 256 zk x5) fun r50 =>
      Option.bind (X2_guessBy F zk zs zr zu x3 r50) fun r53 =>
      bnd ((if 0 < ((Int32.toInt64 x5) - r53) then ((Int32.toInt64 x5) - r53) else -((Int32.toInt64 x5) - r53)) : Int64) fun q57 =>
      bnd ((if q57 < x1_1 then x1_1 else q57) : Int64) fun q65 =>
      bnd (x5 + 1 : Int32) fun x5_1 =>
      X2_worstError_L32 zk zs zr zu F x3 r17 n x5_1 q65)
def X2_worstError_L4 (zk : zN) (zs : zN) (zr : zN) (zu : zN) (F : Nat) : Nat → Int32 → Int64 → Option (Int64)
  | 0, _, _ => none
  | n + 1, x3, x1 =>
    Option.bind (X0_length F zs) fun r9 =>
    (if r9 ≤ x3 then
      some x1
    else
      Option.bind (X2_endOf F zk zs x3) fun r17 =>
      Option.bind (X0_at F 256 zs x3) fun r27 =>
      Option.bind (X2_worstError_L32 zk zs zr zu F x3 r17 F r27 x1) fun x1_2 =>
      bnd (x3 + 1 : Int32) fun x3_1 =>
      X2_worstError_L4 zk zs zr zu F n x3_1 x1_2)
def X2_worstError (F : Nat) (zk : zN) (zs : zN) (zr : zN) (zu : zN) : Option Int32 :=
  Option.bind (X2_worstError_L4 zk zs zr zu F F 0 0) fun x1_3 =>
  some (Int64.toInt32 x1_3)
def X2_pieces (F : Nat) (zs : zN) : Option Int32 :=
  Option.bind (X0_length F zs) fun r4 =>
  some r4
def X2_needPiece (F : Nat) (zs : zN) (p1 : Int32) : Option (Nat ⊕ Unit) :=
  Option.bind (X0_has F 256 zs p1) fun r5 =>
  (if r5 = 0 then
    some (Sum.inl 3)
  else
    some (Sum.inr ()))
def X2_start (F : Nat) (zs : zN) (p1 : Int32) : Option (Nat ⊕ Int32) :=
  Option.bind (X2_needPiece F zs p1) fun z_ => match z_ with
  | Sum.inl e_ => some (Sum.inl e_)
  | Sum.inr _ =>
  Option.bind (X0_at F 256 zs p1) fun r10 =>
  some (Sum.inr r10)
def X2_firstKey (F : Nat) (zk : zN) (zs : zN) (p1 : Int32) : Option (Nat ⊕ Int32) :=
  Option.bind (X2_needPiece F zs p1) fun z_ => match z_ with
  | Sum.inl e_ => some (Sum.inl e_)
  | Sum.inr _ =>
  Option.bind (X2_firstOf F zk zs p1) fun r7 =>
  some (Sum.inr r7)
def X2_rise (F : Nat) (zs : zN) (zr : zN) (p1 : Int32) : Option (Nat ⊕ Int32) :=
  Option.bind (X2_needPiece F zs p1) fun z_ => match z_ with
  | Sum.inl e_ => some (Sum.inl e_)
  | Sum.inr _ =>
  Option.bind (X0_at F 256 zr p1) fun r10 =>
  some (Sum.inr r10)
def X2_run (F : Nat) (zs : zN) (zu : zN) (p1 : Int32) : Option (Nat ⊕ Int32) :=
  Option.bind (X2_needPiece F zs p1) fun z_ => match z_ with
  | Sum.inl e_ => some (Sum.inl e_)
  | Sum.inr _ =>
  Option.bind (X0_at F 256 zu p1) fun r10 =>
  some (Sum.inr r10)
def X2_alike (F : Nat) (zr : zN) (zu : zN) (p1 : Int32) (p2 : Int32) : Option Int32 :=
  Option.bind (X0_at F 256 zr p1) fun r5 =>
  Option.bind (X0_at F 256 zr p2) fun r13 =>
  (if r5 = r13 then
    Option.bind (X0_at F 256 zu p1) fun r24 =>
    Option.bind (X0_at F 256 zu p2) fun r32 =>
    (if r24 = r32 then
      some 1
    else
      some 0)
  else
    some 0)
def X2_firstAlike_L2 (p1 : Int32) (zr : zN) (zu : zN) (F : Nat) : Nat → Int32 → Option (Int32 ⊕ Unit)
  | 0, _ => none
  | n + 1, x2 =>
    (if p1 ≤ x2 then
      some (Sum.inr ())
    else
      Option.bind (X2_alike F zr zu p1 x2) fun r10 =>
      (if r10 = 0 then
        bnd (x2 + 1 : Int32) fun x2_1 =>
        X2_firstAlike_L2 p1 zr zu F n x2_1
      else
        some (Sum.inl x2)))
def X2_firstAlike (F : Nat) (zr : zN) (zu : zN) (p1 : Int32) : Option Int32 :=
  Option.bind (X2_firstAlike_L2 p1 zr zu F F 0) fun z_ => match z_ with
  | Sum.inl r_ => some r_
  | Sum.inr _ =>
  some p1
def X2_slopes_L4 (zs : zN) (zr : zN) (zu : zN) (F : Nat) : Nat → Int32 → Int32 → Option (Int32)
  | 0, _, _ => none
  | n + 1, x2, x1 =>
    Option.bind (X0_length F zs) fun r9 =>
    (if r9 ≤ x2 then
      some x1
    else
      Option.bind (X2_firstAlike F zr zu x2) fun r17 =>
      (if r17 = x2 then
        bnd (x1 + 1 : Int32) fun x1_1 =>
        bnd (x2 + 1 : Int32) fun x2_2 =>
        X2_slopes_L4 zs zr zu F n x2_2 x1_1
      else
        bnd (x2 + 1 : Int32) fun x2_1 =>
        X2_slopes_L4 zs zr zu F n x2_1 x1))
def X2_slopes (F : Nat) (zs : zN) (zr : zN) (zu : zN) : Option Int32 :=
  Option.bind (X2_slopes_L4 zs zr zu F F 0 0) fun x1_2 =>
  some x1_2
def X2_alikeFrom_L4 (p1 : Int32) (zs : zN) (zr : zN) (zu : zN) (F : Nat) : Nat → Int32 → Int32 → Option (Int32)
  | 0, _, _ => none
  | n + 1, x3, x2 =>
    Option.bind (X0_length F zs) fun r9 =>
    (if r9 ≤ x3 then
      some x2
    else
      Option.bind (X2_alike F zr zu p1 x3) fun r18 =>
      (if r18 = 0 then
        bnd (x3 + 1 : Int32) fun x3_1 =>
        X2_alikeFrom_L4 p1 zs zr zu F n x3_1 x2
      else
        bnd (x2 + 1 : Int32) fun x2_1 =>
        bnd (x3 + 1 : Int32) fun x3_2 =>
        X2_alikeFrom_L4 p1 zs zr zu F n x3_2 x2_1))
def X2_alikeFrom (F : Nat) (zs : zN) (zr : zN) (zu : zN) (p1 : Int32) : Option Int32 :=
  Option.bind (X2_alikeFrom_L4 p1 zs zr zu F F p1 0) fun x2_2 =>
  some x2_2
def X2_commonest_L6 (zs : zN) (zr : zN) (zu : zN) (F : Nat) : Nat → Int32 → Int32 → Int32 → Option (Int32)
  | 0, _, _, _ => none
  | n + 1, x3, x2, x1 =>
    Option.bind (X0_length F zs) fun r11 =>
    (if r11 ≤ x3 then
      some x1
    else
      Option.bind (X2_alikeFrom F zs zr zu x3) fun r19 =>
      (if r19 ≤ x2 then
        bnd (x3 + 1 : Int32) fun x3_1 =>
        X2_commonest_L6 zs zr zu F n x3_1 x2 x1
      else
        bnd (x3 + 1 : Int32) fun x3_2 =>
        X2_commonest_L6 zs zr zu F n x3_2 r19 x3))
def X2_commonest (F : Nat) (zs : zN) (zr : zN) (zu : zN) : Option Int32 :=
  Option.bind (X2_commonest_L6 zs zr zu F F 0 0 (-1)) fun x1_1 =>
  some x1_1
def X2_buffered (F : Nat) (zb : zN) : Option Int32 :=
  Option.bind (X0_length F zb) fun r4 =>
  some r4
def X2_marked (F : Nat) (zmc : Int32) : Option Int32 :=
  some zmc
def X2_rowSize (F : Nat) (zk : zN) : Option Int32 :=
  Option.bind (X0_length F zk) fun r4 =>
  some r4
def X2_merges (F : Nat) (zmg : Int32) : Option Int32 :=
  some zmg
def X2_splits (F : Nat) (zsp : Int32) : Option Int32 :=
  some zsp
def X2_joins (F : Nat) (zjn : Int32) : Option Int32 :=
  some zjn
