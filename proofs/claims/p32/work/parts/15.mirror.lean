def J9_floorDiv_f86c9 (F : Nat) (p1 : Int64) (p2 : Int64) : Option Int64 :=
  (if ¬ p2 = 0 then
  bnd ((p1 / p2) : Int64) fun x4 =>
  (if 0 ≤ (p1 ^^^ p2) then
    some x4
  else
    (if (x4 * p2) = p1 then
      some x4
    else
      some (x4 - 1))) else none)
def X0_length (F : Nat) (zn : zN) : Option Int32 :=
  some zn.2
def X0_has (F : Nat) (N : Nat) (zn : zN) (p1 : Int32) : Option Int32 :=
  (if p1 < 0 then
    some 0
  else
    (if zn.2 ≤ p1 then
      some 0
    else
      (if (nI N) ≤ p1 then
        some 0
      else
        some 1)))
def X0_at (F : Nat) (N : Nat) (zn : zN) (p1 : Int32) : Option Int32 :=
  Option.bind (X0_has F N zn p1) fun r2 =>
  (if r2 = 0 then
    some 0
  else
    (if ¬ (p1 < 0 ∨ N ≤ (Int32.toNatClampNeg p1)) then
    some (zn.1 (Int32.toNatClampNeg p1)) else none))
def X0_put (F : Nat) (N : Nat) (zn : zN) (p1 : Int32) (p2 : Int32) : Option zN :=
  Option.bind (X0_has F N zn p1) fun r2 =>
  (if r2 = 0 then
    some zn
  else
    (if ¬ (p1 < 0 ∨ N ≤ (Int32.toNatClampNeg p1)) then
    some ((upd zn.1 (Int32.toNatClampNeg p1) p2), zn.2) else none))
def X0_push (F : Nat) (N : Nat) (zn : zN) (p1 : Int32) : Option zN :=
  (if zn.2 < 0 then
    some zn
  else
    (if (nI N) ≤ zn.2 then
      some zn
    else
      (if ¬ (zn.2 < 0 ∨ N ≤ (Int32.toNatClampNeg zn.2)) then
      some ((upd zn.1 (Int32.toNatClampNeg zn.2) p1), (zn.2 + 1)) else none)))
def X0_clear (F : Nat) (zn : zN) : Option zN :=
  some (zn.1, 0)
def X0_squeezeIn_L12 (p1 : Int32) (N : Nat) (F : Nat) : Nat → Int32 → zN → Option (zN)
  | 0, _, _ => none
  | n + 1, x3_1, znl12 =>
    (if x3_1 ≤ p1 then
      some znl12
    else
      Option.bind (X0_at F N znl12 (x3_1 - 1)) fun r23 =>
      Option.bind (X0_put F N znl12 x3_1 r23) fun zn26 =>
      bnd (x3_1 + (-1) : Int32) fun x3_2 =>
      X0_squeezeIn_L12 p1 N F n x3_2 zn26)
def X0_squeezeIn (F : Nat) (N : Nat) (zn : zN) (p1 : Int32) (p2 : Int32) : Option zN :=
  Option.bind (X0_push F N zn p2) fun zn2 =>
  bnd ((zn2.2 - 1) : Int32) fun x3 =>
  Option.bind (X0_squeezeIn_L12 p1 N F F x3 zn2) fun znx12 =>
  Option.bind (X0_put F N znx12 p1 p2) fun zn38 =>
  some zn38
def X0_takeOut_L10 (N : Nat) (F : Nat) : Nat → Int32 → zN → Option (zN)
  | 0, _, _ => none
  | n + 1, x2, znl10 =>
    (if (znl10.2 - 1) ≤ x2 then
      some znl10
    else
      Option.bind (X0_at F N znl10 (x2 + 1)) fun r26 =>
      Option.bind (X0_put F N znl10 x2 r26) fun zn29 =>
      bnd (x2 + 1 : Int32) fun x2_1 =>
      X0_takeOut_L10 N F n x2_1 zn29)
def X0_takeOut (F : Nat) (N : Nat) (zn : zN) (p1 : Int32) : Option zN :=
  Option.bind (X0_has F N zn p1) fun r2 =>
  (if r2 = 0 then
    some zn
  else
    Option.bind (X0_takeOut_L10 N F F p1 zn) fun znx10 =>
    some (znx10.1, (znx10.2 - 1)))
def X0_below_L10 (p1 : Int32) (zn : zN) (N : Nat) (F : Nat) : Nat → Int32 → Int32 → Int32 → Option (Int32)
  | 0, _, _, _ => none
  | n + 1, x4, x3, x2 =>
    (if 64 ≤ x4 then
      some x2
    else
      (if x3 ≤ x2 then
        some x2
      else
        bnd (((x2 + x3) / 2) : Int32) fun x5 =>
        Option.bind (X0_at F N zn x5) fun r32 =>
        (if p1 ≤ r32 then
          bnd (x4 + 1 : Int32) fun x4_1 =>
          X0_below_L10 p1 zn N F n x4_1 x5 x2
        else
          bnd ((x5 + 1) : Int32) fun x2_1 =>
          bnd (x4 + 1 : Int32) fun x4_2 =>
          X0_below_L10 p1 zn N F n x4_2 x3 x2_1)))
def X0_below (F : Nat) (N : Nat) (zn : zN) (p1 : Int32) : Option Int32 :=
  Option.bind (X0_below_L10 p1 zn N F F 0 zn.2 0) fun x2_2 =>
  some x2_2
def X0_indexOf (F : Nat) (N : Nat) (zn : zN) (p1 : Int32) : Option Int32 :=
  Option.bind (X0_below F N zn p1) fun r2 =>
  Option.bind (X0_has F N zn r2) fun r8 =>
  (if r8 = 0 then
    some (-1)
  else
    (if ¬ (r2 < 0 ∨ N ≤ (Int32.toNatClampNeg r2)) then
    (if (zn.1 (Int32.toNatClampNeg r2)) = p1 then
      some r2
    else
      some (-1)) else none))
def X1_begin (F : Nat) (zt : zT) (p1 : Int32) (p2 : Int32) (p3 : Int32) : Option zT :=
  some (p1, p2, p3, 0, 1, 1, 0)
def X1_take (F : Nat) (zt : zT) (p1 : Int32) (p2 : Int32) : Option (Int32 × zT) :=
  bnd (((Int32.toInt64 p1) - (Int32.toInt64 zt.1)) : Int64) fun x3 =>
  bnd ((((Int32.toInt64 p2) - (Int32.toInt64 zt.2.1)) - (Int32.toInt64 zt.2.2.1)) : Int64) fun x5 =>
  bnd ((x5 + (2 * (Int32.toInt64 zt.2.2.1))) : Int64) fun x7 =>
  bnd ((if (x5 * zt.2.2.2.2.1) ≤ (zt.2.2.2.1 * x3) then 0 else 1) : Int32) fun y61 =>
  bnd ((if (zt.2.2.2.2.2.1 * x3) ≤ (x7 * zt.2.2.2.2.2.2) then 0 else 1) : Int32) fun y85 =>
  (if y61 = 0 then
    (if y85 = 0 then
      Option.bind (α := zT) (
        (if y61 = 0 then
          some zt
        else
          some (zt.1, zt.2.1, zt.2.2.1, x5, x3, zt.2.2.2.2.2.1, zt.2.2.2.2.2.2))) fun ztj149 =>
      (if y85 = 0 then
        some (1, ztj149)
      else
        some (1, (ztj149.1, ztj149.2.1, ztj149.2.2.1, ztj149.2.2.2.1, ztj149.2.2.2.2.1, x7, x3)))
    else
      (if (zt.2.2.2.1 * x3) ≤ (x7 * zt.2.2.2.2.1) then
        Option.bind (α := zT) (
          (if y61 = 0 then
            some zt
          else
            some (zt.1, zt.2.1, zt.2.2.1, x5, x3, zt.2.2.2.2.2.1, zt.2.2.2.2.2.2))) fun ztj149_1 =>
        (if y85 = 0 then
          some (1, ztj149_1)
        else
          some (1, (ztj149_1.1, ztj149_1.2.1, ztj149_1.2.2.1, ztj149_1.2.2.2.1, ztj149_1.2.2.2.2.1, x7, x3)))
      else
        some (0, zt)))
  else
    (if (zt.2.2.2.2.2.1 * x3) < (x5 * zt.2.2.2.2.2.2) then
      some (0, zt)
    else
      (if y85 = 0 then
        Option.bind (α := zT) (
          (if y61 = 0 then
            some zt
          else
            some (zt.1, zt.2.1, zt.2.2.1, x5, x3, zt.2.2.2.2.2.1, zt.2.2.2.2.2.2))) fun ztj149_2 =>
        (if y85 = 0 then
          some (1, ztj149_2)
        else
          some (1, (ztj149_2.1, ztj149_2.2.1, ztj149_2.2.2.1, ztj149_2.2.2.2.1, ztj149_2.2.2.2.2.1, x7, x3)))
      else
        (if (zt.2.2.2.1 * x3) ≤ (x7 * zt.2.2.2.2.1) then
          Option.bind (α := zT) (
            (if y61 = 0 then
              some zt
            else
              some (zt.1, zt.2.1, zt.2.2.1, x5, x3, zt.2.2.2.2.2.1, zt.2.2.2.2.2.2))) fun ztj149_3 =>
          (if y85 = 0 then
            some (1, ztj149_3)
          else
            some (1, (ztj149_3.1, ztj149_3.2.1, ztj149_3.2.2.1, ztj149_3.2.2.2.1, ztj149_3.2.2.2.2.1, x7, x3)))
        else
          some (0, zt)))))
def X1_divisor_L13 : Nat → Int32 → Int64 → Int64 → Option (Int64)
  | 0, _, _, _ => none
  | n + 1, x5, x3, x1 =>
    (if 64 ≤ x5 then
      some x1
    else
      (if x3 = 0 then
        some x1
      else
        (if ¬ x3 = 0 then
        bnd ((x1 - x1 / x3 * x3) : Int64) fun x6 =>
        bnd (x5 + 1 : Int32) fun x5_1 =>
        X1_divisor_L13 n x5_1 x6 x3 else none)))
def X1_divisor (F : Nat) (zt : zT) : Option Int64 :=
  Option.bind (X1_divisor_L13 F 0 zt.2.2.2.1 zt.2.2.2.2.1) fun x1_1 =>
  (if 1 ≤ x1_1 then
    some x1_1
  else
    some 1)
def X1_leastRise (F : Nat) (zt : zT) : Option Int32 :=
  Option.bind (X1_divisor F zt) fun r5 =>
  (if ¬ r5 = 0 then
  some (Int64.toInt32 (zt.2.2.2.1 / r5)) else none)
def X1_leastRun (F : Nat) (zt : zT) : Option Int32 :=
  Option.bind (X1_divisor F zt) fun r5 =>
  (if ¬ r5 = 0 then
  some (Int64.toInt32 (zt.2.2.2.2.1 / r5)) else none)
def X2_needKey (F : Nat) (p1 : Int64) : Option (Nat ⊕ Unit) :=
  (if p1 < (-1000000) then
    some (Sum.inl 1)
  else
    (if p1 ≤ 1000000 then
      some (Sum.inr ())
    else
      some (Sum.inl 1)))
def X2_allKeys (F : Nat) (zk : zN) (zb : zN) : Option Int32 :=
  Option.bind (X0_length F zk) fun r4 =>
  Option.bind (X0_length F zb) fun r11 =>
  some (r4 + r11)
def X2_needToFollow (F : Nat) (zk : zN) (zb : zN) (p1 : Int32) (p2 : Int32) : Option (Nat ⊕ Unit) :=
  Option.bind (X0_below F 256 zk p1) fun r5 =>
  Option.bind (X0_length F zk) fun r12 =>
  Option.bind (α := Int32) (
    (if r5 = r12 then
      Option.bind (X0_below F 16 zb p1) fun r23 =>
      Option.bind (X0_length F zb) fun r30 =>
      (if r23 = r30 then
        some 1
      else
        some 0)
    else
      some 0)) fun y41 =>
  Option.bind (X2_allKeys F zk zb) fun r43 =>
  (if 256 < (r43 + p2) then
    some (Sum.inl 2)
  else
    (if y41 = 0 then
      some (Sum.inl 2)
    else
      some (Sum.inr ())))
def X2_noteTailSlope (F : Nat) (zs : zN) (zr : zN) (zu : zN) (zt : zT) : Option (zN × zN) :=
  Option.bind (X0_length F zs) fun r4 =>
  bnd ((r4 - 1) : Int32) fun x1 =>
  Option.bind (X1_leastRise F zt) fun r19 =>
  Option.bind (X0_put F 256 zr x1 r19) fun zr22 =>
  Option.bind (X1_leastRun F zt) fun r34 =>
  Option.bind (X0_put F 256 zu x1 r34) fun zu37 =>
  some (zr22, zu37)
def X2_beginPiece (F : Nat) (zs : zN) (zr : zN) (zu : zN) (zt : zT) (zbd : Int32) (p1 : Int32) (p2 : Int32) : Option (zN × zN × zN × zT) :=
  Option.bind (X1_begin F zt p1 p2 zbd) fun zt10 =>
  Option.bind (X0_push F 256 zs p2) fun zs18 =>
  Option.bind (X1_leastRise F zt10) fun r29 =>
  Option.bind (X0_push F 256 zr r29) fun zr32 =>
  Option.bind (X1_leastRun F zt10) fun r43 =>
  Option.bind (X0_push F 256 zu r43) fun zu46 =>
  some (zs18, zr32, zu46, zt10)
def X2_addLast (F : Nat) (zk : zN) (zm : zN) (zs : zN) (zr : zN) (zu : zN) (zt : zT) (zbd : Int32) (p1 : Int32) : Option (zN × zN × zN × zN × zN × zT) :=
  Option.bind (X0_length F zk) fun r4 =>
  Option.bind (X0_push F 256 zk p1) fun zk13 =>
  Option.bind (X0_push F 256 zm 0) fun zm21 =>
  Option.bind (X0_length F zs) fun r28 =>
  (if r28 ≤ 0 then
    Option.bind (X2_beginPiece F zs zr zu zt zbd p1 r4) fun (zs56, zr56, zu56, zt56) =>
    some (zk13, zm21, zs56, zr56, zu56, zt56)
  else
    Option.bind (X1_take F zt p1 r4) fun (r40, zt40) =>
    (if r40 = 0 then
      Option.bind (X2_beginPiece F zs zr zu zt40 zbd p1 r4) fun (zs56_1, zr56_1, zu56_1, zt56_1) =>
      some (zk13, zm21, zs56_1, zr56_1, zu56_1, zt56_1)
    else
      Option.bind (X2_noteTailSlope F zs zr zu zt40) fun (zr47, zu47) =>
      some (zk13, zm21, zs, zr47, zu47, zt40)))
def X2_append (F : Nat) (zk : zN) (zm : zN) (zb : zN) (zs : zN) (zr : zN) (zu : zN) (zt : zT) (zbd : Int32) (p1 : Int32) : Option (Nat ⊕ (Int32 × zN × zN × zN × zN × zN × zT)) :=
  Option.bind (X2_needKey F (Int32.toInt64 p1)) fun z_ => match z_ with
  | Sum.inl e_ => some (Sum.inl e_)
  | Sum.inr _ =>
  Option.bind (X2_needToFollow F zk zb p1 1) fun z_ => match z_ with
  | Sum.inl e_ => some (Sum.inl e_)
  | Sum.inr _ =>
  Option.bind (X2_addLast F zk zm zs zr zu zt zbd p1) fun (zk13, zm13, zs13, zr13, zu13, zt13) =>
  Option.bind (X0_length F zs13) fun r20 =>
  some (Sum.inr (r20, zk13, zm13, zs13, zr13, zu13, zt13))
def X2_appendMany_L64 (p1 : Int32) (p2 : Int32) (p3 : Int32) (zbd : Int32) (F : Nat) : Nat → Int32 → zN → zN → zN → zN → zN → zT → Option (zN × zN × zN × zN × zN × zT)
  | 0, _, _, _, _, _, _, _ => none
  | n + 1, x6, zkl64, zml64, zsl64, zrl64, zul64, ztl64 =>
    (if p3 ≤ x6 then
      some (zkl64, zml64, zsl64, zrl64, zul64, ztl64)
    else
      Option.bind (X2_addLast F zkl64 zml64 zsl64 zrl64 zul64 ztl64 zbd (p1 + (p2 * x6))) fun (zk77, zm77, zs77, zr77, zu77, zt77) =>
      bnd (x6 + 1 : Int32) fun x6_1 =>
      X2_appendMany_L64 p1 p2 p3 zbd F n x6_1 zk77 zm77 zs77 zr77 zu77 zt77)
def X2_appendMany (F : Nat) (zk : zN) (zm : zN) (zb : zN) (zs : zN) (zr : zN) (zu : zN) (zt : zT) (zbd : Int32) (p1 : Int32) (p2 : Int32) (p3 : Int32) : Option (Nat ⊕ (Int32 × zN × zN × zN × zN × zN × zT)) :=
  (if p2 < 1 then
    some (Sum.inl 1)
  else
    (if 10000 < p2 then
      some (Sum.inl 1)
    else
      (if p3 < 1 then
        some (Sum.inl 1)
      else
        (if p3 ≤ 100 then
          bnd (((Int32.toInt64 p1) + ((Int32.toInt64 p2) * (Int32.toInt64 (p3 - 1)))) : Int64) fun x4 =>
          Option.bind (X2_needKey F (Int32.toInt64 p1)) fun z_ => match z_ with
          | Sum.inl e_ => some (Sum.inl e_)
          | Sum.inr _ =>
          Option.bind (X2_needKey F x4) fun z_ => match z_ with
          | Sum.inl e_ => some (Sum.inl e_)
          | Sum.inr _ =>
          Option.bind (X2_needToFollow F zk zb p1 p3) fun z_ => match z_ with
          | Sum.inl e_ => some (Sum.inl e_)
          | Sum.inr _ =>
          Option.bind (X2_appendMany_L64 p1 p2 p3 zbd F F 0 zk zm zs zr zu zt) fun (zkx64, zmx64, zsx64, zrx64, zux64, ztx64) =>
          Option.bind (X0_length F zsx64) fun r90 =>
          some (Sum.inr (r90, zkx64, zmx64, zsx64, zrx64, zux64, ztx64))
        else
          some (Sum.inl 1)))))
def X2_isThere (F : Nat) (zk : zN) (zm : zN) (zb : zN) (p1 : Int32) : Option Int32 :=
  Option.bind (X0_indexOf F 256 zk p1) fun r5 =>
  (if r5 = (-1) then
    Option.bind (X0_indexOf F 16 zb p1) fun r19 =>
    (if r19 = (-1) then
      some 0
    else
      some 1)
  else
    Option.bind (X0_at F 256 zm r5) fun r39 =>
    (if r39 = 0 then
      some 1
    else
      some 0))
def X2_gather_L26 (p4 : Int32) (zb : zN) (F : Nat) (r21 : Int32) : Nat → Int32 → zN → Option (Int32 × zN)
  | 0, _, _ => none
  | n + 1, x6_1, zfl26 =>
    (if p4 ≤ x6_1 then
      some (x6_1, zfl26)
    else
      Option.bind (X0_at F 16 zb x6_1) fun r39 =>
      (if r21 ≤ r39 then
        some (x6_1, zfl26)
      else
        Option.bind (X0_at F 16 zb x6_1) fun r57 =>
        Option.bind (X0_push F 256 zfl26 r57) fun zf60 =>
        bnd (x6_1 + 1 : Int32) fun x6_2 =>
        X2_gather_L26 p4 zb F r21 n x6_2 zf60))
def X2_gather_L9 (p2 : Int32) (p4 : Int32) (zk : zN) (zm : zN) (zb : zN) (F : Nat) : Nat → Int32 → Int32 → Int32 → zN → Option (Int32 × Int32 × zN)
  | 0, _, _, _, _ => none
  | n + 1, x7, x6, x5, zfl9 =>
    (if p2 ≤ x7 then
      some (x6, x5, zfl9)
    else
      Option.bind (X0_at F 256 zk x7) fun r21 =>
      Option.bind (X2_gather_L26 p4 zb F r21 F x6 zfl9) fun (x6_3, zfx26) =>
      Option.bind (X0_at F 256 zm x7) fun r75 =>
      (if r75 = 0 then
        Option.bind (X0_push F 256 zfx26 r21) fun zf87 =>
        bnd (x7 + 1 : Int32) fun x7_2 =>
        X2_gather_L9 p2 p4 zk zm zb F n x7_2 x6_3 x5 zf87
      else
        bnd (x7 + 1 : Int32) fun x7_1 =>
        X2_gather_L9 p2 p4 zk zm zb F n x7_1 x6_3 1 zfx26))
def X2_gather_L102 (p4 : Int32) (zb : zN) (F : Nat) : Nat → Int32 → zN → Option (zN)
  | 0, _, _ => none
  | n + 1, x6_5, zfl102 =>
    (if p4 ≤ x6_5 then
      some zfl102
    else
      Option.bind (X0_at F 16 zb x6_5) fun r119 =>
      Option.bind (X0_push F 256 zfl102 r119) fun zf122 =>
      bnd (x6_5 + 1 : Int32) fun x6_6 =>
      X2_gather_L102 p4 zb F n x6_6 zf122)
def X2_gather (F : Nat) (zk : zN) (zm : zN) (zb : zN) (zf : zN) (p1 : Int32) (p2 : Int32) (p3 : Int32) (p4 : Int32) : Option (Int32 × zN) :=
  Option.bind (X2_gather_L9 p2 p4 zk zm zb F F p1 p3 0 zf) fun (x6_4, x5_1, zfx9) =>
  Option.bind (X2_gather_L102 p4 zb F F x6_4 zfx9) fun zfx102 =>
  (if x5_1 = 0 ∨ x5_1 = 1 then some (x5_1, zfx102) else none)
def X2_cutFresh_L2 (p1 : Int32) (zf : zN) (zbd : Int32) (F : Nat) : Nat → Int32 → zT → zN → Int32 → Option (zT × zN × Int32)
  | 0, _, _, _, _ => none
  | n + 1, x2, ztl2, zgl2, zspl2 =>
    Option.bind (X0_length F zf) fun r7 =>
    (if r7 ≤ x2 then
      some (ztl2, zgl2, zspl2)
    else
      Option.bind (X0_at F 256 zf x2) fun r18 =>
      (if x2 = p1 then
        Option.bind (X1_begin F ztl2 r18 x2 zbd) fun zt49 =>
        Option.bind (X0_push F 256 zgl2 x2) fun zg57 =>
        (if x2 = p1 then
          bnd (x2 + 1 : Int32) fun x2_2 =>
          X2_cutFresh_L2 p1 zf zbd F n x2_2 zt49 zg57 (zspl2 + 0)
        else
          bnd (x2 + 1 : Int32) fun x2_1 =>
          X2_cutFresh_L2 p1 zf zbd F n x2_1 zt49 zg57 (zspl2 + 1))
      else
        Option.bind (X1_take F ztl2 r18 x2) fun (r33, zt33) =>
        (if r33 = 0 then
          Option.bind (X1_begin F zt33 r18 x2 zbd) fun zt49_1 =>
          Option.bind (X0_push F 256 zgl2 x2) fun zg57_1 =>
          (if x2 = p1 then
            bnd (x2 + 1 : Int32) fun x2_5 =>
            X2_cutFresh_L2 p1 zf zbd F n x2_5 zt49_1 zg57_1 (zspl2 + 0)
          else
            bnd (x2 + 1 : Int32) fun x2_4 =>
            X2_cutFresh_L2 p1 zf zbd F n x2_4 zt49_1 zg57_1 (zspl2 + 1))
        else
          bnd (x2 + 1 : Int32) fun x2_3 =>
          X2_cutFresh_L2 p1 zf zbd F n x2_3 zt33 zgl2 zspl2)))
def X2_cutFresh (F : Nat) (zt : zT) (zf : zN) (zg : zN) (zbd : Int32) (zsp : Int32) (p1 : Int32) : Option (zT × zN × Int32) :=
  Option.bind (X2_cutFresh_L2 p1 zf zbd F F p1 zt zg zsp) fun (ztx2, zgx2, zspx2) =>
  some (ztx2, zgx2, zspx2)
def X2_firstOf (F : Nat) (zk : zN) (zs : zN) (p1 : Int32) : Option Int32 :=
  Option.bind (X0_at F 256 zs p1) fun r9 =>
  Option.bind (X0_at F 256 zk r9) fun r12 =>
  some r12
def X2_endOf (F : Nat) (zk : zN) (zs : zN) (p1 : Int32) : Option Int32 :=
  Option.bind (X0_has F 256 zs (p1 + 1)) fun r7 =>
  (if r7 = 0 then
    Option.bind (X0_length F zk) fun r30 =>
    some r30
  else
    Option.bind (X0_at F 256 zs (p1 + 1)) fun r20 =>
    some r20)
def X2_mergePiece (F : Nat) (zk : zN) (zm : zN) (zb : zN) (zs : zN) (zt : zT) (zf : zN) (zg : zN) (zbd : Int32) (zsp : Int32) (p1 : Int32) : Option (zT × zN × zN × Int32) :=
  Option.bind (α := Int32) (
    (if p1 = 0 then
      some 0
    else
      Option.bind (X2_firstOf F zk zs p1) fun r14 =>
      Option.bind (X0_below F 16 zb r14) fun r17 =>
      some r17)) fun y20 =>
  Option.bind (X0_has F 256 zs (p1 + 1)) fun r28 =>
  Option.bind (α := Int32) (
    (if r28 = 0 then
      Option.bind (X0_length F zb) fun r55 =>
      some r55
    else
      Option.bind (X2_firstOf F zk zs (p1 + 1)) fun r42 =>
      Option.bind (X0_below F 16 zb r42) fun r45 =>
      some r45)) fun y58 =>
  Option.bind (X0_length F zf) fun r63 =>
  Option.bind (X0_at F 256 zs p1) fun r74 =>
  Option.bind (X2_endOf F zk zs p1) fun r79 =>
  Option.bind (X2_gather F zk zm zb zf r74 r79 y20 y58) fun (r84, zf84) =>
  (if r84 = 0 then
    (if y58 ≤ y20 then
      Option.bind (X0_push F 256 zg r63) fun zg114 =>
      some (zt, zf84, zg114, zsp)
    else
      Option.bind (X2_cutFresh F zt zf84 zg zbd zsp r63) fun (zt102_1, zg102_1, zsp102_1) =>
      some (zt102_1, zf84, zg102_1, zsp102_1))
  else
    Option.bind (X2_cutFresh F zt zf84 zg zbd zsp r63) fun (zt102, zg102, zsp102) =>
    some (zt102, zf84, zg102, zsp102))
def X2_clearPieces (F : Nat) (zs : zN) (zr : zN) (zu : zN) : Option (zN × zN × zN) :=
  Option.bind (X0_clear F zs) fun zs4 =>
  Option.bind (X0_clear F zr) fun zr11 =>
  Option.bind (X0_clear F zu) fun zu18 =>
  some (zs4, zr11, zu18)
def X2_clearRow (F : Nat) (zk : zN) (zm : zN) (zb : zN) (zs : zN) (zr : zN) (zu : zN) (zmc : Int32) : Option (zN × zN × zN × zN × zN × zN × Int32) :=
  Option.bind (X0_clear F zk) fun zk4 =>
  Option.bind (X0_clear F zm) fun zm11 =>
  Option.bind (X0_clear F zb) fun zb23 =>
  Option.bind (X2_clearPieces F zs zr zu) fun (zs27, zr27, zu27) =>
  some (zk4, zm11, zb23, zs27, zr27, zu27, 0)
def X2_tailTakes_L2 (p2 : Int32) (zk : zN) (F : Nat) : Nat → Int32 → zT → Option ((Int32 × zT) ⊕ zT)
  | 0, _, _ => none
  | n + 1, x3, ztl2 =>
    (if p2 ≤ x3 then
      some (Sum.inr ztl2)
    else
      Option.bind (X0_at F 256 zk x3) fun r16 =>
      Option.bind (X1_take F ztl2 r16 x3) fun (r20, zt20) =>
      (if r20 = 0 then
        some (Sum.inl (0, zt20))
      else
        bnd (x3 + 1 : Int32) fun x3_1 =>
        X2_tailTakes_L2 p2 zk F n x3_1 zt20))
def X2_tailTakes (F : Nat) (zk : zN) (zt : zT) (p1 : Int32) (p2 : Int32) : Option (Int32 × zT) :=
  Option.bind (X2_tailTakes_L2 p2 zk F F p1 zt) fun z_ => match z_ with
  | Sum.inl r_ => some r_
  | Sum.inr ztx2 =>
  some (1, ztx2)
def X2_joinFresh_L2 (zk : zN) (zg : zN) (zbd : Int32) (F : Nat) : Nat → Int32 → zN → zN → zN → zT → Int32 → Option (zN × zN × zN × zT × Int32)
  | 0, _, _, _, _, _, _ => none
  | n + 1, x1, zsl2, zrl2, zul2, ztl2, zjnl2 =>
    Option.bind (X0_length F zg) fun r7 =>
    (if r7 ≤ x1 then
      some (zsl2, zrl2, zul2, ztl2, zjnl2)
    else
      Option.bind (X0_at F 256 zg x1) fun r18 =>
      Option.bind (X0_has F 256 zg (x1 + 1)) fun r29 =>
      Option.bind (α := Int32) (
        (if r29 = 0 then
          Option.bind (X0_length F zk) fun r52 =>
          some r52
        else
          Option.bind (X0_at F 256 zg (x1 + 1)) fun r42 =>
          some r42)) fun y55 =>
      Option.bind (α := zN × zN × zN × zT × Int32) (
        (if x1 ≤ 0 then
          Option.bind (X0_at F 256 zk r18) fun r88 =>
          Option.bind (X2_beginPiece F zsl2 zrl2 zul2 ztl2 zbd r88 r18) fun (zs92, zr92, zu92, zt92) =>
          Option.bind (X2_tailTakes F zk zt92 (r18 + 1) y55) fun (r100, zt100) =>
          some (zs92, zr92, zu92, zt100, zjnl2)
        else
          Option.bind (X2_tailTakes F zk ztl2 r18 y55) fun (r63, zt63) =>
          (if r63 = 0 then
            Option.bind (X0_at F 256 zk r18) fun r88_1 =>
            Option.bind (X2_beginPiece F zsl2 zrl2 zul2 zt63 zbd r88_1 r18) fun (zs92_1, zr92_1, zu92_1, zt92_1) =>
            Option.bind (X2_tailTakes F zk zt92_1 (r18 + 1) y55) fun (r100_1, zt100_1) =>
            some (zs92_1, zr92_1, zu92_1, zt100_1, zjnl2)
          else
            some (zsl2, zrl2, zul2, zt63, (zjnl2 + 1))))) fun (zsj104, zrj104, zuj104, ztj104, zjnj104) =>
      Option.bind (X2_noteTailSlope F zsj104 zrj104 zuj104 ztj104) fun (zr105, zu105) =>
      bnd (x1 + 1 : Int32) fun x1_1 =>
      X2_joinFresh_L2 zk zg zbd F n x1_1 zsj104 zr105 zu105 ztj104 zjnj104)
def X2_joinFresh (F : Nat) (zk : zN) (zs : zN) (zr : zN) (zu : zN) (zt : zT) (zg : zN) (zbd : Int32) (zjn : Int32) : Option (zN × zN × zN × zT × Int32) :=
  Option.bind (X2_joinFresh_L2 zk zg zbd F F 0 zs zr zu zt zjn) fun (zsx2, zrx2, zux2, ztx2, zjnx2) =>
  some (zsx2, zrx2, zux2, ztx2, zjnx2)
def X2_mergeAll_L46 (zk : zN) (zm : zN) (zb : zN) (zs : zN) (zbd : Int32) (F : Nat) : Nat → Int32 → zT → zN → zN → Int32 → Option (zT × zN × zN × Int32)
  | 0, _, _, _, _, _ => none
  | n + 1, x1, ztl46, zfl46, zgl46, zspl46 =>
    Option.bind (X0_length F zs) fun r51 =>
    (if r51 ≤ x1 then
      some (ztl46, zfl46, zgl46, zspl46)
    else
      Option.bind (X2_mergePiece F zk zm zb zs ztl46 zfl46 zgl46 zbd zspl46 x1) fun (zt59, zf59, zg59, zsp59) =>
      bnd (x1 + 1 : Int32) fun x1_1 =>
      X2_mergeAll_L46 zk zm zb zs zbd F n x1_1 zt59 zf59 zg59 zsp59)
def X2_mergeAll_L74 (F : Nat) (zfx46 : zN) : Nat → Int32 → zN → zN → Option (zN × zN)
  | 0, _, _, _ => none
  | n + 1, x1_2, zkl74, zml74 =>
    Option.bind (X0_length F zfx46) fun r79 =>
    (if r79 ≤ x1_2 then
      some (zkl74, zml74)
    else
      Option.bind (X0_at F 256 zfx46 x1_2) fun r94 =>
      Option.bind (X0_push F 256 zkl74 r94) fun zk97 =>
      Option.bind (X0_push F 256 zml74 0) fun zm105 =>
      bnd (x1_2 + 1 : Int32) fun x1_3 =>
      X2_mergeAll_L74 F zfx46 n x1_3 zk97 zm105)
def X2_mergeAll (F : Nat) (zk : zN) (zm : zN) (zb : zN) (zs : zN) (zr : zN) (zu : zN) (zt : zT) (zf : zN) (zg : zN) (zbd : Int32) (zmc : Int32) (zmg : Int32) (zsp : Int32) (zjn : Int32) : Option (zN × zN × zN × zN × zN × zN × zT × zN × zN × Int32 × Int32 × Int32 × Int32) :=
  Option.bind (X0_clear F zf) fun zf4 =>
  Option.bind (X0_clear F zg) fun zg11 =>
  Option.bind (X0_length F zs) fun r18 =>
  Option.bind (α := zT × zN × zN × Int32) (
    (if r18 = 0 then
      Option.bind (X0_length F zb) fun r32 =>
      Option.bind (X2_gather F zk zm zb zf4 0 0 0 r32) fun (r35, zf35) =>
      Option.bind (X2_cutFresh F zt zf35 zg11 zbd zsp 0) fun (zt41, zg41, zsp41) =>
      some (zt41, zf35, zg41, zsp41)
    else
      some (zt, zf4, zg11, zsp))) fun (ztj44, zfj44, zgj44, zspj44) =>
  Option.bind (X2_mergeAll_L46 zk zm zb zs zbd F F 0 ztj44 zfj44 zgj44 zspj44) fun (ztx46, zfx46, zgx46, zspx46) =>
  Option.bind (X2_clearRow F zk zm zb zs zr zu zmc) fun (zk69, zm69, zb69, zs69, zr69, zu69, zmc69) =>
  Option.bind (X2_mergeAll_L74 F zfx46 F 0 zk69 zm69) fun (zkx74, zmx74) =>
  Option.bind (X2_joinFresh F zkx74 zs69 zr69 zu69 ztx46 zgx46 zbd zjn) fun (zs115, zr115, zu115, zt115, zjn115) =>
  some (zkx74, zmx74, zb69, zs115, zr115, zu115, zt115, zfx46, zgx46, zmc69, (zmg + 1), zspx46, zjn115)
def X2_addLate (F : Nat) (zk : zN) (zm : zN) (zb : zN) (zs : zN) (zr : zN) (zu : zN) (zt : zT) (zf : zN) (zg : zN) (zbd : Int32) (zro : Int32) (zmc : Int32) (zmg : Int32) (zsp : Int32) (zjn : Int32) (p1 : Int32) : Option (zN × zN × zN × zN × zN × zN × zT × zN × zN × Int32 × Int32 × Int32 × Int32) :=
  Option.bind (X0_below F 16 zb p1) fun r9 =>
  Option.bind (X0_squeezeIn F 16 zb r9 p1) fun zb13 =>
  Option.bind (X0_length F zb13) fun r20 =>
  (if r20 < zro then
    some (zk, zm, zb13, zs, zr, zu, zt, zf, zg, zmc, zmg, zsp, zjn)
  else
    Option.bind (X2_mergeAll F zk zm zb13 zs zr zu zt zf zg zbd zmc zmg zsp zjn) fun (zk31, zm31, zb31, zs31, zr31, zu31, zt31, zf31, zg31, zmc31, zmg31, zsp31, zjn31) =>
    some (zk31, zm31, zb31, zs31, zr31, zu31, zt31, zf31, zg31, zmc31, zmg31, zsp31, zjn31))
def X2_insert (F : Nat) (zk : zN) (zm : zN) (zb : zN) (zs : zN) (zr : zN) (zu : zN) (zt : zT) (zf : zN) (zg : zN) (zbd : Int32) (zro : Int32) (zmc : Int32) (zmg : Int32) (zsp : Int32) (zjn : Int32) (p1 : Int32) : Option (Nat ⊕ (Int32 × zN × zN × zN × zN × zN × zN × zT × zN × zN × Int32 × Int32 × Int32 × Int32)) :=
  Option.bind (X2_needKey F (Int32.toInt64 p1)) fun z_ => match z_ with
  | Sum.inl e_ => some (Sum.inl e_)
  | Sum.inr _ =>
  Option.bind (X0_indexOf F 256 zk p1) fun r10 =>
  Option.bind (X2_isThere F zk zm zb p1) fun r16 =>
  (if r16 = 0 then
    bnd (fun (_ : Unit) =>
      Option.bind (α := zN × zN × zN × zN × zN × zN × zT × zN × zN × Int32 × Int32 × Int32 × Int32) (
        (if r10 = (-1) then
          Option.bind (X2_addLate F zk zm zb zs zr zu zt zf zg zbd zro zmc zmg zsp zjn p1) fun (zk54, zm54, zb54, zs54, zr54, zu54, zt54, zf54, zg54, zmc54, zmg54, zsp54, zjn54) =>
          some (zk54, zm54, zb54, zs54, zr54, zu54, zt54, zf54, zg54, zmc54, zmg54, zsp54, zjn54)
        else
          Option.bind (X0_put F 256 zm r10 0) fun zm66 =>
          some (zk, zm66, zb, zs, zr, zu, zt, zf, zg, (zmc - 1), zmg, zsp, zjn))) fun (zkj79, zmj79, zbj79, zsj79, zrj79, zuj79, ztj79, zfj79, zgj79, zmcj79, zmgj79, zspj79, zjnj79) =>
      Option.bind (X0_length F zbj79) fun r83 =>
      some (Sum.inr (r83, zkj79, zmj79, zbj79, zsj79, zrj79, zuj79, ztj79, zfj79, zgj79, zmcj79, zmgj79, zspj79, zjnj79))) fun k_47 =>
    (if r10 = (-1) then
      Option.bind (X2_allKeys F zk zb) fun r28 =>
      (if r28 < 256 then
        k_47 ()
      else
        some (Sum.inl 2))
    else
      k_47 ())
  else
    some (Sum.inl 2))
def X2_keysThere (F : Nat) (zk : zN) (zb : zN) (zmc : Int32) : Option Int32 :=
  Option.bind (X2_allKeys F zk zb) fun r1 =>
  some (r1 - zmc)
def X2_remove (F : Nat) (zk : zN) (zm : zN) (zb : zN) (zmc : Int32) (p1 : Int32) : Option (Nat ⊕ (Int32 × zN × zN × Int32)) :=
  Option.bind (X2_isThere F zk zm zb p1) fun r2 =>
  (if r2 = 0 then
    some (Sum.inl 4)
  else
    Option.bind (X0_indexOf F 256 zk p1) fun r23 =>
    Option.bind (α := zN × zN × Int32) (
      (if r23 = (-1) then
        Option.bind (X0_below F 16 zb p1) fun r41 =>
        Option.bind (X0_takeOut F 16 zb r41) fun zb44 =>
        some (zm, zb44, zmc)
      else
        Option.bind (X0_put F 256 zm r23 1) fun zm56 =>
        some (zm56, zb, (zmc + 1)))) fun (zmj69, zbj69, zmcj69) =>
    Option.bind (X2_keysThere F zk zbj69 zmcj69) fun r70 =>
    some (Sum.inr (r70, zmj69, zbj69, zmcj69)))
def X2_merge (F : Nat) (zk : zN) (zm : zN) (zb : zN) (zs : zN) (zr : zN) (zu : zN) (zt : zT) (zf : zN) (zg : zN) (zbd : Int32) (zmc : Int32) (zmg : Int32) (zsp : Int32) (zjn : Int32) : Option (Int32 × zN × zN × zN × zN × zN × zN × zT × zN × zN × Int32 × Int32 × Int32 × Int32) :=
  Option.bind (X2_mergeAll F zk zm zb zs zr zu zt zf zg zbd zmc zmg zsp zjn) fun (zk1, zm1, zb1, zs1, zr1, zu1, zt1, zf1, zg1, zmc1, zmg1, zsp1, zjn1) =>
  Option.bind (X0_length F zs1) fun r8 =>
  some (r8, zk1, zm1, zb1, zs1, zr1, zu1, zt1, zf1, zg1, zmc1, zmg1, zsp1, zjn1)
def X2_gatherAll (F : Nat) (zk : zN) (zm : zN) (zb : zN) (zf : zN) : Option zN :=
  Option.bind (X0_clear F zf) fun zf4 =>
  Option.bind (X0_length F zk) fun r13 =>
  Option.bind (X0_length F zb) fun r21 =>
  Option.bind (X2_gather F zk zm zb zf4 0 r13 0 r21) fun (r24, zf24) =>
  some zf24
def X2_rebuild_L51 (p1 : Int32) (F : Nat) (zf42 : zN) : Nat → Int32 → zN → zN → zN → zN → zN → zT → Option (zN × zN × zN × zN × zN × zT)
  | 0, _, _, _, _, _, _, _ => none
  | n + 1, x3, zkl51, zml51, zsl51, zrl51, zul51, ztl51 =>
    Option.bind (X0_length F zf42) fun r56 =>
    (if r56 ≤ x3 then
      some (zkl51, zml51, zsl51, zrl51, zul51, ztl51)
    else
      Option.bind (X0_at F 256 zf42 x3) fun r68 =>
      Option.bind (X2_addLast F zkl51 zml51 zsl51 zrl51 zul51 ztl51 p1 r68) fun (zk71, zm71, zs71, zr71, zu71, zt71) =>
      bnd (x3 + 1 : Int32) fun x3_1 =>
      X2_rebuild_L51 p1 F zf42 n x3_1 zk71 zm71 zs71 zr71 zu71 zt71)
def X2_rebuild (F : Nat) (zk : zN) (zm : zN) (zb : zN) (zs : zN) (zr : zN) (zu : zN) (zt : zT) (zf : zN) (zbd : Int32) (zro : Int32) (zmc : Int32) (p1 : Int32) (p2 : Int32) : Option (Nat ⊕ (Int32 × zN × zN × zN × zN × zN × zN × zT × zN × Int32 × Int32 × Int32)) :=
  (if p1 < 0 then
    some (Sum.inl 1)
  else
    (if 20 < p1 then
      some (Sum.inl 1)
    else
      (if p2 < 1 then
        some (Sum.inl 1)
      else
        (if p2 ≤ 16 then
          Option.bind (X2_gatherAll F zk zm zb zf) fun zf42 =>
          Option.bind (X2_clearRow F zk zm zb zs zr zu zmc) fun (zk46, zm46, zb46, zs46, zr46, zu46, zmc46) =>
          Option.bind (X2_rebuild_L51 p1 F zf42 F 0 zk46 zm46 zs46 zr46 zu46 zt) fun (zkx51, zmx51, zsx51, zrx51, zux51, ztx51) =>
          Option.bind (X0_length F zsx51) fun r84 =>
          some (Sum.inr (r84, zkx51, zmx51, zb46, zsx51, zrx51, zux51, ztx51, zf42, p1, p2, zmc46))
        else
          some (Sum.inl 1)))))
def X2_size (F : Nat) (zk : zN) (zb : zN) (zmc : Int32) : Option Int32 :=
  Option.bind (X2_keysThere F zk zb zmc) fun r1 =>
  some r1
def X2_contains (F : Nat) (zk : zN) (zm : zN) (zb : zN) (p1 : Int32) : Option Int32 :=
  Option.bind (X2_isThere F zk zm zb p1) fun r2 =>
  (if r2 = 0 ∨ r2 = 1 then some r2 else none)
def X2_thereBelow_L21 (zm : zN) (F : Nat) (r5 : Int32) : Nat → Int32 → Int32 → Option (Int32)
  | 0, _, _ => none
  | n + 1, x4, x3 =>
    (if r5 ≤ x4 then
      some x3
    else
      Option.bind (X0_at F 256 zm x4) fun r35 =>
      bnd ((x3 + (1 - r35)) : Int32) fun x3_1 =>
      bnd (x4 + 1 : Int32) fun x4_1 =>
      X2_thereBelow_L21 zm F r5 n x4_1 x3_1)
def X2_thereBelow (F : Nat) (zk : zN) (zm : zN) (zb : zN) (p1 : Int32) : Option Int32 :=
  Option.bind (X0_below F 256 zk p1) fun r5 =>
  Option.bind (X0_below F 16 zb p1) fun r14 =>
  Option.bind (X2_thereBelow_L21 zm F r5 F 0 r14) fun x3_2 =>
  some x3_2
def X2_rank (F : Nat) (zk : zN) (zm : zN) (zb : zN) (p1 : Int32) : Option Int32 :=
  Option.bind (X2_thereBelow F zk zm zb p1) fun r2 =>
  some r2
def X2_keyThere (F : Nat) (zk : zN) (zm : zN) (zb : zN) (zf : zN) (p1 : Int32) : Option (Int32 × zN) :=
  Option.bind (X2_gatherAll F zk zm zb zf) fun zf1 =>
  Option.bind (X0_at F 256 zf1 p1) fun r9 =>
  some (r9, zf1)
def X2_select (F : Nat) (zk : zN) (zm : zN) (zb : zN) (zf : zN) (zmc : Int32) (p1 : Int32) : Option (Nat ⊕ (Int32 × zN)) :=
  (if p1 < 0 then
    some (Sum.inl 3)
  else
    Option.bind (X2_keysThere F zk zb zmc) fun r6 =>
    (if p1 < r6 then
      Option.bind (X2_keyThere F zk zm zb zf p1) fun (r24, zf24) =>
      some (Sum.inr (r24, zf24))
    else
      some (Sum.inl 3)))
def X2_ceiling (F : Nat) (zk : zN) (zm : zN) (zb : zN) (zf : zN) (zmc : Int32) (p1 : Int32) : Option (Nat ⊕ (Int32 × zN)) :=
  Option.bind (X2_thereBelow F zk zm zb p1) fun r2 =>
  Option.bind (X2_keysThere F zk zb zmc) fun r8 =>
  (if r2 < r8 then
    Option.bind (X2_keyThere F zk zm zb zf r2) fun (r26, zf26) =>
    some (Sum.inr (r26, zf26))
  else
    some (Sum.inl 4))
def X2_count (F : Nat) (zk : zN) (zm : zN) (zb : zN) (p1 : Int32) (p2 : Int32) : Option Int32 :=
  (if p1 ≤ p2 then
    Option.bind (X2_thereBelow F zk zm zb p2) fun r9 =>
    Option.bind (X2_thereBelow F zk zm zb p1) fun r14 =>
    Option.bind (X2_isThere F zk zm zb p2) fun r20 =>
    (if r20 = 0 then
      some ((r9 - r14) + 0)
    else
      some ((r9 - r14) + 1))
  else
    some 0)
def X2_place (F : Nat) (zk : zN) (p1 : Int32) : Option Int32 :=
  Option.bind (X0_below F 256 zk p1) fun r5 =>
  some r5
def X2_pieceOf (F : Nat) (zk : zN) (zs : zN) (p1 : Int32) : Option Int32 :=
  Option.bind (X0_below F 256 zk (p1 + 1)) fun r7 =>
  Option.bind (X0_below F 256 zs r7) fun r16 =>
  some (r16 - 1)
def X2_guessBy (F : Nat) (zk : zN) (zs : zN) (zr : zN) (zu : zN) (p1 : Int32) (p2 : Int32) : Option Int64 :=
  Option.bind (X0_at F 256 zu p1) fun r5 =>
  bnd ((Int32.toInt64 r5) : Int64) fun x3 =>
  (if 1 ≤ x3 then
    Option.bind (X2_firstOf F zk zs p1) fun r24 =>
    bnd (((Int32.toInt64 p2) - (Int32.toInt64 r24)) : Int64) fun x5 =>
    Option.bind (X0_at F 256 zs p1) fun r36 =>
    Option.bind (X0_at F 256 zr p1) fun r45 =>
    Option.bind (J9_floorDiv_f86c9 F ((Int32.toInt64 r45) * x5) x3) fun r53 =>
    some ((Int32.toInt64 r36) + r53)
  else
    some (-1))
def X2_guess (F : Nat) (zk : zN) (zs : zN) (zr : zN) (zu : zN) (p1 : Int32) : Option (Nat ⊕ Int64) :=
  Option.bind (X2_needKey F (Int32.toInt64 p1)) fun z_ => match z_ with
  | Sum.inl e_ => some (Sum.inl e_)
  | Sum.inr _ =>
  Option.bind (X2_pieceOf F zk zs p1) fun r8 =>
  Option.bind (X2_guessBy F zk zs zr zu r8 p1) fun r12 =>
  some (Sum.inr r12)
def X2_looksBy_L67 (p2 : Int32) (zk : zN) (F : Nat) : Nat → Int32 → Int32 → Int32 → Option (Int32)
  | 0, _, _, _ => none
  | n + 1, x9, x8_1, x7_1 =>
    (if 64 ≤ x9 then
      some x9
    else
      (if x8_1 ≤ x7_1 then
        some x9
      else
        bnd (((x7_1 + x8_1) / 2) : Int32) fun x10 =>
        Option.bind (X0_at F 256 zk x10) fun r96 =>
        (if p2 ≤ r96 then
          bnd (x9 + 1 : Int32) fun x9_1 =>
          X2_looksBy_L67 p2 zk F n x9_1 x10 x7_1
        else
          bnd ((x10 + 1) : Int32) fun x7_2 =>
          bnd (x9 + 1 : Int32) fun x9_2 =>
          X2_looksBy_L67 p2 zk F n x9_2 x8_1 x7_2)))
def X2_looksBy (F : Nat) (zk : zN) (zs : zN) (zr : zN) (zu : zN) (zbd : Int32) (p1 : Int32) (p2 : Int32) : Option Int32 :=
  Option.bind (X2_guessBy F zk zs zr zu p1 p2) fun r3 =>
  Option.bind (X0_at F 256 zs p1) fun r12 =>
  Option.bind (X2_endOf F zk zs p1) fun r19 =>
  bnd ((if (r3 - (Int32.toInt64 zbd)) < (Int32.toInt64 r12) then (Int32.toInt64 r12) else (r3 - (Int32.toInt64 zbd))) : Int64) fun q37 =>
  bnd ((if q37 < (Int32.toInt64 r19) then q37 else (Int32.toInt64 r19)) : Int64) fun q40 =>
  bnd ((Int64.toInt32 q40) : Int32) fun x7 =>
  bnd ((if ((r3 + (Int32.toInt64 zbd)) + 1) < (Int32.toInt64 r19) then ((r3 + (Int32.toInt64 zbd)) + 1) else (Int32.toInt64 r19)) : Int64) fun q58 =>
  bnd ((Int64.toInt32 q58) : Int32) fun x8 =>
  Option.bind (X2_looksBy_L67 p2 zk F F 0 x8 x7) fun x9_3 =>
  some x9_3
def X2_looks (F : Nat) (zk : zN) (zs : zN) (zr : zN) (zu : zN) (zbd : Int32) (p1 : Int32) : Option (Nat ⊕ Int32) :=
  Option.bind (X2_needKey F (Int32.toInt64 p1)) fun z_ => match z_ with
  | Sum.inl e_ => some (Sum.inl e_)
  | Sum.inr _ =>
  Option.bind (X2_pieceOf F zk zs p1) fun r7 =>
  (if r7 = (-1) then
    some (Sum.inr 0)
  else
    Option.bind (X2_looksBy F zk zs zr zu zbd r7 p1) fun r23 =>
    some (Sum.inr r23))
def X2_worstError_L32 (zk : zN) (zs : zN) (zr : zN) (zu : zN) (F : Nat) (x3 : Int32) (r17 : Int32) : Nat → Int32 → Int64 → Option (Int64)
  | 0, _, _ => none
  | n + 1, x5, x1_1 =>
    (if r17 ≤ x5 then
      some x1_1
    else
      Option.bind (X0_at F 256 zk x5) fun r50 =>
      Option.bind (X2_guessBy F zk zs zr zu x3 r50) fun r53 =>
      bnd ((if 0 < ((Int32.toInt64 x5) - r53) then ((Int32.toInt64 x5) - r53) else -((Int32.toInt64 x5) - r53)) : Int64) fun q57 =>
      bnd ((if q57 < x1_1 then x1_1 else q57) : Int64) fun q65 =>
      bnd (x5 + 1 : Int32) fun x5_1 =>
      X2_worstError_L32 zk zs zr zu F x3 r17 n x5_1 q65)
def X2_worstError_L4 (zk : zN) (zs : zN) (zr : zN) (zu : zN) (F : Nat) : Nat → Int32 → Int64 → Option (Int64)
  | 0, _, _ => none
  | n + 1, x3, x1 =>
    Option.bind (X0_length F zs) fun r9 =>
    (if r9 ≤ x3 then
      some x1
    else
      Option.bind (X2_endOf F zk zs x3) fun r17 =>
      Option.bind (X0_at F 256 zs x3) fun r27 =>
      Option.bind (X2_worstError_L32 zk zs zr zu F x3 r17 F r27 x1) fun x1_2 =>
      bnd (x3 + 1 : Int32) fun x3_1 =>
      X2_worstError_L4 zk zs zr zu F n x3_1 x1_2)
def X2_worstError (F : Nat) (zk : zN) (zs : zN) (zr : zN) (zu : zN) : Option Int32 :=
  Option.bind (X2_worstError_L4 zk zs zr zu F F 0 0) fun x1_3 =>
  some (Int64.toInt32 x1_3)
def X2_pieces (F : Nat) (zs : zN) : Option Int32 :=
  Option.bind (X0_length F zs) fun r4 =>
  some r4
def X2_needPiece (F : Nat) (zs : zN) (p1 : Int32) : Option (Nat ⊕ Unit) :=
  Option.bind (X0_has F 256 zs p1) fun r5 =>
  (if r5 = 0 then
    some (Sum.inl 3)
  else
    some (Sum.inr ()))
def X2_start (F : Nat) (zs : zN) (p1 : Int32) : Option (Nat ⊕ Int32) :=
  Option.bind (X2_needPiece F zs p1) fun z_ => match z_ with
  | Sum.inl e_ => some (Sum.inl e_)
  | Sum.inr _ =>
  Option.bind (X0_at F 256 zs p1) fun r10 =>
  some (Sum.inr r10)
def X2_firstKey (F : Nat) (zk : zN) (zs : zN) (p1 : Int32) : Option (Nat ⊕ Int32) :=
  Option.bind (X2_needPiece F zs p1) fun z_ => match z_ with
  | Sum.inl e_ => some (Sum.inl e_)
  | Sum.inr _ =>
  Option.bind (X2_firstOf F zk zs p1) fun r7 =>
  some (Sum.inr r7)
def X2_rise (F : Nat) (zs : zN) (zr : zN) (p1 : Int32) : Option (Nat ⊕ Int32) :=
  Option.bind (X2_needPiece F zs p1) fun z_ => match z_ with
  | Sum.inl e_ => some (Sum.inl e_)
  | Sum.inr _ =>
  Option.bind (X0_at F 256 zr p1) fun r10 =>
  some (Sum.inr r10)
def X2_run (F : Nat) (zs : zN) (zu : zN) (p1 : Int32) : Option (Nat ⊕ Int32) :=
  Option.bind (X2_needPiece F zs p1) fun z_ => match z_ with
  | Sum.inl e_ => some (Sum.inl e_)
  | Sum.inr _ =>
  Option.bind (X0_at F 256 zu p1) fun r10 =>
  some (Sum.inr r10)
def X2_alike (F : Nat) (zr : zN) (zu : zN) (p1 : Int32) (p2 : Int32) : Option Int32 :=
  Option.bind (X0_at F 256 zr p1) fun r5 =>
  Option.bind (X0_at F 256 zr p2) fun r13 =>
  (if r5 = r13 then
    Option.bind (X0_at F 256 zu p1) fun r24 =>
    Option.bind (X0_at F 256 zu p2) fun r32 =>
    (if r24 = r32 then
      some 1
    else
      some 0)
  else
    some 0)
def X2_firstAlike_L2 (p1 : Int32) (zr : zN) (zu : zN) (F : Nat) : Nat → Int32 → Option (Int32 ⊕ Unit)
  | 0, _ => none
  | n + 1, x2 =>
    (if p1 ≤ x2 then
      some (Sum.inr ())
    else
      Option.bind (X2_alike F zr zu p1 x2) fun r10 =>
      (if r10 = 0 then
        bnd (x2 + 1 : Int32) fun x2_1 =>
        X2_firstAlike_L2 p1 zr zu F n x2_1
      else
        some (Sum.inl x2)))
def X2_firstAlike (F : Nat) (zr : zN) (zu : zN) (p1 : Int32) : Option Int32 :=
  Option.bind (X2_firstAlike_L2 p1 zr zu F F 0) fun z_ => match z_ with
  | Sum.inl r_ => some r_
  | Sum.inr _ =>
  some p1
def X2_slopes_L4 (zs : zN) (zr : zN) (zu : zN) (F : Nat) : Nat → Int32 → Int32 → Option (Int32)
  | 0, _, _ => none
  | n + 1, x2, x1 =>
    Option.bind (X0_length F zs) fun r9 =>
    (if r9 ≤ x2 then
      some x1
    else
      Option.bind (X2_firstAlike F zr zu x2) fun r17 =>
      (if r17 = x2 then
        bnd (x1 + 1 : Int32) fun x1_1 =>
        bnd (x2 + 1 : Int32) fun x2_2 =>
        X2_slopes_L4 zs zr zu F n x2_2 x1_1
      else
        bnd (x2 + 1 : Int32) fun x2_1 =>
        X2_slopes_L4 zs zr zu F n x2_1 x1))
def X2_slopes (F : Nat) (zs : zN) (zr : zN) (zu : zN) : Option Int32 :=
  Option.bind (X2_slopes_L4 zs zr zu F F 0 0) fun x1_2 =>
  some x1_2
def X2_alikeFrom_L4 (p1 : Int32) (zs : zN) (zr : zN) (zu : zN) (F : Nat) : Nat → Int32 → Int32 → Option (Int32)
  | 0, _, _ => none
  | n + 1, x3, x2 =>
    Option.bind (X0_length F zs) fun r9 =>
    (if r9 ≤ x3 then
      some x2
    else
      Option.bind (X2_alike F zr zu p1 x3) fun r18 =>
      (if r18 = 0 then
        bnd (x3 + 1 : Int32) fun x3_1 =>
        X2_alikeFrom_L4 p1 zs zr zu F n x3_1 x2
      else
        bnd (x2 + 1 : Int32) fun x2_1 =>
        bnd (x3 + 1 : Int32) fun x3_2 =>
        X2_alikeFrom_L4 p1 zs zr zu F n x3_2 x2_1))
def X2_alikeFrom (F : Nat) (zs : zN) (zr : zN) (zu : zN) (p1 : Int32) : Option Int32 :=
  Option.bind (X2_alikeFrom_L4 p1 zs zr zu F F p1 0) fun x2_2 =>
  some x2_2
def X2_commonest_L6 (zs : zN) (zr : zN) (zu : zN) (F : Nat) : Nat → Int32 → Int32 → Int32 → Option (Int32)
  | 0, _, _, _ => none
  | n + 1, x3, x2, x1 =>
    Option.bind (X0_length F zs) fun r11 =>
    (if r11 ≤ x3 then
      some x1
    else
      Option.bind (X2_alikeFrom F zs zr zu x3) fun r19 =>
      (if r19 ≤ x2 then
        bnd (x3 + 1 : Int32) fun x3_1 =>
        X2_commonest_L6 zs zr zu F n x3_1 x2 x1
      else
        bnd (x3 + 1 : Int32) fun x3_2 =>
        X2_commonest_L6 zs zr zu F n x3_2 r19 x3))
def X2_commonest (F : Nat) (zs : zN) (zr : zN) (zu : zN) : Option Int32 :=
  Option.bind (X2_commonest_L6 zs zr zu F F 0 0 (-1)) fun x1_1 =>
  some x1_1
def X2_buffered (F : Nat) (zb : zN) : Option Int32 :=
  Option.bind (X0_length F zb) fun r4 =>
  some r4
def X2_marked (F : Nat) (zmc : Int32) : Option Int32 :=
  some zmc
def X2_rowSize (F : Nat) (zk : zN) : Option Int32 :=
  Option.bind (X0_length F zk) fun r4 =>
  some r4
def X2_merges (F : Nat) (zmg : Int32) : Option Int32 :=
  some zmg
def X2_splits (F : Nat) (zsp : Int32) : Option Int32 :=
  some zsp
def X2_joins (F : Nat) (zjn : Int32) : Option Int32 :=
  some zjn
def L_low (F : Nat) (p1 : Int32) (p2 : Int32) : Option Int32 :=
  (if ¬ p2 = 0 then
  some ((p1 &&& 2147483647) - (p1 &&& 2147483647) / p2 * p2) else none)
def L_fits_L16 (p2 : Int32) (p3 : Int32) (p4 : Int32) (v : Nat → Int32) (N : Nat) (x4_1 : Int32) : Nat → Int32 → Option (Int32 ⊕ Unit)
  | 0, _ => none
  | n + 1, x5_1 =>
    (if p3 ≤ x5_1 then
      some (Sum.inr ())
    else
      (if ¬ (x5_1 < 0 ∨ N ≤ (Int32.toNatClampNeg x5_1)) then
      (if ¬ (p2 < 0 ∨ N ≤ (Int32.toNatClampNeg p2)) then
      (if ¬ (x4_1 < 0 ∨ N ≤ (Int32.toNatClampNeg x4_1)) then
      (if ¬ (p2 < 0 ∨ N ≤ (Int32.toNatClampNeg p2)) then
      (if ((Int32.toInt64 ((x4_1 - p2) - p4)) * (Int32.toInt64 ((v (Int32.toNatClampNeg x5_1)) - (v (Int32.toNatClampNeg p2))))) ≤ ((Int32.toInt64 ((x5_1 - p2) + p4)) * (Int32.toInt64 ((v (Int32.toNatClampNeg x4_1)) - (v (Int32.toNatClampNeg p2))))) then
        bnd (x5_1 + 1 : Int32) fun x5_2 =>
        L_fits_L16 p2 p3 p4 v N x4_1 n x5_2
      else
        some (Sum.inl 0)) else none) else none) else none) else none))
def L_fits_L5 (p2 : Int32) (p3 : Int32) (p4 : Int32) (v : Nat → Int32) (N : Nat) (F : Nat) : Nat → Int32 → Option (Int32 ⊕ Unit)
  | 0, _ => none
  | n + 1, x4_1 =>
    (if p3 ≤ x4_1 then
      some (Sum.inr ())
    else
      bnd ((p2 + 1) : Int32) fun x5 =>
      Option.bind (L_fits_L16 p2 p3 p4 v N x4_1 F x5) fun z_ => match z_ with
      | Sum.inl r_ => some (Sum.inl r_)
      | Sum.inr _ =>
      bnd (x4_1 + 1 : Int32) fun x4_2 =>
      L_fits_L5 p2 p3 p4 v N F n x4_2)
def L_fits (F : Nat) (N : Nat) (v : Nat → Int32) (p2 : Int32) (p3 : Int32) (p4 : Int32) : Option Int32 :=
  bnd ((p2 + 1) : Int32) fun x4 =>
  Option.bind (L_fits_L5 p2 p3 p4 v N F F x4) fun z_ => match z_ with
  | Sum.inl r_ => some r_
  | Sum.inr _ =>
  some 1
def L_steepest_L8 (p2 : Int32) (p3 : Int32) (p4 : Int32) (v : Nat → Int32) (N : Nat) : Nat → Int32 → Int32 → Option (Int32)
  | 0, _, _ => none
  | n + 1, x5_1, x4 =>
    (if p3 ≤ x5_1 then
      some x4
    else
      bnd ((Int32.toInt64 ((x5_1 - p2) - p4)) : Int64) fun x6 =>
      (if 0 < x6 then
        (if x4 = p2 then
          bnd (x5_1 + 1 : Int32) fun x5_2 =>
          L_steepest_L8 p2 p3 p4 v N n x5_2 x5_1
        else
          (if ¬ (x4 < 0 ∨ N ≤ (Int32.toNatClampNeg x4)) then
          (if ¬ (p2 < 0 ∨ N ≤ (Int32.toNatClampNeg p2)) then
          (if ¬ (x5_1 < 0 ∨ N ≤ (Int32.toNatClampNeg x5_1)) then
          (if ¬ (p2 < 0 ∨ N ≤ (Int32.toNatClampNeg p2)) then
          (if (x6 * (Int32.toInt64 ((v (Int32.toNatClampNeg x4)) - (v (Int32.toNatClampNeg p2))))) ≤ ((Int32.toInt64 ((x4 - p2) - p4)) * (Int32.toInt64 ((v (Int32.toNatClampNeg x5_1)) - (v (Int32.toNatClampNeg p2))))) then
            bnd (x5_1 + 1 : Int32) fun x5_3 =>
            L_steepest_L8 p2 p3 p4 v N n x5_3 x4
          else
            bnd (x5_1 + 1 : Int32) fun x5_4 =>
            L_steepest_L8 p2 p3 p4 v N n x5_4 x5_1) else none) else none) else none) else none))
      else
        bnd (x5_1 + 1 : Int32) fun x5_5 =>
        L_steepest_L8 p2 p3 p4 v N n x5_5 x4))
def L_steepest (F : Nat) (N : Nat) (v : Nat → Int32) (p2 : Int32) (p3 : Int32) (p4 : Int32) : Option Int32 :=
  bnd ((p2 + 1) : Int32) fun x5 =>
  Option.bind (L_steepest_L8 p2 p3 p4 v N F x5 p2) fun x4_1 =>
  some x4_1
def L_behind_L4 (p3 : Int32) (v : Nat → Int32) (N : Nat) : Nat → Int32 → Option (Int32)
  | 0, _ => none
  | n + 1, x3_1 =>
    (if p3 ≤ x3_1 then
      some x3_1
    else
      (if ¬ (x3_1 < 0 ∨ N ≤ (Int32.toNatClampNeg x3_1)) then
      (if (v (Int32.toNatClampNeg x3_1)) = 0 then
        bnd (x3_1 + 1 : Int32) fun x3_2 =>
        L_behind_L4 p3 v N n x3_2
      else
        some x3_1) else none))
def L_behind (F : Nat) (N : Nat) (v : Nat → Int32) (p2 : Int32) (p3 : Int32) : Option Int32 :=
  bnd ((p2 + 1) : Int32) fun x3 =>
  Option.bind (L_behind_L4 p3 v N F x3) fun x3_3 =>
  some x3_3
def L_common_L4 : Nat → Int32 → Int32 → Option (Int32)
  | 0, _, _ => none
  | n + 1, x3, x2 =>
    (if x3 ≤ 0 then
      some x2
    else
      (if ¬ x3 = 0 then
      bnd ((x2 - x2 / x3 * x3) : Int32) fun x4 =>
      L_common_L4 n x4 x3 else none))
def L_common (F : Nat) (p1 : Int32) (p2 : Int32) : Option Int32 :=
  Option.bind (L_common_L4 F p2 p1) fun x2_1 =>
  some x2_1
def L_cuts_L9 (p3 : Int32) (p4 : Int32) (p5 : Int32) (v1 : Nat → Int32) (F : Nat) : Nat → Int32 → Int32 → Int32 → (Nat → Int32) → Option (Int32 × (Nat → Int32))
  | 0, _, _, _, _ => none
  | n + 1, x7, x6, x5, v2l9 =>
    (if p4 ≤ x7 then
      some (x6, v2l9)
    else
      Option.bind (α := Int32) (
        (if x7 = p3 then
          some 1
        else
          Option.bind (L_fits F 64 v1 x5 (x7 + 1) p5) fun r30 =>
          (if r30 = 0 then
            some 1
          else
            some 0))) fun y41 =>
      bnd ((if y41 = 0 then x5 else x7) : Int32) fun y55 =>
      bnd ((if y41 = 0 then 0 else 1) : Int32) fun y70 =>
      (if ¬ (x7 < 0 ∨ 64 ≤ (Int32.toNatClampNeg x7)) then
      (if ¬ (x7 < 0 ∨ 64 ≤ (Int32.toNatClampNeg x7)) then
      bnd ((x6 + ((upd v2l9 (Int32.toNatClampNeg x7) y70) (Int32.toNatClampNeg x7))) : Int32) fun x6_1 =>
      bnd (x7 + 1 : Int32) fun x7_1 =>
      L_cuts_L9 p3 p4 p5 v1 F n x7_1 x6_1 y55 (upd v2l9 (Int32.toNatClampNeg x7) y70) else none) else none))
def L_cuts (F : Nat) (v1 : Nat → Int32) (v2 : Nat → Int32) (p3 : Int32) (p4 : Int32) (p5 : Int32) : Option (Int32 × (Nat → Int32)) :=
  Option.bind (L_cuts_L9 p3 p4 p5 v1 F F p3 0 p3 v2) fun (x6_2, v2x9) =>
  some (x6_2, v2x9)
def L_sorts_L3 (p2 : Int32) (p4 : Int32) (N : Nat) : Nat → Int32 → (Nat → Int32) → Option (Int32 × (Nat → Int32))
  | 0, _, _ => none
  | n + 1, x4, vl3 =>
    (if x4 ≤ p2 then
      some (x4, vl3)
    else
      (if ¬ ((x4 - 1) < 0 ∨ N ≤ (Int32.toNatClampNeg (x4 - 1))) then
      (if (vl3 (Int32.toNatClampNeg (x4 - 1))) ≤ p4 then
        some (x4, vl3)
      else
        (if ¬ ((x4 - 1) < 0 ∨ N ≤ (Int32.toNatClampNeg (x4 - 1))) then
        (if ¬ (x4 < 0 ∨ N ≤ (Int32.toNatClampNeg x4)) then
        bnd (x4 + (-1) : Int32) fun x4_1 =>
        L_sorts_L3 p2 p4 N n x4_1 (upd vl3 (Int32.toNatClampNeg x4) (vl3 (Int32.toNatClampNeg (x4 - 1)))) else none) else none)) else none))
def L_sorts (F : Nat) (N : Nat) (v : Nat → Int32) (p2 : Int32) (p3 : Int32) (p4 : Int32) : Option (Nat → Int32) :=
  Option.bind (L_sorts_L3 p2 p4 N F p3 v) fun (x4_2, vx3) =>
  (if ¬ (x4_2 < 0 ∨ N ≤ (Int32.toNatClampNeg x4_2)) then
  some (upd vx3 (Int32.toNatClampNeg x4_2) p4) else none)
def L_merge_L66 (vm : Nat → Int32) (vr : Nat → Int32) (y53_1 : Int32) : Nat → Int32 → Int32 → Int32 → (Nat → Int32) → Option (Int32 × Int32 × (Nat → Int32))
  | 0, _, _, _, _ => none
  | n + 1, x12_10, x11_5, x7_10, vxl66_1 =>
    (if y53_1 ≤ x12_10 then
      some (x11_5, x7_10, vxl66_1)
    else
      (if ¬ (x12_10 < 0 ∨ 64 ≤ (Int32.toNatClampNeg x12_10)) then
      bnd ((if (vm (Int32.toNatClampNeg x12_10)) = 1 then 1 else 0) : Int32) fun y88_1 =>
      bnd ((x11_5 ||| y88_1) : Int32) fun x11_6 =>
      (if ¬ (x12_10 < 0 ∨ 64 ≤ (Int32.toNatClampNeg x12_10)) then
      Option.bind (α := (Nat → Int32)) (
        (if (vm (Int32.toNatClampNeg x12_10)) = 0 then
          (if ¬ (x12_10 < 0 ∨ 64 ≤ (Int32.toNatClampNeg x12_10)) then
          (if ¬ (x7_10 < 0 ∨ 64 ≤ (Int32.toNatClampNeg x7_10)) then
          some (upd vxl66_1 (Int32.toNatClampNeg x7_10) (vr (Int32.toNatClampNeg x12_10))) else none) else none)
        else
          some vxl66_1)) fun vxj107_1 =>
      (if ¬ (x12_10 < 0 ∨ 64 ≤ (Int32.toNatClampNeg x12_10)) then
      bnd ((x7_10 + (1 - (vm (Int32.toNatClampNeg x12_10)))) : Int32) fun x7_11 =>
      bnd (x12_10 + 1 : Int32) fun x12_11 =>
      L_merge_L66 vm vr y53_1 n x12_11 x11_6 x7_11 vxj107_1 else none) else none) else none))
def L_merge_L127 (vr : Nat → Int32) (vl : Nat → Int32) (F : Nat) (x8 : Int32) (x7 : Int32) (vql18 : Nat → Int32) (y53_1 : Int32) : Nat → Int32 → Int32 → Int32 → (Nat → Int32) → Option (Int32 × Int32 × (Nat → Int32))
  | 0, _, _, _, _ => none
  | n + 1, x12_12, x11_8, x7_13, vxl127_1 =>
    (if ¬ ((1 : Int32) < 0 ∨ 7 ≤ (Int32.toNatClampNeg 1)) then
    (if (vql18 (Int32.toNatClampNeg 1)) ≤ x12_12 then
      some (x11_8, x7_13, vxl127_1)
    else
      (if x8 ≤ 0 then
        (if ¬ ((0 : Int32) < 0 ∨ 7 ≤ (Int32.toNatClampNeg 0)) then
        (if (vql18 (Int32.toNatClampNeg 0)) ≤ y53_1 then
          (if ¬ (x12_12 < 0 ∨ 16 ≤ (Int32.toNatClampNeg x12_12)) then
          Option.bind (L_sorts F 64 vxl127_1 x7 x7_13 (vl (Int32.toNatClampNeg x12_12))) fun vx185_4 =>
          bnd (x7_13 + 1 : Int32) fun x7_14 =>
          bnd (x12_12 + 1 : Int32) fun x12_13 =>
          L_merge_L127 vr vl F x8 x7 vql18 y53_1 n x12_13 1 x7_14 vx185_4 else none)
        else
          (if ¬ (x12_12 < 0 ∨ 16 ≤ (Int32.toNatClampNeg x12_12)) then
          (if ¬ (y53_1 < 0 ∨ 64 ≤ (Int32.toNatClampNeg y53_1)) then
          (if (vl (Int32.toNatClampNeg x12_12)) ≤ (vr (Int32.toNatClampNeg y53_1)) then
            (if ¬ (x12_12 < 0 ∨ 16 ≤ (Int32.toNatClampNeg x12_12)) then
            Option.bind (L_sorts F 64 vxl127_1 x7 x7_13 (vl (Int32.toNatClampNeg x12_12))) fun vx185_5 =>
            bnd (x7_13 + 1 : Int32) fun x7_15 =>
            bnd (x12_12 + 1 : Int32) fun x12_14 =>
            L_merge_L127 vr vl F x8 x7 vql18 y53_1 n x12_14 1 x7_15 vx185_5 else none)
          else
            bnd (x12_12 + 1 : Int32) fun x12_15 =>
            L_merge_L127 vr vl F x8 x7 vql18 y53_1 n x12_15 x11_8 x7_13 vxl127_1) else none) else none)) else none)
      else
        (if ¬ (x12_12 < 0 ∨ 16 ≤ (Int32.toNatClampNeg x12_12)) then
        (if ¬ (x8 < 0 ∨ 64 ≤ (Int32.toNatClampNeg x8)) then
        (if (vl (Int32.toNatClampNeg x12_12)) < (vr (Int32.toNatClampNeg x8)) then
          bnd (x12_12 + 1 : Int32) fun x12_16 =>
          L_merge_L127 vr vl F x8 x7 vql18 y53_1 n x12_16 x11_8 x7_13 vxl127_1
        else
          (if ¬ ((0 : Int32) < 0 ∨ 7 ≤ (Int32.toNatClampNeg 0)) then
          (if (vql18 (Int32.toNatClampNeg 0)) ≤ y53_1 then
            (if ¬ (x12_12 < 0 ∨ 16 ≤ (Int32.toNatClampNeg x12_12)) then
            Option.bind (L_sorts F 64 vxl127_1 x7 x7_13 (vl (Int32.toNatClampNeg x12_12))) fun vx185_6 =>
            bnd (x7_13 + 1 : Int32) fun x7_16 =>
            bnd (x12_12 + 1 : Int32) fun x12_17 =>
            L_merge_L127 vr vl F x8 x7 vql18 y53_1 n x12_17 1 x7_16 vx185_6 else none)
          else
            (if ¬ (x12_12 < 0 ∨ 16 ≤ (Int32.toNatClampNeg x12_12)) then
            (if ¬ (y53_1 < 0 ∨ 64 ≤ (Int32.toNatClampNeg y53_1)) then
            (if (vl (Int32.toNatClampNeg x12_12)) ≤ (vr (Int32.toNatClampNeg y53_1)) then
              (if ¬ (x12_12 < 0 ∨ 16 ≤ (Int32.toNatClampNeg x12_12)) then
              Option.bind (L_sorts F 64 vxl127_1 x7 x7_13 (vl (Int32.toNatClampNeg x12_12))) fun vx185_7 =>
              bnd (x7_13 + 1 : Int32) fun x7_17 =>
              bnd (x12_12 + 1 : Int32) fun x12_18 =>
              L_merge_L127 vr vl F x8 x7 vql18 y53_1 n x12_18 1 x7_17 vx185_7 else none)
            else
              bnd (x12_12 + 1 : Int32) fun x12_19 =>
              L_merge_L127 vr vl F x8 x7 vql18 y53_1 n x12_19 x11_8 x7_13 vxl127_1) else none) else none)) else none)) else none) else none))) else none)
def L_merge_L18 (vm : Nat → Int32) (vr : Nat → Int32) (vh : Nat → Int32) (vl : Nat → Int32) (F : Nat) : Nat → Int32 → Int32 → (Nat → Int32) → (Nat → Int32) → (Nat → Int32) → Option (Int32 × (Nat → Int32) × (Nat → Int32) × (Nat → Int32))
  | 0, _, _, _, _, _ => none
  | n + 1, x8, x7, vql18, vxl18, vyl18 =>
    (if ¬ ((0 : Int32) < 0 ∨ 7 ≤ (Int32.toNatClampNeg 0)) then
    (if x8 < (vql18 (Int32.toNatClampNeg 0)) then
      (if ¬ ((0 : Int32) < 0 ∨ 7 ≤ (Int32.toNatClampNeg 0)) then
      Option.bind (α := Int32) (
        (if (vql18 (Int32.toNatClampNeg 0)) = 0 then
          some 0
        else
          (if ¬ ((0 : Int32) < 0 ∨ 7 ≤ (Int32.toNatClampNeg 0)) then
          Option.bind (L_behind F 64 vh x8 (vql18 (Int32.toNatClampNeg 0))) fun r50_1 =>
          some r50_1 else none))) fun y53_1 =>
      Option.bind (L_merge_L66 vm vr y53_1 F x8 0 x7 vxl18) fun (x11_7, x7_12, vxx66_1) =>
      Option.bind (L_merge_L127 vr vl F x8 x7 vql18 y53_1 F 0 x11_7 x7_12 vxx66_1) fun (x11_9, x7_18, vxx127_1) =>
      Option.bind (α := (Nat → Int32) × (Nat → Int32)) (
        (if x11_9 = 0 then
          (if x7_18 ≤ x7 then
            some (vql18, vyl18)
          else
            (if ¬ (x7 < 0 ∨ 64 ≤ (Int32.toNatClampNeg x7)) then
            some (vql18, (upd vyl18 (Int32.toNatClampNeg x7) 1)) else none))
        else
          (if ¬ ((2 : Int32) < 0 ∨ 7 ≤ (Int32.toNatClampNeg 2)) then
          Option.bind (L_cuts F vxx127_1 vyl18 x7 x7_18 (vql18 (Int32.toNatClampNeg 2))) fun (r217_1, vy217_1) =>
          (if ¬ ((5 : Int32) < 0 ∨ 7 ≤ (Int32.toNatClampNeg 5)) then
          (if r217_1 ≤ 1 then
            (if ¬ ((5 : Int32) < 0 ∨ 7 ≤ (Int32.toNatClampNeg 5)) then
            some ((upd vql18 (Int32.toNatClampNeg 5) ((vql18 (Int32.toNatClampNeg 5)) + 0)), vy217_1) else none)
          else
            (if ¬ ((5 : Int32) < 0 ∨ 7 ≤ (Int32.toNatClampNeg 5)) then
            some ((upd vql18 (Int32.toNatClampNeg 5) ((vql18 (Int32.toNatClampNeg 5)) + (r217_1 - 1))), vy217_1) else none)) else none) else none))) fun (vqj259_1, vyj259_1) =>
      (if ¬ ((0 : Int32) < 0 ∨ 7 ≤ (Int32.toNatClampNeg 0)) then
      (if (vqj259_1 (Int32.toNatClampNeg 0)) = 0 then
        L_merge_L18 vm vr vh vl F n 1 x7_18 vqj259_1 vxx127_1 vyj259_1
      else
        L_merge_L18 vm vr vh vl F n y53_1 x7_18 vqj259_1 vxx127_1 vyj259_1) else none) else none)
    else
      (if x8 = 0 then
        (if ¬ ((0 : Int32) < 0 ∨ 7 ≤ (Int32.toNatClampNeg 0)) then
        Option.bind (α := Int32) (
          (if (vql18 (Int32.toNatClampNeg 0)) = 0 then
            some 0
          else
            (if ¬ ((0 : Int32) < 0 ∨ 7 ≤ (Int32.toNatClampNeg 0)) then
            Option.bind (L_behind F 64 vh x8 (vql18 (Int32.toNatClampNeg 0))) fun r50_2 =>
            some r50_2 else none))) fun y53_2 =>
        Option.bind (L_merge_L66 vm vr y53_2 F x8 0 x7 vxl18) fun (x11_12, x7_21, vxx66_2) =>
        Option.bind (L_merge_L127 vr vl F x8 x7 vql18 y53_2 F 0 x11_12 x7_21 vxx66_2) fun (x11_14, x7_27, vxx127_2) =>
        Option.bind (α := (Nat → Int32) × (Nat → Int32)) (
          (if x11_14 = 0 then
            (if x7_27 ≤ x7 then
              some (vql18, vyl18)
            else
              (if ¬ (x7 < 0 ∨ 64 ≤ (Int32.toNatClampNeg x7)) then
              some (vql18, (upd vyl18 (Int32.toNatClampNeg x7) 1)) else none))
          else
            (if ¬ ((2 : Int32) < 0 ∨ 7 ≤ (Int32.toNatClampNeg 2)) then
            Option.bind (L_cuts F vxx127_2 vyl18 x7 x7_27 (vql18 (Int32.toNatClampNeg 2))) fun (r217_2, vy217_2) =>
            (if ¬ ((5 : Int32) < 0 ∨ 7 ≤ (Int32.toNatClampNeg 5)) then
            (if r217_2 ≤ 1 then
              (if ¬ ((5 : Int32) < 0 ∨ 7 ≤ (Int32.toNatClampNeg 5)) then
              some ((upd vql18 (Int32.toNatClampNeg 5) ((vql18 (Int32.toNatClampNeg 5)) + 0)), vy217_2) else none)
            else
              (if ¬ ((5 : Int32) < 0 ∨ 7 ≤ (Int32.toNatClampNeg 5)) then
              some ((upd vql18 (Int32.toNatClampNeg 5) ((vql18 (Int32.toNatClampNeg 5)) + (r217_2 - 1))), vy217_2) else none)) else none) else none))) fun (vqj259_2, vyj259_2) =>
        (if ¬ ((0 : Int32) < 0 ∨ 7 ≤ (Int32.toNatClampNeg 0)) then
        (if (vqj259_2 (Int32.toNatClampNeg 0)) = 0 then
          L_merge_L18 vm vr vh vl F n 1 x7_27 vqj259_2 vxx127_2 vyj259_2
        else
          L_merge_L18 vm vr vh vl F n y53_2 x7_27 vqj259_2 vxx127_2 vyj259_2) else none) else none)
      else
        some (x7, vql18, vxl18, vyl18))) else none)
def L_merge_L291 (vxx18 : Nat → Int32) (vyx18 : Nat → Int32) : Nat → Int32 → (Nat → Int32) → (Nat → Int32) → (Nat → Int32) → Option ((Nat → Int32) × (Nat → Int32) × (Nat → Int32))
  | 0, _, _, _, _ => none
  | n + 1, x8_1, vml291, vrl291, vhl291 =>
    (if 64 ≤ x8_1 then
      some (vml291, vrl291, vhl291)
    else
      (if ¬ (x8_1 < 0 ∨ 64 ≤ (Int32.toNatClampNeg x8_1)) then
      (if ¬ (x8_1 < 0 ∨ 64 ≤ (Int32.toNatClampNeg x8_1)) then
      (if ¬ (x8_1 < 0 ∨ 64 ≤ (Int32.toNatClampNeg x8_1)) then
      (if ¬ (x8_1 < 0 ∨ 64 ≤ (Int32.toNatClampNeg x8_1)) then
      (if ¬ (x8_1 < 0 ∨ 64 ≤ (Int32.toNatClampNeg x8_1)) then
      bnd (x8_1 + 1 : Int32) fun x8_2 =>
      L_merge_L291 vxx18 vyx18 n x8_2 (upd vml291 (Int32.toNatClampNeg x8_1) 0) (upd vrl291 (Int32.toNatClampNeg x8_1) (vxx18 (Int32.toNatClampNeg x8_1))) (upd vhl291 (Int32.toNatClampNeg x8_1) (vyx18 (Int32.toNatClampNeg x8_1))) else none) else none) else none) else none) else none))
def L_merge_L330 (F : Nat) (x7_28 : Int32) (vrx291 : Nat → Int32) : Nat → Int32 → (Nat → Int32) → (Nat → Int32) → Option ((Nat → Int32) × (Nat → Int32))
  | 0, _, _, _ => none
  | n + 1, x8_3, vhl330, vql330 =>
    (if x7_28 ≤ x8_3 then
      some (vhl330, vql330)
    else
      Option.bind (L_behind F 64 vhl330 x8_3 x7_28) fun r342 =>
      (if x7_28 ≤ r342 then
        some (vhl330, vql330)
      else
        Option.bind (L_behind F 64 vhl330 x8_3 x7_28) fun r355 =>
        Option.bind (L_behind F 64 vhl330 r355 x7_28) fun r368 =>
        (if ¬ ((2 : Int32) < 0 ∨ 7 ≤ (Int32.toNatClampNeg 2)) then
        Option.bind (L_fits F 64 vrx291 x8_3 r368 (vql330 (Int32.toNatClampNeg 2))) fun r375 =>
        (if r375 = 0 then
          L_merge_L330 F x7_28 vrx291 n r355 vhl330 vql330
        else
          (if ¬ (r355 < 0 ∨ 64 ≤ (Int32.toNatClampNeg r355)) then
          (if ¬ ((6 : Int32) < 0 ∨ 7 ≤ (Int32.toNatClampNeg 6)) then
          (if ¬ ((6 : Int32) < 0 ∨ 7 ≤ (Int32.toNatClampNeg 6)) then
          L_merge_L330 F x7_28 vrx291 n x8_3 (upd vhl330 (Int32.toNatClampNeg r355) 0) (upd vql330 (Int32.toNatClampNeg 6) ((vql330 (Int32.toNatClampNeg 6)) + 1)) else none) else none) else none)) else none)))
def L_merge (F : Nat) (vm : Nat → Int32) (vr : Nat → Int32) (vh : Nat → Int32) (vl : Nat → Int32) (vq : Nat → Int32) : Option ((Nat → Int32) × (Nat → Int32) × (Nat → Int32) × (Nat → Int32)) :=
  Option.bind (L_merge_L18 vm vr vh vl F F 0 0 vq (fun _ => 0) (fun _ => 0)) fun (x7_28, vqx18, vxx18, vyx18) =>
  (if ¬ ((0 : Int32) < 0 ∨ 7 ≤ (Int32.toNatClampNeg 0)) then
  (if ¬ ((1 : Int32) < 0 ∨ 7 ≤ (Int32.toNatClampNeg 1)) then
  Option.bind (L_merge_L291 vxx18 vyx18 F 0 vm vr vh) fun (vmx291, vrx291, vhx291) =>
  Option.bind (L_merge_L330 F x7_28 vrx291 F 0 vhx291 (upd (upd vqx18 (Int32.toNatClampNeg 0) x7_28) (Int32.toNatClampNeg 1) 0)) fun (vhx330, vqx330) =>
  (if ¬ ((4 : Int32) < 0 ∨ 7 ≤ (Int32.toNatClampNeg 4)) then
  (if ¬ ((4 : Int32) < 0 ∨ 7 ≤ (Int32.toNatClampNeg 4)) then
  some (vmx291, vrx291, vhx330, (upd vqx330 (Int32.toNatClampNeg 4) ((vqx330 (Int32.toNatClampNeg 4)) + 1))) else none) else none) else none) else none)
def L_find_L5 (p2 : Int32) (p3 : Int32) (v : Nat → Int32) (N : Nat) : Nat → Int32 → Int32 → Option (Int32)
  | 0, _, _ => none
  | n + 1, x4, x3 =>
    (if p2 ≤ x4 then
      some x3
    else
      (if ¬ (x4 < 0 ∨ N ≤ (Int32.toNatClampNeg x4)) then
      (if (v (Int32.toNatClampNeg x4)) = p3 then
        bnd (x4 + 1 : Int32) fun x4_2 =>
        L_find_L5 p2 p3 v N n x4_2 x4
      else
        bnd (x4 + 1 : Int32) fun x4_1 =>
        L_find_L5 p2 p3 v N n x4_1 x3) else none))
def L_find (F : Nat) (N : Nat) (v : Nat → Int32) (p2 : Int32) (p3 : Int32) : Option Int32 :=
  Option.bind (L_find_L5 p2 p3 v N F 0 (-1)) fun x3_1 =>
  some x3_1
def L_below_L6 (p5 : Int64) (vm : Nat → Int32) (vr : Nat → Int32) (vq : Nat → Int32) : Nat → Int32 → Int32 → Option (Int32)
  | 0, _, _ => none
  | n + 1, x7, x6 =>
    (if ¬ ((0 : Int32) < 0 ∨ 7 ≤ (Int32.toNatClampNeg 0)) then
    (if (vq (Int32.toNatClampNeg 0)) ≤ x7 then
      some x6
    else
      (if ¬ (x7 < 0 ∨ 64 ≤ (Int32.toNatClampNeg x7)) then
      (if (vm (Int32.toNatClampNeg x7)) = 0 then
        (if ¬ (x7 < 0 ∨ 64 ≤ (Int32.toNatClampNeg x7)) then
        (if p5 ≤ (Int32.toInt64 (vr (Int32.toNatClampNeg x7))) then
          bnd ((x6 + 0) : Int32) fun x6_2 =>
          bnd (x7 + 1 : Int32) fun x7_2 =>
          L_below_L6 p5 vm vr vq n x7_2 x6_2
        else
          bnd ((x6 + 1) : Int32) fun x6_3 =>
          bnd (x7 + 1 : Int32) fun x7_3 =>
          L_below_L6 p5 vm vr vq n x7_3 x6_3) else none)
      else
        bnd ((x6 + 0) : Int32) fun x6_1 =>
        bnd (x7 + 1 : Int32) fun x7_1 =>
        L_below_L6 p5 vm vr vq n x7_1 x6_1) else none)) else none)
def L_below_L51 (p5 : Int64) (vl : Nat → Int32) (vq : Nat → Int32) : Nat → Int32 → Int32 → Option (Int32)
  | 0, _, _ => none
  | n + 1, x7_4, x6_5 =>
    (if ¬ ((1 : Int32) < 0 ∨ 7 ≤ (Int32.toNatClampNeg 1)) then
    (if (vq (Int32.toNatClampNeg 1)) ≤ x7_4 then
      some x6_5
    else
      (if ¬ (x7_4 < 0 ∨ 16 ≤ (Int32.toNatClampNeg x7_4)) then
      (if p5 ≤ (Int32.toInt64 (vl (Int32.toNatClampNeg x7_4))) then
        bnd ((x6_5 + 0) : Int32) fun x6_6 =>
        bnd (x7_4 + 1 : Int32) fun x7_5 =>
        L_below_L51 p5 vl vq n x7_5 x6_6
      else
        bnd ((x6_5 + 1) : Int32) fun x6_7 =>
        bnd (x7_4 + 1 : Int32) fun x7_6 =>
        L_below_L51 p5 vl vq n x7_6 x6_7) else none)) else none)
def L_below (F : Nat) (vm : Nat → Int32) (vr : Nat → Int32) (vl : Nat → Int32) (vq : Nat → Int32) (p5 : Int64) : Option Int32 :=
  Option.bind (L_below_L6 p5 vm vr vq F 0 0) fun x6_4 =>
  Option.bind (L_below_L51 p5 vl vq F 0 x6_4) fun x6_8 =>
  some x6_8
def L_refused (F : Nat) (zk : zN) (zm : zN) (zb : zN) (zs : zN) (zr : zN) (zu : zN) (zt : zT) (zf : zN) (zg : zN) (zbd : Int32) (zro : Int32) (zmc : Int32) (zmg : Int32) (zsp : Int32) (zjn : Int32) (p2 : Int32) (p3 : Int32) (p4 : Int32) : Option (Int32 × zN × zN × zN × zN × zN × zN × zT × zN × zN × Int32 × Int32 × Int32 × Int32 × Int32 × Int32) :=
  (if p2 = 0 then
    Option.bind (X2_append F zk zm zb zs zr zu zt zbd p3) fun z_ => match z_ with
    | Sum.inl e_ => (if e_ = 1 then
      some (1, zk, zm, zb, zs, zr, zu, zt, zf, zg, zbd, zro, zmc, zmg, zsp, zjn)
    else (if e_ = 2 then
      some (2, zk, zm, zb, zs, zr, zu, zt, zf, zg, zbd, zro, zmc, zmg, zsp, zjn)
    else (if e_ = 4 then
      some (3, zk, zm, zb, zs, zr, zu, zt, zf, zg, zbd, zro, zmc, zmg, zsp, zjn)
    else (if e_ = 3 then
      some (4, zk, zm, zb, zs, zr, zu, zt, zf, zg, zbd, zro, zmc, zmg, zsp, zjn)
    else none))))
    | Sum.inr (r6, zk6, zm6, zs6, zr6, zu6, zt6) =>
    some ((r6 * 0), zk6, zm6, zb, zs6, zr6, zu6, zt6, zf, zg, zbd, zro, zmc, zmg, zsp, zjn)
  else
    (if p2 = 1 then
      Option.bind (X2_insert F zk zm zb zs zr zu zt zf zg zbd zro zmc zmg zsp zjn p3) fun z_ => match z_ with
      | Sum.inl e_ => (if e_ = 1 then
        some (1, zk, zm, zb, zs, zr, zu, zt, zf, zg, zbd, zro, zmc, zmg, zsp, zjn)
      else (if e_ = 2 then
        some (2, zk, zm, zb, zs, zr, zu, zt, zf, zg, zbd, zro, zmc, zmg, zsp, zjn)
      else (if e_ = 4 then
        some (3, zk, zm, zb, zs, zr, zu, zt, zf, zg, zbd, zro, zmc, zmg, zsp, zjn)
      else (if e_ = 3 then
        some (4, zk, zm, zb, zs, zr, zu, zt, zf, zg, zbd, zro, zmc, zmg, zsp, zjn)
      else none))))
      | Sum.inr (r19, zk19, zm19, zb19, zs19, zr19, zu19, zt19, zf19, zg19, zmc19, zmg19, zsp19, zjn19) =>
      some ((r19 * 0), zk19, zm19, zb19, zs19, zr19, zu19, zt19, zf19, zg19, zbd, zro, zmc19, zmg19, zsp19, zjn19)
    else
      (if p2 = 2 then
        Option.bind (X2_remove F zk zm zb zmc p3) fun z_ => match z_ with
        | Sum.inl e_ => (if e_ = 1 then
          some (1, zk, zm, zb, zs, zr, zu, zt, zf, zg, zbd, zro, zmc, zmg, zsp, zjn)
        else (if e_ = 2 then
          some (2, zk, zm, zb, zs, zr, zu, zt, zf, zg, zbd, zro, zmc, zmg, zsp, zjn)
        else (if e_ = 4 then
          some (3, zk, zm, zb, zs, zr, zu, zt, zf, zg, zbd, zro, zmc, zmg, zsp, zjn)
        else (if e_ = 3 then
          some (4, zk, zm, zb, zs, zr, zu, zt, zf, zg, zbd, zro, zmc, zmg, zsp, zjn)
        else none))))
        | Sum.inr (r32, zm32, zb32, zmc32) =>
        some ((r32 * 0), zk, zm32, zb32, zs, zr, zu, zt, zf, zg, zbd, zro, zmc32, zmg, zsp, zjn)
      else
        (if p2 = 3 then
          Option.bind (X2_select F zk zm zb zf zmc p3) fun z_ => match z_ with
          | Sum.inl e_ => (if e_ = 1 then
            some (1, zk, zm, zb, zs, zr, zu, zt, zf, zg, zbd, zro, zmc, zmg, zsp, zjn)
          else (if e_ = 2 then
            some (2, zk, zm, zb, zs, zr, zu, zt, zf, zg, zbd, zro, zmc, zmg, zsp, zjn)
          else (if e_ = 4 then
            some (3, zk, zm, zb, zs, zr, zu, zt, zf, zg, zbd, zro, zmc, zmg, zsp, zjn)
          else (if e_ = 3 then
            some (4, zk, zm, zb, zs, zr, zu, zt, zf, zg, zbd, zro, zmc, zmg, zsp, zjn)
          else none))))
          | Sum.inr (r45, zf45) =>
          some ((r45 * 0), zk, zm, zb, zs, zr, zu, zt, zf45, zg, zbd, zro, zmc, zmg, zsp, zjn)
        else
          (if p2 = 4 then
            Option.bind (X2_ceiling F zk zm zb zf zmc p3) fun z_ => match z_ with
            | Sum.inl e_ => (if e_ = 1 then
              some (1, zk, zm, zb, zs, zr, zu, zt, zf, zg, zbd, zro, zmc, zmg, zsp, zjn)
            else (if e_ = 2 then
              some (2, zk, zm, zb, zs, zr, zu, zt, zf, zg, zbd, zro, zmc, zmg, zsp, zjn)
            else (if e_ = 4 then
              some (3, zk, zm, zb, zs, zr, zu, zt, zf, zg, zbd, zro, zmc, zmg, zsp, zjn)
            else (if e_ = 3 then
              some (4, zk, zm, zb, zs, zr, zu, zt, zf, zg, zbd, zro, zmc, zmg, zsp, zjn)
            else none))))
            | Sum.inr (r58, zf58) =>
            some ((r58 * 0), zk, zm, zb, zs, zr, zu, zt, zf58, zg, zbd, zro, zmc, zmg, zsp, zjn)
          else
            (if p2 = 5 then
              Option.bind (X2_start F zs p3) fun z_ => match z_ with
              | Sum.inl e_ => (if e_ = 1 then
                some (1, zk, zm, zb, zs, zr, zu, zt, zf, zg, zbd, zro, zmc, zmg, zsp, zjn)
              else (if e_ = 2 then
                some (2, zk, zm, zb, zs, zr, zu, zt, zf, zg, zbd, zro, zmc, zmg, zsp, zjn)
              else (if e_ = 4 then
                some (3, zk, zm, zb, zs, zr, zu, zt, zf, zg, zbd, zro, zmc, zmg, zsp, zjn)
              else (if e_ = 3 then
                some (4, zk, zm, zb, zs, zr, zu, zt, zf, zg, zbd, zro, zmc, zmg, zsp, zjn)
              else none))))
              | Sum.inr r71 =>
              some ((r71 * 0), zk, zm, zb, zs, zr, zu, zt, zf, zg, zbd, zro, zmc, zmg, zsp, zjn)
            else
              Option.bind (X2_rebuild F zk zm zb zs zr zu zt zf zbd zro zmc p3 p4) fun z_ => match z_ with
              | Sum.inl e_ => (if e_ = 1 then
                some (1, zk, zm, zb, zs, zr, zu, zt, zf, zg, zbd, zro, zmc, zmg, zsp, zjn)
              else (if e_ = 2 then
                some (2, zk, zm, zb, zs, zr, zu, zt, zf, zg, zbd, zro, zmc, zmg, zsp, zjn)
              else (if e_ = 4 then
                some (3, zk, zm, zb, zs, zr, zu, zt, zf, zg, zbd, zro, zmc, zmg, zsp, zjn)
              else (if e_ = 3 then
                some (4, zk, zm, zb, zs, zr, zu, zt, zf, zg, zbd, zro, zmc, zmg, zsp, zjn)
              else none))))
              | Sum.inr (r80, zk80, zm80, zb80, zs80, zr80, zu80, zt80, zf80, zbd80, zro80, zmc80) =>
              some ((r80 * 0), zk80, zm80, zb80, zs80, zr80, zu80, zt80, zf80, zg, zbd80, zro80, zmc80, zmg, zsp, zjn)))))))
def L_guess (F : Nat) (N : Nat) (v : Nat → Int32) (p1 : Int32) (p3 : Int32) (p4 : Int32) (p5 : Int32) : Option Int64 :=
  Option.bind (L_steepest F N v p3 p4 p5) fun r5 =>
  (if r5 = p3 then
    some (Int32.toInt64 p3)
  else
    (if ¬ (p3 < 0 ∨ N ≤ (Int32.toNatClampNeg p3)) then
    (if ¬ (r5 < 0 ∨ N ≤ (Int32.toNatClampNeg r5)) then
    (if ¬ (p3 < 0 ∨ N ≤ (Int32.toNatClampNeg p3)) then
    (if ¬ (Int32.toInt64 ((v (Int32.toNatClampNeg r5)) - (v (Int32.toNatClampNeg p3)))) = 0 then
    some ((Int32.toInt64 p3) + (((Int32.toInt64 ((r5 - p3) - p5)) * (Int32.toInt64 (p1 - (v (Int32.toNatClampNeg p3))))) / (Int32.toInt64 ((v (Int32.toNatClampNeg r5)) - (v (Int32.toNatClampNeg p3)))))) else none) else none) else none) else none))
def L_pieces_L198 (vr : Nat → Int32) (vq : Nat → Int32) (zk : zN) (zm : zN) (zb : zN) (zs : zN) (zr : zN) (zu : zN) (zt : zT) (zf : zN) (zg : zN) (zbd : Int32) (zro : Int32) (zmc : Int32) (zmg : Int32) (zsp : Int32) (zjn : Int32) (F : Nat) (x9 : Int32) (r35 : Int32) : Nat → Int32 → Int64 → Option ((Int32 × zN × zN × zN × zN × zN × zN × zT × zN × zN × Int32 × Int32 × Int32 × Int32 × Int32 × Int32) ⊕ Int64)
  | 0, _, _ => none
  | n + 1, x15, x7_1 =>
    (if r35 ≤ x15 then
      some (Sum.inr x7_1)
    else
      (if ¬ (x15 < 0 ∨ 64 ≤ (Int32.toNatClampNeg x15)) then
      (if ¬ ((2 : Int32) < 0 ∨ 7 ≤ (Int32.toNatClampNeg 2)) then
      Option.bind (L_guess F 64 vr (vr (Int32.toNatClampNeg x15)) x9 r35 (vq (Int32.toNatClampNeg 2))) fun r217 =>
      bnd ((r217 - (Int32.toInt64 x15)) : Int64) fun x16 =>
      (if ¬ (x15 < 0 ∨ 64 ≤ (Int32.toNatClampNeg x15)) then
      Option.bind (nz (X2_guess F zk zs zr zu (vr (Int32.toNatClampNeg x15)))) fun r231 =>
      (if r231 = (x16 + (Int32.toInt64 x15)) then
        (if ¬ ((2 : Int32) < 0 ∨ 7 ≤ (Int32.toNatClampNeg 2)) then
        (if (Int32.toInt64 (vq (Int32.toNatClampNeg 2))) < x16 then
          some (Sum.inl (0, zk, zm, zb, zs, zr, zu, zt, zf, zg, zbd, zro, zmc, zmg, zsp, zjn))
        else
          (if ¬ ((2 : Int32) < 0 ∨ 7 ≤ (Int32.toNatClampNeg 2)) then
          (if (Int32.toInt64 (-(vq (Int32.toNatClampNeg 2)))) ≤ x16 then
            (if x16 ≤ x7_1 then
              (if (-x16) ≤ x7_1 then
                bnd (x15 + 1 : Int32) fun x15_1 =>
                L_pieces_L198 vr vq zk zm zb zs zr zu zt zf zg zbd zro zmc zmg zsp zjn F x9 r35 n x15_1 x7_1
              else
                bnd ((-x16) : Int64) fun x7_2 =>
                bnd (x15 + 1 : Int32) fun x15_2 =>
                L_pieces_L198 vr vq zk zm zb zs zr zu zt zf zg zbd zro zmc zmg zsp zjn F x9 r35 n x15_2 x7_2)
            else
              bnd (x15 + 1 : Int32) fun x15_3 =>
              L_pieces_L198 vr vq zk zm zb zs zr zu zt zf zg zbd zro zmc zmg zsp zjn F x9 r35 n x15_3 x16)
          else
            some (Sum.inl (0, zk, zm, zb, zs, zr, zu, zt, zf, zg, zbd, zro, zmc, zmg, zsp, zjn))) else none)) else none)
      else
        some (Sum.inl (0, zk, zm, zb, zs, zr, zu, zt, zf, zg, zbd, zro, zmc, zmg, zsp, zjn))) else none) else none) else none))
def L_pieces_L21 (vr : Nat → Int32) (vh : Nat → Int32) (vq : Nat → Int32) (zk : zN) (zm : zN) (zb : zN) (zs : zN) (zr : zN) (zu : zN) (zt : zT) (zf : zN) (zg : zN) (zbd : Int32) (zro : Int32) (zmc : Int32) (zmg : Int32) (zsp : Int32) (zjn : Int32) (F : Nat) : Nat → Int32 → Int64 → Int32 → (Nat → Int32) → (Nat → Int32) → Option ((Int32 × zN × zN × zN × zN × zN × zN × zT × zN × zN × Int32 × Int32 × Int32 × Int32 × Int32 × Int32) ⊕ (Int64 × Int32 × (Nat → Int32) × (Nat → Int32)))
  | 0, _, _, _, _, _ => none
  | n + 1, x9, x7, x6, vxl21, vyl21 =>
    (if ¬ ((0 : Int32) < 0 ∨ 7 ≤ (Int32.toNatClampNeg 0)) then
    (if (vq (Int32.toNatClampNeg 0)) ≤ x9 then
      some (Sum.inr (x7, x6, vxl21, vyl21))
    else
      (if ¬ ((0 : Int32) < 0 ∨ 7 ≤ (Int32.toNatClampNeg 0)) then
      Option.bind (L_behind F 64 vh x9 (vq (Int32.toNatClampNeg 0))) fun r35 =>
      (if ¬ ((2 : Int32) < 0 ∨ 7 ≤ (Int32.toNatClampNeg 2)) then
      Option.bind (L_steepest F 64 vr x9 r35 (vq (Int32.toNatClampNeg 2))) fun r48 =>
      Option.bind (α := Int32) (
        (if r48 = x9 then
          some 0
        else
          (if ¬ ((2 : Int32) < 0 ∨ 7 ≤ (Int32.toNatClampNeg 2)) then
          some ((r48 - x9) - (vq (Int32.toNatClampNeg 2))) else none))) fun y73 =>
      Option.bind (α := Int32) (
        (if r48 = x9 then
          some 1
        else
          (if ¬ (r48 < 0 ∨ 64 ≤ (Int32.toNatClampNeg r48)) then
          (if ¬ (x9 < 0 ∨ 64 ≤ (Int32.toNatClampNeg x9)) then
          some ((vr (Int32.toNatClampNeg r48)) - (vr (Int32.toNatClampNeg x9))) else none) else none))) fun y95 =>
      Option.bind (L_common F y73 y95) fun r101 =>
      (if ¬ r101 = 0 then
      (if ¬ (x6 < 0 ∨ 64 ≤ (Int32.toNatClampNeg x6)) then
      (if ¬ r101 = 0 then
      (if ¬ (x6 < 0 ∨ 64 ≤ (Int32.toNatClampNeg x6)) then
      (if ¬ ((2 : Int32) < 0 ∨ 7 ≤ (Int32.toNatClampNeg 2)) then
      Option.bind (L_fits F 64 vr x9 r35 (vq (Int32.toNatClampNeg 2))) fun r134 =>
      (if r134 = 0 then
        some (Sum.inl (0, zk, zm, zb, zs, zr, zu, zt, zf, zg, zbd, zro, zmc, zmg, zsp, zjn))
      else
        Option.bind (nz (X2_start F zs x6)) fun r143 =>
        (if r143 = x9 then
          Option.bind (nz (X2_firstKey F zk zs x6)) fun r154 =>
          (if ¬ (x9 < 0 ∨ 64 ≤ (Int32.toNatClampNeg x9)) then
          (if r154 = (vr (Int32.toNatClampNeg x9)) then
            Option.bind (nz (X2_rise F zs zr x6)) fun r167 =>
            (if ¬ (x6 < 0 ∨ 64 ≤ (Int32.toNatClampNeg x6)) then
            (if r167 = ((upd vxl21 (Int32.toNatClampNeg x6) (y73 / r101)) (Int32.toNatClampNeg x6)) then
              Option.bind (nz (X2_run F zs zu x6)) fun r181 =>
              (if ¬ (x6 < 0 ∨ 64 ≤ (Int32.toNatClampNeg x6)) then
              (if r181 = ((upd vyl21 (Int32.toNatClampNeg x6) (y95 / r101)) (Int32.toNatClampNeg x6)) then
                Option.bind (L_pieces_L198 vr vq zk zm zb zs zr zu zt zf zg zbd zro zmc zmg zsp zjn F x9 r35 F x9 x7) fun z_ => match z_ with
                | Sum.inl r_ => some (Sum.inl r_)
                | Sum.inr x7_3 =>
                bnd (x6 + 1 : Int32) fun x6_1 =>
                (if ¬ ((0 : Int32) < 0 ∨ 7 ≤ (Int32.toNatClampNeg 0)) then
                Option.bind (L_behind F 64 vh x9 (vq (Int32.toNatClampNeg 0))) fun r314 =>
                L_pieces_L21 vr vh vq zk zm zb zs zr zu zt zf zg zbd zro zmc zmg zsp zjn F n r314 x7_3 x6_1 (upd vxl21 (Int32.toNatClampNeg x6) (y73 / r101)) (upd vyl21 (Int32.toNatClampNeg x6) (y95 / r101)) else none)
              else
                some (Sum.inl (0, zk, zm, zb, zs, zr, zu, zt, zf, zg, zbd, zro, zmc, zmg, zsp, zjn))) else none)
            else
              some (Sum.inl (0, zk, zm, zb, zs, zr, zu, zt, zf, zg, zbd, zro, zmc, zmg, zsp, zjn))) else none)
          else
            some (Sum.inl (0, zk, zm, zb, zs, zr, zu, zt, zf, zg, zbd, zro, zmc, zmg, zsp, zjn))) else none)
        else
          some (Sum.inl (0, zk, zm, zb, zs, zr, zu, zt, zf, zg, zbd, zro, zmc, zmg, zsp, zjn)))) else none) else none) else none) else none) else none) else none) else none)) else none)
def L_pieces_L351 (x6_2 : Int32) (vxx21 : Nat → Int32) (vyx21 : Nat → Int32) (x12 : Int32) : Nat → Int32 → Int32 → Int32 → Option (Int32 × Int32)
  | 0, _, _, _ => none
  | n + 1, x15_4, x14, x13 =>
    (if x6_2 ≤ x15_4 then
      some (x14, x13)
    else
      (if ¬ (x15_4 < 0 ∨ 64 ≤ (Int32.toNatClampNeg x15_4)) then
      (if ¬ (x12 < 0 ∨ 64 ≤ (Int32.toNatClampNeg x12)) then
      Option.bind (α := Int32) (
        (if (vxx21 (Int32.toNatClampNeg x15_4)) = (vxx21 (Int32.toNatClampNeg x12)) then
          (if ¬ (x15_4 < 0 ∨ 64 ≤ (Int32.toNatClampNeg x15_4)) then
          (if ¬ (x12 < 0 ∨ 64 ≤ (Int32.toNatClampNeg x12)) then
          (if (vyx21 (Int32.toNatClampNeg x15_4)) = (vyx21 (Int32.toNatClampNeg x12)) then
            some 1
          else
            some 0) else none) else none)
        else
          some 0)) fun y389 =>
      bnd ((if y389 = 0 then 0 else 1) : Int32) fun y403 =>
      bnd ((x13 + y403) : Int32) fun x13_1 =>
      (if y389 = 0 then
        bnd (x15_4 + 1 : Int32) fun x15_5 =>
        L_pieces_L351 x6_2 vxx21 vyx21 x12 n x15_5 x14 x13_1
      else
        (if x14 ≤ x15_4 then
          bnd (x15_4 + 1 : Int32) fun x15_6 =>
          L_pieces_L351 x6_2 vxx21 vyx21 x12 n x15_6 x14 x13_1
        else
          bnd (x15_4 + 1 : Int32) fun x15_7 =>
          L_pieces_L351 x6_2 vxx21 vyx21 x12 n x15_7 x15_4 x13_1)) else none) else none))
def L_pieces_L334 (F : Nat) (x6_2 : Int32) (vxx21 : Nat → Int32) (vyx21 : Nat → Int32) : Nat → Int32 → Int32 → Int32 → Int32 → Option (Int32 × Int32)
  | 0, _, _, _, _ => none
  | n + 1, x12, x11, x10, x9_1 =>
    (if x6_2 ≤ x12 then
      some (x10, x9_1)
    else
      Option.bind (L_pieces_L351 x6_2 vxx21 vyx21 x12 F 0 x12 0) fun (x14_1, x13_2) =>
      bnd ((if x14_1 = x12 then 1 else 0) : Int32) fun y447 =>
      bnd ((x9_1 + y447) : Int32) fun x9_2 =>
      bnd ((if x13_2 ≤ x11 then x10 else x12) : Int32) fun y464 =>
      (if x13_2 ≤ x11 then
        bnd (x12 + 1 : Int32) fun x12_1 =>
        L_pieces_L334 F x6_2 vxx21 vyx21 n x12_1 x11 y464 x9_2
      else
        bnd (x12 + 1 : Int32) fun x12_2 =>
        L_pieces_L334 F x6_2 vxx21 vyx21 n x12_2 x13_2 y464 x9_2))
def L_pieces (F : Nat) (vr : Nat → Int32) (vh : Nat → Int32) (vq : Nat → Int32) (zk : zN) (zm : zN) (zb : zN) (zs : zN) (zr : zN) (zu : zN) (zt : zT) (zf : zN) (zg : zN) (zbd : Int32) (zro : Int32) (zmc : Int32) (zmg : Int32) (zsp : Int32) (zjn : Int32) : Option (Int32 × zN × zN × zN × zN × zN × zN × zT × zN × zN × Int32 × Int32 × Int32 × Int32 × Int32 × Int32) :=
  Option.bind (L_pieces_L21 vr vh vq zk zm zb zs zr zu zt zf zg zbd zro zmc zmg zsp zjn F F 0 0 0 (fun _ => 0) (fun _ => 0)) fun z_ => match z_ with
  | Sum.inl r_ => some r_
  | Sum.inr (x7_4, x6_2, vxx21, vyx21) =>
  Option.bind (L_pieces_L334 F x6_2 vxx21 vyx21 F 0 0 (-1) 0) fun (x10_1, x9_3) =>
  Option.bind (X2_pieces F zs) fun r489 =>
  (if r489 = x6_2 then
    Option.bind (X2_worstError F zk zs zr zu) fun r498 =>
    (if (Int32.toInt64 r498) = x7_4 then
      Option.bind (X2_slopes F zs zr zu) fun r509 =>
      (if r509 = x9_3 then
        Option.bind (X2_commonest F zs zr zu) fun r518 =>
        (if r518 = x10_1 then
          Option.bind (L_refused F zk zm zb zs zr zu zt zf zg zbd zro zmc zmg zsp zjn 5 x6_2 0) fun (r531, zk531, zm531, zb531, zs531, zr531, zu531, zt531, zf531, zg531, zbd531, zro531, zmc531, zmg531, zsp531, zjn531) =>
          (if r531 = 4 then
            some (1, zk531, zm531, zb531, zs531, zr531, zu531, zt531, zf531, zg531, zbd531, zro531, zmc531, zmg531, zsp531, zjn531)
          else
            some (0, zk531, zm531, zb531, zs531, zr531, zu531, zt531, zf531, zg531, zbd531, zro531, zmc531, zmg531, zsp531, zjn531))
        else
          some (0, zk, zm, zb, zs, zr, zu, zt, zf, zg, zbd, zro, zmc, zmg, zsp, zjn))
      else
        some (0, zk, zm, zb, zs, zr, zu, zt, zf, zg, zbd, zro, zmc, zmg, zsp, zjn))
    else
      some (0, zk, zm, zb, zs, zr, zu, zt, zf, zg, zbd, zro, zmc, zmg, zsp, zjn))
  else
    some (0, zk, zm, zb, zs, zr, zu, zt, zf, zg, zbd, zro, zmc, zmg, zsp, zjn))
def L_keys_L43 (p2 : Int32) (vr : Nat → Int32) (vq : Nat → Int32) : Nat → Int32 → Option (Int32)
  | 0, _ => none
  | n + 1, x11 =>
    (if ¬ ((0 : Int32) < 0 ∨ 7 ≤ (Int32.toNatClampNeg 0)) then
    (if (vq (Int32.toNatClampNeg 0)) ≤ x11 then
      some x11
    else
      (if ¬ (x11 < 0 ∨ 64 ≤ (Int32.toNatClampNeg x11)) then
      (if p2 ≤ (vr (Int32.toNatClampNeg x11)) then
        some x11
      else
        bnd (x11 + 1 : Int32) fun x11_1 =>
        L_keys_L43 p2 vr vq n x11_1) else none)) else none)
def L_keys_L269 (vh : Nat → Int32) : Nat → Int32 → Option (Int32)
  | 0, _ => none
  | n + 1, x14 =>
    (if x14 < 0 then
      some x14
    else
      (if ¬ (x14 < 0 ∨ 64 ≤ (Int32.toNatClampNeg x14)) then
      (if (vh (Int32.toNatClampNeg x14)) = 0 then
        bnd (x14 + (-1) : Int32) fun x14_1 =>
        L_keys_L269 vh n x14_1
      else
        some x14) else none))
def L_keys_L437 (p2 : Int32) (vr : Nat → Int32) : Nat → Int32 → Int64 → Int64 → Option (Int32)
  | 0, _, _, _ => none
  | n + 1, x22, x20, x18 =>
    (if x20 ≤ x18 then
      some x22
    else
      bnd ((Int64.toInt32 ((x18 + x20) / 2)) : Int32) fun x23 =>
      bnd (x22 + 1 : Int32) fun x22_1 =>
      (if ¬ (x23 < 0 ∨ 64 ≤ (Int32.toNatClampNeg x23)) then
      (if p2 ≤ (vr (Int32.toNatClampNeg x23)) then
        bnd ((Int32.toInt64 x23) : Int64) fun x20_1 =>
        L_keys_L437 p2 vr n x22_1 x20_1 x18
      else
        bnd ((Int32.toInt64 (x23 + 1)) : Int64) fun x18_1 =>
        L_keys_L437 p2 vr n x22_1 x20 x18_1) else none))
def L_keys (F : Nat) (vm : Nat → Int32) (vr : Nat → Int32) (vh : Nat → Int32) (vl : Nat → Int32) (vq : Nat → Int32) (zk : zN) (zm : zN) (zb : zN) (zs : zN) (zr : zN) (zu : zN) (zt : zT) (zf : zN) (zg : zN) (zbd : Int32) (zro : Int32) (zmc : Int32) (zmg : Int32) (zsp : Int32) (zjn : Int32) (p2 : Int32) (p3 : Int32) : Option (Int32 × zN × zN × zN × zN × zN × zN × zT × zN × zN × Int32 × Int32 × Int32 × Int32 × Int32 × Int32) :=
  Option.bind (L_below F vm vr vl vq 1000001) fun r10 =>
  Option.bind (L_below F vm vr vl vq (Int32.toInt64 p2)) fun r24 =>
  (if ¬ ((0 : Int32) < 0 ∨ 7 ≤ (Int32.toNatClampNeg 0)) then
  Option.bind (L_find F 64 vr (vq (Int32.toNatClampNeg 0)) p2) fun r35 =>
  Option.bind (L_keys_L43 p2 vr vq F 0) fun x11_2 =>
  Option.bind (α := Int32) (
    (if r35 < 0 then
      (if ¬ ((1 : Int32) < 0 ∨ 7 ≤ (Int32.toNatClampNeg 1)) then
      Option.bind (L_find F 16 vl (vq (Int32.toNatClampNeg 1)) p2) fun r86 =>
      (if r86 < 0 then
        some 0
      else
        some 1) else none)
    else
      (if ¬ (r35 < 0 ∨ 64 ≤ (Int32.toNatClampNeg r35)) then
      (if (vm (Int32.toNatClampNeg r35)) = 0 then
        some 1
      else
        (if ¬ ((1 : Int32) < 0 ∨ 7 ≤ (Int32.toNatClampNeg 1)) then
        Option.bind (L_find F 16 vl (vq (Int32.toNatClampNeg 1)) p2) fun r86_1 =>
        (if r86_1 < 0 then
          some 0
        else
          some 1) else none)) else none))) fun y97 =>
  Option.bind (α := Int32) (
    (if p2 ≤ p3 then
      Option.bind (L_below F vm vr vl vq ((Int32.toInt64 p3) + 1)) fun r119 =>
      some (r119 - r24)
    else
      some 0)) fun y125 =>
  Option.bind (X2_size F zk zb zmc) fun r128 =>
  (if r128 = r10 then
    Option.bind (X2_contains F zk zm zb p2) fun r138 =>
    (if r138 = y97 then
      Option.bind (X2_rank F zk zm zb p2) fun r148 =>
      (if r148 = r24 then
        Option.bind (X2_place F zk p2) fun r158 =>
        (if r158 = x11_2 then
          Option.bind (X2_count F zk zm zb p2 p3) fun r169 =>
          (if r169 = y125 then
            Option.bind (L_refused F zk zm zb zs zr zu zt zf zg zbd zro zmc zmg zsp zjn 3 r10 0) fun (r182, zk182, zm182, zb182, zs182, zr182, zu182, zt182, zf182, zg182, zbd182, zro182, zmc182, zmg182, zsp182, zjn182) =>
            (if r182 = 4 then
              bnd (fun (z_ : zN × zN × zN × zN × zN × zN × zT × zN × zN × Int32 × Int32 × Int32 × Int32 × Int32 × Int32) =>
                match z_ with
                | (zkj253, zmj253, zbj253, zsj253, zrj253, zuj253, ztj253, zfj253, zgj253, zbdj253, zroj253, zmcj253, zmgj253, zspj253, zjnj253) =>
                bnd ((if r35 < 0 then (x11_2 - 1) else x11_2) : Int32) fun y267 =>
                Option.bind (L_keys_L269 vh F y267) fun x14_2 =>
                (if 0 ≤ x14_2 then
                  (if ¬ ((0 : Int32) < 0 ∨ 7 ≤ (Int32.toNatClampNeg 0)) then
                  Option.bind (L_behind F 64 vh x14_2 (vq (Int32.toNatClampNeg 0))) fun r327 =>
                  (if ¬ ((2 : Int32) < 0 ∨ 7 ≤ (Int32.toNatClampNeg 2)) then
                  Option.bind (L_guess F 64 vr p2 x14_2 r327 (vq (Int32.toNatClampNeg 2))) fun r342 =>
                  (if ¬ ((2 : Int32) < 0 ∨ 7 ≤ (Int32.toNatClampNeg 2)) then
                  Option.bind (α := Int64) (
                    (if (Int32.toInt64 x14_2) ≤ (r342 - (Int32.toInt64 (vq (Int32.toNatClampNeg 2)))) then
                      (if ¬ ((2 : Int32) < 0 ∨ 7 ≤ (Int32.toNatClampNeg 2)) then
                      (if (r342 - (Int32.toInt64 (vq (Int32.toNatClampNeg 2)))) ≤ (Int32.toInt64 r327) then
                        (if ¬ ((2 : Int32) < 0 ∨ 7 ≤ (Int32.toNatClampNeg 2)) then
                        some (r342 - (Int32.toInt64 (vq (Int32.toNatClampNeg 2)))) else none)
                      else
                        some (Int32.toInt64 r327)) else none)
                    else
                      some (Int32.toInt64 x14_2))) fun y397 =>
                  (if ¬ ((2 : Int32) < 0 ∨ 7 ≤ (Int32.toNatClampNeg 2)) then
                  Option.bind (α := Int64) (
                    (if (Int32.toInt64 r327) ≤ ((r342 + (Int32.toInt64 (vq (Int32.toNatClampNeg 2)))) + 1) then
                      some (Int32.toInt64 r327)
                    else
                      (if ¬ ((2 : Int32) < 0 ∨ 7 ≤ (Int32.toNatClampNeg 2)) then
                      some ((r342 + (Int32.toInt64 (vq (Int32.toNatClampNeg 2)))) + 1) else none))) fun y432 =>
                  Option.bind (L_keys_L437 p2 vr F 0 y432 y397) fun x22_2 =>
                  Option.bind (nz (X2_guess F zkj253 zsj253 zrj253 zuj253 p2)) fun r488 =>
                  (if r488 = r342 then
                    Option.bind (nz (X2_looks F zkj253 zsj253 zrj253 zuj253 zbdj253 p2)) fun r499 =>
                    (if r499 = x22_2 then
                      some (1, zkj253, zmj253, zbj253, zsj253, zrj253, zuj253, ztj253, zfj253, zgj253, zbdj253, zroj253, zmcj253, zmgj253, zspj253, zjnj253)
                    else
                      some (0, zkj253, zmj253, zbj253, zsj253, zrj253, zuj253, ztj253, zfj253, zgj253, zbdj253, zroj253, zmcj253, zmgj253, zspj253, zjnj253))
                  else
                    some (0, zkj253, zmj253, zbj253, zsj253, zrj253, zuj253, ztj253, zfj253, zgj253, zbdj253, zroj253, zmcj253, zmgj253, zspj253, zjnj253)) else none) else none) else none) else none)
                else
                  Option.bind (nz (X2_guess F zkj253 zsj253 zrj253 zuj253 p2)) fun r295 =>
                  (if r295 = (-1) then
                    Option.bind (nz (X2_looks F zkj253 zsj253 zrj253 zuj253 zbdj253 p2)) fun r307 =>
                    (if r307 = 0 then
                      some (1, zkj253, zmj253, zbj253, zsj253, zrj253, zuj253, ztj253, zfj253, zgj253, zbdj253, zroj253, zmcj253, zmgj253, zspj253, zjnj253)
                    else
                      some (0, zkj253, zmj253, zbj253, zsj253, zrj253, zuj253, ztj253, zfj253, zgj253, zbdj253, zroj253, zmcj253, zmgj253, zspj253, zjnj253))
                  else
                    some (0, zkj253, zmj253, zbj253, zsj253, zrj253, zuj253, ztj253, zfj253, zgj253, zbdj253, zroj253, zmcj253, zmgj253, zspj253, zjnj253)))) fun k_253 =>
              (if r24 = r10 then
                Option.bind (L_refused F zk182 zm182 zb182 zs182 zr182 zu182 zt182 zf182 zg182 zbd182 zro182 zmc182 zmg182 zsp182 zjn182 4 p2 0) fun (r202, zk202, zm202, zb202, zs202, zr202, zu202, zt202, zf202, zg202, zbd202, zro202, zmc202, zmg202, zsp202, zjn202) =>
                (if r202 = 3 then
                  k_253 (zk202, zm202, zb202, zs202, zr202, zu202, zt202, zf202, zg202, zbd202, zro202, zmc202, zmg202, zsp202, zjn202)
                else
                  some (0, zk202, zm202, zb202, zs202, zr202, zu202, zt202, zf202, zg202, zbd202, zro202, zmc202, zmg202, zsp202, zjn202))
              else
                Option.bind (nz (X2_ceiling F zk182 zm182 zb182 zf182 zmc182 p2)) fun (r214, zf214) =>
                Option.bind (nz (X2_select F zk182 zm182 zb182 zf214 zmc182 r24)) fun (r220, zf220) =>
                (if r214 = r220 then
                  Option.bind (nz (X2_select F zk182 zm182 zb182 zf220 zmc182 r24)) fun (r229, zf229) =>
                  (if r229 < p2 then
                    some (0, zk182, zm182, zb182, zs182, zr182, zu182, zt182, zf229, zg182, zbd182, zro182, zmc182, zmg182, zsp182, zjn182)
                  else
                    Option.bind (nz (X2_select F zk182 zm182 zb182 zf229 zmc182 r24)) fun (r240, zf240) =>
                    Option.bind (X2_rank F zk182 zm182 zb182 r240) fun r243 =>
                    (if r243 = r24 then
                      k_253 (zk182, zm182, zb182, zs182, zr182, zu182, zt182, zf240, zg182, zbd182, zro182, zmc182, zmg182, zsp182, zjn182)
                    else
                      some (0, zk182, zm182, zb182, zs182, zr182, zu182, zt182, zf240, zg182, zbd182, zro182, zmc182, zmg182, zsp182, zjn182)))
                else
                  some (0, zk182, zm182, zb182, zs182, zr182, zu182, zt182, zf220, zg182, zbd182, zro182, zmc182, zmg182, zsp182, zjn182)))
            else
              some (0, zk182, zm182, zb182, zs182, zr182, zu182, zt182, zf182, zg182, zbd182, zro182, zmc182, zmg182, zsp182, zjn182))
          else
            some (0, zk, zm, zb, zs, zr, zu, zt, zf, zg, zbd, zro, zmc, zmg, zsp, zjn))
        else
          some (0, zk, zm, zb, zs, zr, zu, zt, zf, zg, zbd, zro, zmc, zmg, zsp, zjn))
      else
        some (0, zk, zm, zb, zs, zr, zu, zt, zf, zg, zbd, zro, zmc, zmg, zsp, zjn))
    else
      some (0, zk, zm, zb, zs, zr, zu, zt, zf, zg, zbd, zro, zmc, zmg, zsp, zjn))
  else
    some (0, zk, zm, zb, zs, zr, zu, zt, zf, zg, zbd, zro, zmc, zmg, zsp, zjn)) else none)
def L_seg78_L127 (vl : Nat → Int32) (vq : Nat → Int32) : Nat → Int32 → Int32 → Option (Int32)
  | 0, _, _ => none
  | n + 1, x12, x11 =>
    (if ¬ ((1 : Int32) < 0 ∨ 7 ≤ (Int32.toNatClampNeg 1)) then
    (if (vq (Int32.toNatClampNeg 1)) ≤ x12 then
      some x11
    else
      (if ¬ (x12 < 0 ∨ 16 ≤ (Int32.toNatClampNeg x12)) then
      (if (vl (Int32.toNatClampNeg x12)) ≤ x11 then
        bnd (x12 + 1 : Int32) fun x12_1 =>
        L_seg78_L127 vl vq n x12_1 x11
      else
        (if ¬ (x12 < 0 ∨ 16 ≤ (Int32.toNatClampNeg x12)) then
        bnd ((vl (Int32.toNatClampNeg x12)) : Int32) fun x11_1 =>
        bnd (x12 + 1 : Int32) fun x12_2 =>
        L_seg78_L127 vl vq n x12_2 x11_1 else none)) else none)) else none)
def L_seg78 (F : Nat) (vr : Nat → Int32) (vl : Nat → Int32) (vq : Nat → Int32) (x7 : Int32) (x8 : Int32) (x9 : Int32) : Option (Int32 ⊕ (Int32 × Int32 × Int32)) :=
  Option.bind (α := Int32) (
    (if 2 ≤ x7 then
      Option.bind (L_low F x8 12) fun r97 =>
      some r97
    else
      Option.bind (L_low F x8 3) fun r87 =>
      some r87)) fun y100 =>
  (if ¬ ((0 : Int32) < 0 ∨ 7 ≤ (Int32.toNatClampNeg 0)) then
  Option.bind (α := Int32) (
    (if (vq (Int32.toNatClampNeg 0)) = 0 then
      some (-100)
    else
      (if ¬ ((0 : Int32) < 0 ∨ 7 ≤ (Int32.toNatClampNeg 0)) then
      (if ¬ (((vq (Int32.toNatClampNeg 0)) - 1) < 0 ∨ 64 ≤ (Int32.toNatClampNeg ((vq (Int32.toNatClampNeg 0)) - 1))) then
      some (vr (Int32.toNatClampNeg ((vq (Int32.toNatClampNeg 0)) - 1))) else none) else none))) fun y122 =>
  Option.bind (L_seg78_L127 vl vq F 0 y122) fun x11_2 =>
  Option.bind (L_low F x9 3) fun r167 =>
  (if r167 = 0 then
    Option.bind (L_low F (x9 >>> (2 &&& 31)) 300) fun r180 =>
    bnd ((r180 - 100) : Int32) fun x12_4 =>
    some (Sum.inr (y100, x11_2, x12_4))
  else
    Option.bind (L_low F (x9 >>> (2 &&& 31)) 60) fun r197 =>
    bnd ((x11_2 - r197) : Int32) fun x12_3 =>
    some (Sum.inr (y100, x11_2, x12_3))) else none)
def L_seg209_L345 (vhl301 : Nat → Int32) : Nat → Int32 → Option (Int32)
  | 0, _ => none
  | n + 1, x18_1 =>
    (if x18_1 ≤ 0 then
      some x18_1
    else
      (if ¬ (x18_1 < 0 ∨ 64 ≤ (Int32.toNatClampNeg x18_1)) then
      (if (vhl301 (Int32.toNatClampNeg x18_1)) = 0 then
        bnd (x18_1 + (-1) : Int32) fun x18_2 =>
        L_seg209_L345 vhl301 n x18_2
      else
        some x18_1) else none))
def L_seg209_L301 (F : Nat) (y229 : Int32) (x14 : Int32) (x15 : Int32) : Nat → Int32 → (Nat → Int32) → (Nat → Int32) → (Nat → Int32) → (Nat → Int32) → Option ((Nat → Int32) × (Nat → Int32) × (Nat → Int32) × (Nat → Int32))
  | 0, _, _, _, _, _ => none
  | n + 1, x16, vml301, vrl301, vhl301, vql301 =>
    (if y229 ≤ x16 then
      some (vml301, vrl301, vhl301, vql301)
    else
      (if ¬ ((0 : Int32) < 0 ∨ 7 ≤ (Int32.toNatClampNeg 0)) then
      bnd ((vql301 (Int32.toNatClampNeg 0)) : Int32) fun x17 =>
      (if ¬ (x17 < 0 ∨ 64 ≤ (Int32.toNatClampNeg x17)) then
      (if ¬ (x17 < 0 ∨ 64 ≤ (Int32.toNatClampNeg x17)) then
      (if ¬ ((0 : Int32) < 0 ∨ 7 ≤ (Int32.toNatClampNeg 0)) then
      bnd ((x17 - 1) : Int32) fun x18 =>
      Option.bind (L_seg209_L345 vhl301 F x18) fun x18_3 =>
      (if x18_3 < 0 then
        (if ¬ (x17 < 0 ∨ 64 ≤ (Int32.toNatClampNeg x17)) then
        bnd (x16 + 1 : Int32) fun x16_1 =>
        L_seg209_L301 F y229 x14 x15 n x16_1 (upd vml301 (Int32.toNatClampNeg x17) 0) (upd vrl301 (Int32.toNatClampNeg x17) (x15 + (x14 * x16))) (upd vhl301 (Int32.toNatClampNeg x17) 1) (upd vql301 (Int32.toNatClampNeg 0) (x17 + 1)) else none)
      else
        (if ¬ ((2 : Int32) < 0 ∨ 7 ≤ (Int32.toNatClampNeg 2)) then
        Option.bind (L_fits F 64 (upd vrl301 (Int32.toNatClampNeg x17) (x15 + (x14 * x16))) x18_3 (x17 + 1) ((upd vql301 (Int32.toNatClampNeg 0) (x17 + 1)) (Int32.toNatClampNeg 2))) fun r384 =>
        (if r384 = 0 then
          (if ¬ (x17 < 0 ∨ 64 ≤ (Int32.toNatClampNeg x17)) then
          bnd (x16 + 1 : Int32) fun x16_3 =>
          L_seg209_L301 F y229 x14 x15 n x16_3 (upd vml301 (Int32.toNatClampNeg x17) 0) (upd vrl301 (Int32.toNatClampNeg x17) (x15 + (x14 * x16))) (upd vhl301 (Int32.toNatClampNeg x17) 1) (upd vql301 (Int32.toNatClampNeg 0) (x17 + 1)) else none)
        else
          (if ¬ (x17 < 0 ∨ 64 ≤ (Int32.toNatClampNeg x17)) then
          bnd (x16 + 1 : Int32) fun x16_2 =>
          L_seg209_L301 F y229 x14 x15 n x16_2 (upd vml301 (Int32.toNatClampNeg x17) 0) (upd vrl301 (Int32.toNatClampNeg x17) (x15 + (x14 * x16))) (upd vhl301 (Int32.toNatClampNeg x17) 0) (upd vql301 (Int32.toNatClampNeg 0) (x17 + 1)) else none)) else none)) else none) else none) else none) else none))
def L_seg209 (F : Nat) (vm : Nat → Int32) (vr : Nat → Int32) (vh : Nat → Int32) (vq : Nat → Int32) (zk : zN) (zm : zN) (zb : zN) (zs : zN) (zr : zN) (zu : zN) (zt : zT) (zf : zN) (zg : zN) (zbd : Int32) (zro : Int32) (zmc : Int32) (zmg : Int32) (zsp : Int32) (zjn : Int32) (x8 : Int32) (x10 : Int32) (x11 : Int32) : Option (Int32 ⊕ ((Nat → Int32) × (Nat → Int32) × (Nat → Int32) × (Nat → Int32) × zN × zN × zN × zN × zN × zN × zT × zN × zN × Int32 × Int32 × Int32 × Int32 × Int32 × Int32) ⊕ ((Nat → Int32) × (Nat → Int32) × (Nat → Int32) × (Nat → Int32) × zN × zN × zN × zN × zN × zN × zT × zN × zN × Int32 × Int32 × Int32 × Int32 × Int32 × Int32)) :=
  Option.bind (α := Int32) (
    (if x10 = 0 then
      some 1
    else
      Option.bind (L_low F (x8 >>> (4 &&& 31)) 10) fun r225 =>
      some (1 + r225))) fun y229 =>
  Option.bind (L_low F (x8 >>> (12 &&& 31)) 2) fun r243 =>
  bnd ((if r243 = 0 then 3 else 40) : Int32) fun y255 =>
  Option.bind (L_low F (x8 >>> (8 &&& 31)) y255) fun r255 =>
  bnd ((1 + r255) : Int32) fun x14 =>
  Option.bind (L_low F (x8 >>> (16 &&& 31)) 9) fun r272 =>
  bnd (((x11 + 1) + r272) : Int32) fun x15 =>
  (if ¬ ((0 : Int32) < 0 ∨ 7 ≤ (Int32.toNatClampNeg 0)) then
  (if ¬ ((1 : Int32) < 0 ∨ 7 ≤ (Int32.toNatClampNeg 1)) then
  (if (((vq (Int32.toNatClampNeg 0)) + (vq (Int32.toNatClampNeg 1))) + y229) ≤ 60 then
    Option.bind (L_seg209_L301 F y229 x14 x15 F 0 vm vr vh vq) fun (vmx301, vrx301, vhx301, vqx301) =>
    Option.bind (α := Int32 × zN × zN × zN × zN × zN × zT) (
      (if x10 = 0 then
        Option.bind (nz (X2_append F zk zm zb zs zr zu zt zbd x15)) fun (r410, zk410, zm410, zs410, zr410, zu410, zt410) =>
        some (r410, zk410, zm410, zs410, zr410, zu410, zt410)
      else
        Option.bind (nz (X2_appendMany F zk zm zb zs zr zu zt zbd x15 x14 y229)) fun (r423, zk423, zm423, zs423, zr423, zu423, zt423) =>
        some (r423, zk423, zm423, zs423, zr423, zu423, zt423))) fun (y426, zkj426, zmj426, zsj426, zrj426, zuj426, ztj426) =>
    Option.bind (X2_pieces F zsj426) fun r431 =>
    (if y426 = r431 then
      Option.bind (L_refused F zkj426 zmj426 zb zsj426 zrj426 zuj426 ztj426 zf zg zbd zro zmc zmg zsp zjn 0 x15 0) fun (r442, zk442, zm442, zb442, zs442, zr442, zu442, zt442, zf442, zg442, zbd442, zro442, zmc442, zmg442, zsp442, zjn442) =>
      (if r442 = 2 then
        Option.bind (L_refused F zk442 zm442 zb442 zs442 zr442 zu442 zt442 zf442 zg442 zbd442 zro442 zmc442 zmg442 zsp442 zjn442 0 1000001 0) fun (r454, zk454, zm454, zb454, zs454, zr454, zu454, zt454, zf454, zg454, zbd454, zro454, zmc454, zmg454, zsp454, zjn454) =>
        (if r454 = 1 then
          some (Sum.inr (Sum.inl (vmx301, vrx301, vhx301, vqx301, zk454, zm454, zb454, zs454, zr454, zu454, zt454, zf454, zg454, zbd454, zro454, zmc454, zmg454, zsp454, zjn454)))
        else
          some (Sum.inl 0))
      else
        some (Sum.inl 0))
    else
      some (Sum.inl 0))
  else
    some (Sum.inr (Sum.inr (vm, vr, vh, vq, zk, zm, zb, zs, zr, zu, zt, zf, zg, zbd, zro, zmc, zmg, zsp, zjn)))) else none) else none)
def L_seg473 (F : Nat) (vm : Nat → Int32) (vr : Nat → Int32) (vh : Nat → Int32) (vl : Nat → Int32) (vq : Nat → Int32) (zk : zN) (zm : zN) (zb : zN) (zs : zN) (zr : zN) (zu : zN) (zt : zT) (zf : zN) (zg : zN) (zbd : Int32) (zro : Int32) (zmc : Int32) (zmg : Int32) (zsp : Int32) (zjn : Int32) (x12 : Int32) : Option (Int32 ⊕ ((Nat → Int32) × (Nat → Int32) × (Nat → Int32) × (Nat → Int32) × (Nat → Int32) × zN × zN × zN × zN × zN × zN × zT × zN × zN × Int32 × Int32 × Int32 × Int32 × Int32 × Int32) ⊕ ((Nat → Int32) × (Nat → Int32) × (Nat → Int32) × (Nat → Int32) × (Nat → Int32) × zN × zN × zN × zN × zN × zN × zT × zN × zN × Int32 × Int32 × Int32 × Int32 × Int32 × Int32)) :=
  (if ¬ ((0 : Int32) < 0 ∨ 7 ≤ (Int32.toNatClampNeg 0)) then
  Option.bind (L_find F 64 vr (vq (Int32.toNatClampNeg 0)) x12) fun r480 =>
  (if r480 < 0 then
    (if ¬ ((1 : Int32) < 0 ∨ 7 ≤ (Int32.toNatClampNeg 1)) then
    Option.bind (L_find F 16 vl (vq (Int32.toNatClampNeg 1)) x12) fun r505 =>
    (if r505 < 0 then
      (if 0 ≤ r480 then
        Option.bind (α := (Nat → Int32) × (Nat → Int32) × (Nat → Int32)) (
          (if r480 < 0 then
            (if ¬ ((1 : Int32) < 0 ∨ 7 ≤ (Int32.toNatClampNeg 1)) then
            (if ¬ ((vq (Int32.toNatClampNeg 1)) < 0 ∨ 16 ≤ (Int32.toNatClampNeg (vq (Int32.toNatClampNeg 1)))) then
            (if ¬ ((1 : Int32) < 0 ∨ 7 ≤ (Int32.toNatClampNeg 1)) then
            (if ¬ ((1 : Int32) < 0 ∨ 7 ≤ (Int32.toNatClampNeg 1)) then
            some (vm, (upd vl (Int32.toNatClampNeg (vq (Int32.toNatClampNeg 1))) x12), (upd vq (Int32.toNatClampNeg 1) ((vq (Int32.toNatClampNeg 1)) + 1))) else none) else none) else none) else none)
          else
            (if ¬ (r480 < 0 ∨ 64 ≤ (Int32.toNatClampNeg r480)) then
            some ((upd vm (Int32.toNatClampNeg r480) 0), vl, vq) else none))) fun (vmj577, vlj577, vqj577) =>
        (if ¬ ((1 : Int32) < 0 ∨ 7 ≤ (Int32.toNatClampNeg 1)) then
        (if ¬ ((3 : Int32) < 0 ∨ 7 ≤ (Int32.toNatClampNeg 3)) then
        Option.bind (α := (Nat → Int32) × (Nat → Int32) × (Nat → Int32) × (Nat → Int32)) (
          (if (vqj577 (Int32.toNatClampNeg 1)) = (vqj577 (Int32.toNatClampNeg 3)) then
            Option.bind (L_merge F vmj577 vr vh vlj577 vqj577) fun (vm596, vr596, vh596, vq596) =>
            some (vm596, vr596, vh596, vq596)
          else
            some (vmj577, vr, vh, vqj577))) fun (vmj599, vrj599, vhj599, vqj599) =>
        Option.bind (nz (X2_insert F zk zm zb zs zr zu zt zf zg zbd zro zmc zmg zsp zjn x12)) fun (r602, zk602, zm602, zb602, zs602, zr602, zu602, zt602, zf602, zg602, zmc602, zmg602, zsp602, zjn602) =>
        (if ¬ ((1 : Int32) < 0 ∨ 7 ≤ (Int32.toNatClampNeg 1)) then
        (if r602 = (vqj599 (Int32.toNatClampNeg 1)) then
          some (Sum.inr (Sum.inl (vmj599, vrj599, vhj599, vlj577, vqj599, zk602, zm602, zb602, zs602, zr602, zu602, zt602, zf602, zg602, zbd, zro, zmc602, zmg602, zsp602, zjn602)))
        else
          some (Sum.inl 0)) else none) else none) else none)
      else
        (if ¬ ((0 : Int32) < 0 ∨ 7 ≤ (Int32.toNatClampNeg 0)) then
        (if ¬ ((1 : Int32) < 0 ∨ 7 ≤ (Int32.toNatClampNeg 1)) then
        (if ((vq (Int32.toNatClampNeg 0)) + (vq (Int32.toNatClampNeg 1))) = 60 then
          some (Sum.inr (Sum.inr (vm, vr, vh, vl, vq, zk, zm, zb, zs, zr, zu, zt, zf, zg, zbd, zro, zmc, zmg, zsp, zjn)))
        else
          Option.bind (α := (Nat → Int32) × (Nat → Int32) × (Nat → Int32)) (
            (if r480 < 0 then
              (if ¬ ((1 : Int32) < 0 ∨ 7 ≤ (Int32.toNatClampNeg 1)) then
              (if ¬ ((vq (Int32.toNatClampNeg 1)) < 0 ∨ 16 ≤ (Int32.toNatClampNeg (vq (Int32.toNatClampNeg 1)))) then
              (if ¬ ((1 : Int32) < 0 ∨ 7 ≤ (Int32.toNatClampNeg 1)) then
              (if ¬ ((1 : Int32) < 0 ∨ 7 ≤ (Int32.toNatClampNeg 1)) then
              some (vm, (upd vl (Int32.toNatClampNeg (vq (Int32.toNatClampNeg 1))) x12), (upd vq (Int32.toNatClampNeg 1) ((vq (Int32.toNatClampNeg 1)) + 1))) else none) else none) else none) else none)
            else
              (if ¬ (r480 < 0 ∨ 64 ≤ (Int32.toNatClampNeg r480)) then
              some ((upd vm (Int32.toNatClampNeg r480) 0), vl, vq) else none))) fun (vmj577_1, vlj577_1, vqj577_1) =>
          (if ¬ ((1 : Int32) < 0 ∨ 7 ≤ (Int32.toNatClampNeg 1)) then
          (if ¬ ((3 : Int32) < 0 ∨ 7 ≤ (Int32.toNatClampNeg 3)) then
          Option.bind (α := (Nat → Int32) × (Nat → Int32) × (Nat → Int32) × (Nat → Int32)) (
            (if (vqj577_1 (Int32.toNatClampNeg 1)) = (vqj577_1 (Int32.toNatClampNeg 3)) then
              Option.bind (L_merge F vmj577_1 vr vh vlj577_1 vqj577_1) fun (vm596_1, vr596_1, vh596_1, vq596_1) =>
              some (vm596_1, vr596_1, vh596_1, vq596_1)
            else
              some (vmj577_1, vr, vh, vqj577_1))) fun (vmj599_1, vrj599_1, vhj599_1, vqj599_1) =>
          Option.bind (nz (X2_insert F zk zm zb zs zr zu zt zf zg zbd zro zmc zmg zsp zjn x12)) fun (r602_1, zk602_1, zm602_1, zb602_1, zs602_1, zr602_1, zu602_1, zt602_1, zf602_1, zg602_1, zmc602_1, zmg602_1, zsp602_1, zjn602_1) =>
          (if ¬ ((1 : Int32) < 0 ∨ 7 ≤ (Int32.toNatClampNeg 1)) then
          (if r602_1 = (vqj599_1 (Int32.toNatClampNeg 1)) then
            some (Sum.inr (Sum.inl (vmj599_1, vrj599_1, vhj599_1, vlj577_1, vqj599_1, zk602_1, zm602_1, zb602_1, zs602_1, zr602_1, zu602_1, zt602_1, zf602_1, zg602_1, zbd, zro, zmc602_1, zmg602_1, zsp602_1, zjn602_1)))
          else
            some (Sum.inl 0)) else none) else none) else none)) else none) else none))
    else
      Option.bind (L_refused F zk zm zb zs zr zu zt zf zg zbd zro zmc zmg zsp zjn 1 x12 0) fun (r516, zk516, zm516, zb516, zs516, zr516, zu516, zt516, zf516, zg516, zbd516, zro516, zmc516, zmg516, zsp516, zjn516) =>
      (if r516 = 2 then
        some (Sum.inr (Sum.inr (vm, vr, vh, vl, vq, zk516, zm516, zb516, zs516, zr516, zu516, zt516, zf516, zg516, zbd516, zro516, zmc516, zmg516, zsp516, zjn516)))
      else
        some (Sum.inl 0))) else none)
  else
    (if ¬ (r480 < 0 ∨ 64 ≤ (Int32.toNatClampNeg r480)) then
    (if (vm (Int32.toNatClampNeg r480)) = 0 then
      Option.bind (L_refused F zk zm zb zs zr zu zt zf zg zbd zro zmc zmg zsp zjn 1 x12 0) fun (r516_1, zk516_1, zm516_1, zb516_1, zs516_1, zr516_1, zu516_1, zt516_1, zf516_1, zg516_1, zbd516_1, zro516_1, zmc516_1, zmg516_1, zsp516_1, zjn516_1) =>
      (if r516_1 = 2 then
        some (Sum.inr (Sum.inr (vm, vr, vh, vl, vq, zk516_1, zm516_1, zb516_1, zs516_1, zr516_1, zu516_1, zt516_1, zf516_1, zg516_1, zbd516_1, zro516_1, zmc516_1, zmg516_1, zsp516_1, zjn516_1)))
      else
        some (Sum.inl 0))
    else
      (if ¬ ((1 : Int32) < 0 ∨ 7 ≤ (Int32.toNatClampNeg 1)) then
      Option.bind (L_find F 16 vl (vq (Int32.toNatClampNeg 1)) x12) fun r505_1 =>
      (if r505_1 < 0 then
        (if 0 ≤ r480 then
          Option.bind (α := (Nat → Int32) × (Nat → Int32) × (Nat → Int32)) (
            (if r480 < 0 then
              (if ¬ ((1 : Int32) < 0 ∨ 7 ≤ (Int32.toNatClampNeg 1)) then
              (if ¬ ((vq (Int32.toNatClampNeg 1)) < 0 ∨ 16 ≤ (Int32.toNatClampNeg (vq (Int32.toNatClampNeg 1)))) then
              (if ¬ ((1 : Int32) < 0 ∨ 7 ≤ (Int32.toNatClampNeg 1)) then
              (if ¬ ((1 : Int32) < 0 ∨ 7 ≤ (Int32.toNatClampNeg 1)) then
              some (vm, (upd vl (Int32.toNatClampNeg (vq (Int32.toNatClampNeg 1))) x12), (upd vq (Int32.toNatClampNeg 1) ((vq (Int32.toNatClampNeg 1)) + 1))) else none) else none) else none) else none)
            else
              (if ¬ (r480 < 0 ∨ 64 ≤ (Int32.toNatClampNeg r480)) then
              some ((upd vm (Int32.toNatClampNeg r480) 0), vl, vq) else none))) fun (vmj577_2, vlj577_2, vqj577_2) =>
          (if ¬ ((1 : Int32) < 0 ∨ 7 ≤ (Int32.toNatClampNeg 1)) then
          (if ¬ ((3 : Int32) < 0 ∨ 7 ≤ (Int32.toNatClampNeg 3)) then
          Option.bind (α := (Nat → Int32) × (Nat → Int32) × (Nat → Int32) × (Nat → Int32)) (
            (if (vqj577_2 (Int32.toNatClampNeg 1)) = (vqj577_2 (Int32.toNatClampNeg 3)) then
              Option.bind (L_merge F vmj577_2 vr vh vlj577_2 vqj577_2) fun (vm596_2, vr596_2, vh596_2, vq596_2) =>
              some (vm596_2, vr596_2, vh596_2, vq596_2)
            else
              some (vmj577_2, vr, vh, vqj577_2))) fun (vmj599_2, vrj599_2, vhj599_2, vqj599_2) =>
          Option.bind (nz (X2_insert F zk zm zb zs zr zu zt zf zg zbd zro zmc zmg zsp zjn x12)) fun (r602_2, zk602_2, zm602_2, zb602_2, zs602_2, zr602_2, zu602_2, zt602_2, zf602_2, zg602_2, zmc602_2, zmg602_2, zsp602_2, zjn602_2) =>
          (if ¬ ((1 : Int32) < 0 ∨ 7 ≤ (Int32.toNatClampNeg 1)) then
          (if r602_2 = (vqj599_2 (Int32.toNatClampNeg 1)) then
            some (Sum.inr (Sum.inl (vmj599_2, vrj599_2, vhj599_2, vlj577_2, vqj599_2, zk602_2, zm602_2, zb602_2, zs602_2, zr602_2, zu602_2, zt602_2, zf602_2, zg602_2, zbd, zro, zmc602_2, zmg602_2, zsp602_2, zjn602_2)))
          else
            some (Sum.inl 0)) else none) else none) else none)
        else
          (if ¬ ((0 : Int32) < 0 ∨ 7 ≤ (Int32.toNatClampNeg 0)) then
          (if ¬ ((1 : Int32) < 0 ∨ 7 ≤ (Int32.toNatClampNeg 1)) then
          (if ((vq (Int32.toNatClampNeg 0)) + (vq (Int32.toNatClampNeg 1))) = 60 then
            some (Sum.inr (Sum.inr (vm, vr, vh, vl, vq, zk, zm, zb, zs, zr, zu, zt, zf, zg, zbd, zro, zmc, zmg, zsp, zjn)))
          else
            Option.bind (α := (Nat → Int32) × (Nat → Int32) × (Nat → Int32)) (
              (if r480 < 0 then
                (if ¬ ((1 : Int32) < 0 ∨ 7 ≤ (Int32.toNatClampNeg 1)) then
                (if ¬ ((vq (Int32.toNatClampNeg 1)) < 0 ∨ 16 ≤ (Int32.toNatClampNeg (vq (Int32.toNatClampNeg 1)))) then
                (if ¬ ((1 : Int32) < 0 ∨ 7 ≤ (Int32.toNatClampNeg 1)) then
                (if ¬ ((1 : Int32) < 0 ∨ 7 ≤ (Int32.toNatClampNeg 1)) then
                some (vm, (upd vl (Int32.toNatClampNeg (vq (Int32.toNatClampNeg 1))) x12), (upd vq (Int32.toNatClampNeg 1) ((vq (Int32.toNatClampNeg 1)) + 1))) else none) else none) else none) else none)
              else
                (if ¬ (r480 < 0 ∨ 64 ≤ (Int32.toNatClampNeg r480)) then
                some ((upd vm (Int32.toNatClampNeg r480) 0), vl, vq) else none))) fun (vmj577_3, vlj577_3, vqj577_3) =>
            (if ¬ ((1 : Int32) < 0 ∨ 7 ≤ (Int32.toNatClampNeg 1)) then
            (if ¬ ((3 : Int32) < 0 ∨ 7 ≤ (Int32.toNatClampNeg 3)) then
            Option.bind (α := (Nat → Int32) × (Nat → Int32) × (Nat → Int32) × (Nat → Int32)) (
              (if (vqj577_3 (Int32.toNatClampNeg 1)) = (vqj577_3 (Int32.toNatClampNeg 3)) then
                Option.bind (L_merge F vmj577_3 vr vh vlj577_3 vqj577_3) fun (vm596_3, vr596_3, vh596_3, vq596_3) =>
                some (vm596_3, vr596_3, vh596_3, vq596_3)
              else
                some (vmj577_3, vr, vh, vqj577_3))) fun (vmj599_3, vrj599_3, vhj599_3, vqj599_3) =>
            Option.bind (nz (X2_insert F zk zm zb zs zr zu zt zf zg zbd zro zmc zmg zsp zjn x12)) fun (r602_3, zk602_3, zm602_3, zb602_3, zs602_3, zr602_3, zu602_3, zt602_3, zf602_3, zg602_3, zmc602_3, zmg602_3, zsp602_3, zjn602_3) =>
            (if ¬ ((1 : Int32) < 0 ∨ 7 ≤ (Int32.toNatClampNeg 1)) then
            (if r602_3 = (vqj599_3 (Int32.toNatClampNeg 1)) then
              some (Sum.inr (Sum.inl (vmj599_3, vrj599_3, vhj599_3, vlj577_3, vqj599_3, zk602_3, zm602_3, zb602_3, zs602_3, zr602_3, zu602_3, zt602_3, zf602_3, zg602_3, zbd, zro, zmc602_3, zmg602_3, zsp602_3, zjn602_3)))
            else
              some (Sum.inl 0)) else none) else none) else none)) else none) else none))
      else
        Option.bind (L_refused F zk zm zb zs zr zu zt zf zg zbd zro zmc zmg zsp zjn 1 x12 0) fun (r516_2, zk516_2, zm516_2, zb516_2, zs516_2, zr516_2, zu516_2, zt516_2, zf516_2, zg516_2, zbd516_2, zro516_2, zmc516_2, zmg516_2, zsp516_2, zjn516_2) =>
        (if r516_2 = 2 then
          some (Sum.inr (Sum.inr (vm, vr, vh, vl, vq, zk516_2, zm516_2, zb516_2, zs516_2, zr516_2, zu516_2, zt516_2, zf516_2, zg516_2, zbd516_2, zro516_2, zmc516_2, zmg516_2, zsp516_2, zjn516_2)))
        else
          some (Sum.inl 0))) else none)) else none)) else none)
def L_seg624 (F : Nat) (vm : Nat → Int32) (vr : Nat → Int32) (vl : Nat → Int32) (vq : Nat → Int32) (zk : zN) (zm : zN) (zb : zN) (zs : zN) (zr : zN) (zu : zN) (zt : zT) (zf : zN) (zg : zN) (zbd : Int32) (zro : Int32) (zmc : Int32) (zmg : Int32) (zsp : Int32) (zjn : Int32) (x9 : Int32) (x12 : Int32) : Option (Int32 ⊕ ((Nat → Int32) × (Nat → Int32) × (Nat → Int32) × zN × zN × zN × zN × zN × zN × zT × zN × zN × Int32 × Int32 × Int32 × Int32 × Int32 × Int32) ⊕ ((Nat → Int32) × (Nat → Int32) × (Nat → Int32) × zN × zN × zN × zN × zN × zN × zT × zN × zN × Int32 × Int32 × Int32 × Int32 × Int32 × Int32)) :=
  (if ¬ ((1 : Int32) < 0 ∨ 7 ≤ (Int32.toNatClampNeg 1)) then
  Option.bind (L_find F 16 vl (vq (Int32.toNatClampNeg 1)) x12) fun r632 =>
  Option.bind (α := Int32) (
    (if 0 ≤ r632 then
      some x12
    else
      (if ¬ ((0 : Int32) < 0 ∨ 7 ≤ (Int32.toNatClampNeg 0)) then
      (if (vq (Int32.toNatClampNeg 0)) = 0 then
        some x12
      else
        (if ¬ ((0 : Int32) < 0 ∨ 7 ≤ (Int32.toNatClampNeg 0)) then
        Option.bind (L_low F (x9 >>> (5 &&& 31)) (vq (Int32.toNatClampNeg 0))) fun r659 =>
        (if ¬ (r659 < 0 ∨ 64 ≤ (Int32.toNatClampNeg r659)) then
        some (vr (Int32.toNatClampNeg r659)) else none) else none)) else none))) fun y663 =>
  (if ¬ ((0 : Int32) < 0 ∨ 7 ≤ (Int32.toNatClampNeg 0)) then
  Option.bind (L_find F 64 vr (vq (Int32.toNatClampNeg 0)) y663) fun r672 =>
  (if ¬ ((1 : Int32) < 0 ∨ 7 ≤ (Int32.toNatClampNeg 1)) then
  Option.bind (L_find F 16 vl (vq (Int32.toNatClampNeg 1)) y663) fun r685 =>
  (if 0 ≤ r685 then
    Option.bind (α := (Nat → Int32) × (Nat → Int32) × (Nat → Int32)) (
      (if r685 < 0 then
        (if ¬ (r672 < 0 ∨ 64 ≤ (Int32.toNatClampNeg r672)) then
        some ((upd vm (Int32.toNatClampNeg r672) 1), vl, vq) else none)
      else
        (if ¬ ((1 : Int32) < 0 ∨ 7 ≤ (Int32.toNatClampNeg 1)) then
        (if ¬ ((1 : Int32) < 0 ∨ 7 ≤ (Int32.toNatClampNeg 1)) then
        (if ¬ ((1 : Int32) < 0 ∨ 7 ≤ (Int32.toNatClampNeg 1)) then
        (if ¬ (((upd vq (Int32.toNatClampNeg 1) ((vq (Int32.toNatClampNeg 1)) - 1)) (Int32.toNatClampNeg 1)) < 0 ∨ 16 ≤ (Int32.toNatClampNeg ((upd vq (Int32.toNatClampNeg 1) ((vq (Int32.toNatClampNeg 1)) - 1)) (Int32.toNatClampNeg 1)))) then
        (if ¬ (r685 < 0 ∨ 16 ≤ (Int32.toNatClampNeg r685)) then
        some (vm, (upd vl (Int32.toNatClampNeg r685) (vl (Int32.toNatClampNeg ((upd vq (Int32.toNatClampNeg 1) ((vq (Int32.toNatClampNeg 1)) - 1)) (Int32.toNatClampNeg 1))))), (upd vq (Int32.toNatClampNeg 1) ((vq (Int32.toNatClampNeg 1)) - 1))) else none) else none) else none) else none) else none))) fun (vmj755, vlj755, vqj755) =>
    Option.bind (nz (X2_remove F zk zm zb zmc y663)) fun (r758, zm758, zb758, zmc758) =>
    Option.bind (L_below F vmj755 vr vlj755 vqj755 1000001) fun r770 =>
    (if r758 = r770 then
      some (Sum.inr (Sum.inl (vmj755, vlj755, vqj755, zk, zm758, zb758, zs, zr, zu, zt, zf, zg, zbd, zro, zmc758, zmg, zsp, zjn)))
    else
      some (Sum.inl 0))
  else
    (if r672 < 0 then
      Option.bind (L_refused F zk zm zb zs zr zu zt zf zg zbd zro zmc zmg zsp zjn 2 y663 0) fun (r713, zk713, zm713, zb713, zs713, zr713, zu713, zt713, zf713, zg713, zbd713, zro713, zmc713, zmg713, zsp713, zjn713) =>
      (if r713 = 3 then
        some (Sum.inr (Sum.inr (vm, vl, vq, zk713, zm713, zb713, zs713, zr713, zu713, zt713, zf713, zg713, zbd713, zro713, zmc713, zmg713, zsp713, zjn713)))
      else
        some (Sum.inl 0))
    else
      (if ¬ (r672 < 0 ∨ 64 ≤ (Int32.toNatClampNeg r672)) then
      (if (vm (Int32.toNatClampNeg r672)) = 1 then
        Option.bind (L_refused F zk zm zb zs zr zu zt zf zg zbd zro zmc zmg zsp zjn 2 y663 0) fun (r713_1, zk713_1, zm713_1, zb713_1, zs713_1, zr713_1, zu713_1, zt713_1, zf713_1, zg713_1, zbd713_1, zro713_1, zmc713_1, zmg713_1, zsp713_1, zjn713_1) =>
        (if r713_1 = 3 then
          some (Sum.inr (Sum.inr (vm, vl, vq, zk713_1, zm713_1, zb713_1, zs713_1, zr713_1, zu713_1, zt713_1, zf713_1, zg713_1, zbd713_1, zro713_1, zmc713_1, zmg713_1, zsp713_1, zjn713_1)))
        else
          some (Sum.inl 0))
      else
        Option.bind (α := (Nat → Int32) × (Nat → Int32) × (Nat → Int32)) (
          (if r685 < 0 then
            (if ¬ (r672 < 0 ∨ 64 ≤ (Int32.toNatClampNeg r672)) then
            some ((upd vm (Int32.toNatClampNeg r672) 1), vl, vq) else none)
          else
            (if ¬ ((1 : Int32) < 0 ∨ 7 ≤ (Int32.toNatClampNeg 1)) then
            (if ¬ ((1 : Int32) < 0 ∨ 7 ≤ (Int32.toNatClampNeg 1)) then
            (if ¬ ((1 : Int32) < 0 ∨ 7 ≤ (Int32.toNatClampNeg 1)) then
            (if ¬ (((upd vq (Int32.toNatClampNeg 1) ((vq (Int32.toNatClampNeg 1)) - 1)) (Int32.toNatClampNeg 1)) < 0 ∨ 16 ≤ (Int32.toNatClampNeg ((upd vq (Int32.toNatClampNeg 1) ((vq (Int32.toNatClampNeg 1)) - 1)) (Int32.toNatClampNeg 1)))) then
            (if ¬ (r685 < 0 ∨ 16 ≤ (Int32.toNatClampNeg r685)) then
            some (vm, (upd vl (Int32.toNatClampNeg r685) (vl (Int32.toNatClampNeg ((upd vq (Int32.toNatClampNeg 1) ((vq (Int32.toNatClampNeg 1)) - 1)) (Int32.toNatClampNeg 1))))), (upd vq (Int32.toNatClampNeg 1) ((vq (Int32.toNatClampNeg 1)) - 1))) else none) else none) else none) else none) else none))) fun (vmj755_1, vlj755_1, vqj755_1) =>
        Option.bind (nz (X2_remove F zk zm zb zmc y663)) fun (r758_1, zm758_1, zb758_1, zmc758_1) =>
        Option.bind (L_below F vmj755_1 vr vlj755_1 vqj755_1 1000001) fun r770_1 =>
        (if r758_1 = r770_1 then
          some (Sum.inr (Sum.inl (vmj755_1, vlj755_1, vqj755_1, zk, zm758_1, zb758_1, zs, zr, zu, zt, zf, zg, zbd, zro, zmc758_1, zmg, zsp, zjn)))
        else
          some (Sum.inl 0))) else none))) else none) else none) else none)
def L_seg788 (F : Nat) (vm : Nat → Int32) (vr : Nat → Int32) (vh : Nat → Int32) (vl : Nat → Int32) (vq : Nat → Int32) (zk : zN) (zm : zN) (zb : zN) (zs : zN) (zr : zN) (zu : zN) (zt : zT) (zf : zN) (zg : zN) (zbd : Int32) (zmc : Int32) (zmg : Int32) (zsp : Int32) (zjn : Int32) : Option (Int32 ⊕ ((Nat → Int32) × (Nat → Int32) × (Nat → Int32) × (Nat → Int32) × zN × zN × zN × zN × zN × zN × zT × zN × zN × Int32 × Int32 × Int32 × Int32)) :=
  Option.bind (L_merge F vm vr vh vl vq) fun (vm796, vr796, vh796, vq796) =>
  Option.bind (X2_merge F zk zm zb zs zr zu zt zf zg zbd zmc zmg zsp zjn) fun (r800, zk800, zm800, zb800, zs800, zr800, zu800, zt800, zf800, zg800, zmc800, zmg800, zsp800, zjn800) =>
  Option.bind (X2_pieces F zs800) fun r804 =>
  (if r800 = r804 then
    some (Sum.inr (vm796, vr796, vh796, vq796, zk800, zm800, zb800, zs800, zr800, zu800, zt800, zf800, zg800, zmc800, zmg800, zsp800, zjn800))
  else
    some (Sum.inl 0))
def L_seg812_L863 (vm : Nat → Int32) (vq : Nat → Int32) : Nat → Int32 → Int32 → (Nat → Int32) → Option (Int32 × (Nat → Int32))
  | 0, _, _, _ => none
  | n + 1, x16, x15, vrl863 =>
    (if ¬ ((0 : Int32) < 0 ∨ 7 ≤ (Int32.toNatClampNeg 0)) then
    (if (vq (Int32.toNatClampNeg 0)) ≤ x16 then
      some (x15, vrl863)
    else
      (if ¬ (x16 < 0 ∨ 64 ≤ (Int32.toNatClampNeg x16)) then
      (if (vm (Int32.toNatClampNeg x16)) = 1 then
        bnd (x16 + 1 : Int32) fun x16_2 =>
        L_seg812_L863 vm vq n x16_2 x15 vrl863
      else
        (if ¬ (x16 < 0 ∨ 64 ≤ (Int32.toNatClampNeg x16)) then
        (if ¬ (x15 < 0 ∨ 64 ≤ (Int32.toNatClampNeg x15)) then
        bnd (x15 + 1 : Int32) fun x15_1 =>
        bnd (x16 + 1 : Int32) fun x16_1 =>
        L_seg812_L863 vm vq n x16_1 x15_1 (upd vrl863 (Int32.toNatClampNeg x15) (vrl863 (Int32.toNatClampNeg x16))) else none) else none)) else none)) else none)
def L_seg812_L903 (vl : Nat → Int32) (vq : Nat → Int32) (F : Nat) : Nat → Int32 → Int32 → (Nat → Int32) → Option (Int32 × (Nat → Int32))
  | 0, _, _, _ => none
  | n + 1, x16_3, x15_3, vrl903 =>
    (if ¬ ((1 : Int32) < 0 ∨ 7 ≤ (Int32.toNatClampNeg 1)) then
    (if (vq (Int32.toNatClampNeg 1)) ≤ x16_3 then
      some (x15_3, vrl903)
    else
      (if ¬ (x16_3 < 0 ∨ 16 ≤ (Int32.toNatClampNeg x16_3)) then
      Option.bind (L_sorts F 64 vrl903 0 x15_3 (vl (Int32.toNatClampNeg x16_3))) fun vr921 =>
      bnd (x15_3 + 1 : Int32) fun x15_4 =>
      bnd (x16_3 + 1 : Int32) fun x16_4 =>
      L_seg812_L903 vl vq F n x16_4 x15_4 vr921 else none)) else none)
def L_seg812_L936 : Nat → Int32 → (Nat → Int32) → Option ((Nat → Int32))
  | 0, _, _ => none
  | n + 1, x16_5, vml936 =>
    (if 64 ≤ x16_5 then
      some vml936
    else
      (if ¬ (x16_5 < 0 ∨ 64 ≤ (Int32.toNatClampNeg x16_5)) then
      bnd (x16_5 + 1 : Int32) fun x16_6 =>
      L_seg812_L936 n x16_6 (upd vml936 (Int32.toNatClampNeg x16_5) 0) else none))
def L_seg812 (F : Nat) (vm : Nat → Int32) (vr : Nat → Int32) (vh : Nat → Int32) (vl : Nat → Int32) (vq : Nat → Int32) (zk : zN) (zm : zN) (zb : zN) (zs : zN) (zr : zN) (zu : zN) (zt : zT) (zf : zN) (zg : zN) (zbd : Int32) (zro : Int32) (zmc : Int32) (zmg : Int32) (zsp : Int32) (zjn : Int32) (x9 : Int32) : Option (Int32 ⊕ ((Nat → Int32) × (Nat → Int32) × (Nat → Int32) × (Nat → Int32) × zN × zN × zN × zN × zN × zN × zT × zN × zN × Int32 × Int32 × Int32 × Int32 × Int32 × Int32)) :=
  Option.bind (L_low F x9 5) fun r815 =>
  Option.bind (α := Int32) (
    (if r815 = 0 then
      Option.bind (L_low F (x9 >>> (3 &&& 31)) 21) fun r827 =>
      some r827
    else
      Option.bind (L_low F (x9 >>> (3 &&& 31)) 4) fun r838 =>
      some r838)) fun y841 =>
  Option.bind (L_low F (x9 >>> (8 &&& 31)) 6) fun r851 =>
  bnd ((1 + r851) : Int32) fun x14 =>
  Option.bind (L_seg812_L863 vm vq F 0 0 vr) fun (x15_2, vrx863) =>
  Option.bind (L_seg812_L903 vl vq F F 0 x15_2 vrx863) fun (x15_5, vrx903) =>
  Option.bind (L_seg812_L936 F 0 vm) fun vmx936 =>
  (if ¬ ((0 : Int32) < 0 ∨ 7 ≤ (Int32.toNatClampNeg 0)) then
  (if ¬ ((1 : Int32) < 0 ∨ 7 ≤ (Int32.toNatClampNeg 1)) then
  (if ¬ ((2 : Int32) < 0 ∨ 7 ≤ (Int32.toNatClampNeg 2)) then
  (if ¬ ((3 : Int32) < 0 ∨ 7 ≤ (Int32.toNatClampNeg 3)) then
  Option.bind (L_refused F zk zm zb zs zr zu zt zf zg zbd zro zmc zmg zsp zjn 6 21 x14) fun (r984, zk984, zm984, zb984, zs984, zr984, zu984, zt984, zf984, zg984, zbd984, zro984, zmc984, zmg984, zsp984, zjn984) =>
  (if r984 = 1 then
    Option.bind (L_refused F zk984 zm984 zb984 zs984 zr984 zu984 zt984 zf984 zg984 zbd984 zro984 zmc984 zmg984 zsp984 zjn984 6 y841 0) fun (r997, zk997, zm997, zb997, zs997, zr997, zu997, zt997, zf997, zg997, zbd997, zro997, zmc997, zmg997, zsp997, zjn997) =>
    (if r997 = 1 then
      Option.bind (nz (X2_rebuild F zk997 zm997 zb997 zs997 zr997 zu997 zt997 zf997 zbd997 zro997 zmc997 y841 x14)) fun (r1009, zk1009, zm1009, zb1009, zs1009, zr1009, zu1009, zt1009, zf1009, zbd1009, zro1009, zmc1009) =>
      Option.bind (L_cuts F vrx903 vh 0 x15_5 y841) fun (r1020, vh1020) =>
      (if r1009 = r1020 then
        some (Sum.inr (vmx936, vrx903, vh1020, (upd (upd (upd (upd vq (Int32.toNatClampNeg 0) x15_5) (Int32.toNatClampNeg 1) 0) (Int32.toNatClampNeg 2) y841) (Int32.toNatClampNeg 3) x14), zk1009, zm1009, zb1009, zs1009, zr1009, zu1009, zt1009, zf1009, zg997, zbd1009, zro1009, zmc1009, zmg997, zsp997, zjn997))
      else
        some (Sum.inl 0))
    else
      some (Sum.inl 0))
  else
    some (Sum.inl 0)) else none) else none) else none) else none)
def L_seg1028_L1034 (vm : Nat → Int32) (vq : Nat → Int32) : Nat → Int32 → Int32 → Option (Int32)
  | 0, _, _ => none
  | n + 1, x14, x13 =>
    (if ¬ ((0 : Int32) < 0 ∨ 7 ≤ (Int32.toNatClampNeg 0)) then
    (if (vq (Int32.toNatClampNeg 0)) ≤ x14 then
      some x13
    else
      (if ¬ (x14 < 0 ∨ 64 ≤ (Int32.toNatClampNeg x14)) then
      bnd ((x13 + (vm (Int32.toNatClampNeg x14))) : Int32) fun x13_1 =>
      bnd (x14 + 1 : Int32) fun x14_1 =>
      L_seg1028_L1034 vm vq n x14_1 x13_1 else none)) else none)
def L_seg1028 (F : Nat) (vm : Nat → Int32) (vr : Nat → Int32) (vh : Nat → Int32) (vl : Nat → Int32) (vq : Nat → Int32) (zk : zN) (zm : zN) (zb : zN) (zs : zN) (zr : zN) (zu : zN) (zt : zT) (zf : zN) (zg : zN) (zbd : Int32) (zro : Int32) (zmc : Int32) (zmg : Int32) (zsp : Int32) (zjn : Int32) (x8 : Int32) (x11 : Int32) (x12 : Int32) : Option (Int32 ⊕ (zN × zN × zN × zN × zN × zN × zT × zN × zN × Int32 × Int32 × Int32 × Int32 × Int32 × Int32)) :=
  Option.bind (L_seg1028_L1034 vm vq F 0 0) fun x13_2 =>
  Option.bind (X2_rowSize F zk) fun r1059 =>
  (if ¬ ((0 : Int32) < 0 ∨ 7 ≤ (Int32.toNatClampNeg 0)) then
  (if r1059 = (vq (Int32.toNatClampNeg 0)) then
    Option.bind (X2_buffered F zb) fun r1070 =>
    (if ¬ ((1 : Int32) < 0 ∨ 7 ≤ (Int32.toNatClampNeg 1)) then
    (if r1070 = (vq (Int32.toNatClampNeg 1)) then
      Option.bind (X2_marked F zmc) fun r1081 =>
      (if r1081 = x13_2 then
        Option.bind (X2_merges F zmg) fun r1090 =>
        (if ¬ ((4 : Int32) < 0 ∨ 7 ≤ (Int32.toNatClampNeg 4)) then
        (if r1090 = (vq (Int32.toNatClampNeg 4)) then
          Option.bind (X2_splits F zsp) fun r1101 =>
          (if ¬ ((5 : Int32) < 0 ∨ 7 ≤ (Int32.toNatClampNeg 5)) then
          (if r1101 = (vq (Int32.toNatClampNeg 5)) then
            Option.bind (X2_joins F zjn) fun r1112 =>
            (if ¬ ((6 : Int32) < 0 ∨ 7 ≤ (Int32.toNatClampNeg 6)) then
            (if r1112 = (vq (Int32.toNatClampNeg 6)) then
              Option.bind (L_pieces F vr vh vq zk zm zb zs zr zu zt zf zg zbd zro zmc zmg zsp zjn) fun (r1131, zk1131, zm1131, zb1131, zs1131, zr1131, zu1131, zt1131, zf1131, zg1131, zbd1131, zro1131, zmc1131, zmg1131, zsp1131, zjn1131) =>
              (if r1131 = 0 then
                some (Sum.inl 0)
              else
                Option.bind (L_keys F vm vr vh vl vq zk1131 zm1131 zb1131 zs1131 zr1131 zu1131 zt1131 zf1131 zg1131 zbd1131 zro1131 zmc1131 zmg1131 zsp1131 zjn1131 x12 x11) fun (r1150, zk1150, zm1150, zb1150, zs1150, zr1150, zu1150, zt1150, zf1150, zg1150, zbd1150, zro1150, zmc1150, zmg1150, zsp1150, zjn1150) =>
                (if r1150 = 0 then
                  some (Sum.inl 0)
                else
                  Option.bind (L_low F (x8 >>> (3 &&& 31)) 200) fun r1166 =>
                  Option.bind (L_keys F vm vr vh vl vq zk1150 zm1150 zb1150 zs1150 zr1150 zu1150 zt1150 zf1150 zg1150 zbd1150 zro1150 zmc1150 zmg1150 zsp1150 zjn1150 (x11 - r1166) x12) fun (r1180, zk1180, zm1180, zb1180, zs1180, zr1180, zu1180, zt1180, zf1180, zg1180, zbd1180, zro1180, zmc1180, zmg1180, zsp1180, zjn1180) =>
                  (if r1180 = 0 then
                    some (Sum.inl 0)
                  else
                    some (Sum.inr (zk1180, zm1180, zb1180, zs1180, zr1180, zu1180, zt1180, zf1180, zg1180, zbd1180, zro1180, zmc1180, zmg1180, zsp1180, zjn1180)))))
            else
              some (Sum.inl 0)) else none)
          else
            some (Sum.inl 0)) else none)
        else
          some (Sum.inl 0)) else none)
      else
        some (Sum.inl 0))
    else
      some (Sum.inl 0)) else none)
  else
    some (Sum.inl 0)) else none)
