def L_append (F : Nat) (zk : zN) (zm : zN) (zb : zN) (zs : zN) (zr : zN) (zu : zN) (zt : zT) (zbd : Int32) (xo : Nat → Int64) (p2 : Int32) : Option (Int32 × zN × zN × zN × zN × zN × zT × (Nat → Int64)) :=
  Option.bind (X2_append F zk zm zb zs zr zu zt zbd p2) fun z_ => match z_ with
  | Sum.inl e_ => (if e_ = 1 then
    some (1, zk, zm, zs, zr, zu, zt, xo)
  else (if e_ = 2 then
    some (2, zk, zm, zs, zr, zu, zt, xo)
  else none))
  | Sum.inr (r4, zk4, zm4, zs4, zr4, zu4, zt4) =>
  (if ¬ ((0 : Int32) < 0 ∨ 1 ≤ (Int32.toNatClampNeg 0)) then
  some (0, zk4, zm4, zs4, zr4, zu4, zt4, (vp_updL xo (Int32.toNatClampNeg 0) (Int32.toInt64 r4))) else none)
def L_appendMany (F : Nat) (zk : zN) (zm : zN) (zb : zN) (zs : zN) (zr : zN) (zu : zN) (zt : zT) (zbd : Int32) (xo : Nat → Int64) (p2 : Int32) (p3 : Int32) (p4 : Int32) : Option (Int32 × zN × zN × zN × zN × zN × zT × (Nat → Int64)) :=
  Option.bind (X2_appendMany F zk zm zb zs zr zu zt zbd p2 p3 p4) fun z_ => match z_ with
  | Sum.inl e_ => (if e_ = 1 then
    some (1, zk, zm, zs, zr, zu, zt, xo)
  else (if e_ = 2 then
    some (2, zk, zm, zs, zr, zu, zt, xo)
  else none))
  | Sum.inr (r7, zk7, zm7, zs7, zr7, zu7, zt7) =>
  (if ¬ ((0 : Int32) < 0 ∨ 1 ≤ (Int32.toNatClampNeg 0)) then
  some (0, zk7, zm7, zs7, zr7, zu7, zt7, (vp_updL xo (Int32.toNatClampNeg 0) (Int32.toInt64 r7))) else none)
def L_insert (F : Nat) (zk : zN) (zm : zN) (zb : zN) (zs : zN) (zr : zN) (zu : zN) (zt : zT) (zf : zN) (zg : zN) (zbd : Int32) (zro : Int32) (zmc : Int32) (zmg : Int32) (zsp : Int32) (zjn : Int32) (xo : Nat → Int64) (p2 : Int32) : Option (Int32 × zN × zN × zN × zN × zN × zN × zT × zN × zN × Int32 × Int32 × Int32 × Int32 × (Nat → Int64)) :=
  Option.bind (X2_insert F zk zm zb zs zr zu zt zf zg zbd zro zmc zmg zsp zjn p2) fun z_ => match z_ with
  | Sum.inl e_ => (if e_ = 1 then
    some (1, zk, zm, zb, zs, zr, zu, zt, zf, zg, zmc, zmg, zsp, zjn, xo)
  else (if e_ = 2 then
    some (2, zk, zm, zb, zs, zr, zu, zt, zf, zg, zmc, zmg, zsp, zjn, xo)
  else none))
  | Sum.inr (r4, zk4, zm4, zb4, zs4, zr4, zu4, zt4, zf4, zg4, zmc4, zmg4, zsp4, zjn4) =>
  (if ¬ ((0 : Int32) < 0 ∨ 1 ≤ (Int32.toNatClampNeg 0)) then
  some (0, zk4, zm4, zb4, zs4, zr4, zu4, zt4, zf4, zg4, zmc4, zmg4, zsp4, zjn4, (vp_updL xo (Int32.toNatClampNeg 0) (Int32.toInt64 r4))) else none)
def L_remove (F : Nat) (zk : zN) (zm : zN) (zb : zN) (zmc : Int32) (xo : Nat → Int64) (p2 : Int32) : Option (Int32 × zN × zN × Int32 × (Nat → Int64)) :=
  Option.bind (X2_remove F zk zm zb zmc p2) fun z_ => match z_ with
  | Sum.inl e_ => (if e_ = 4 then
    some (1, zm, zb, zmc, xo)
  else none)
  | Sum.inr (r4, zm4, zb4, zmc4) =>
  (if ¬ ((0 : Int32) < 0 ∨ 1 ≤ (Int32.toNatClampNeg 0)) then
  some (0, zm4, zb4, zmc4, (vp_updL xo (Int32.toNatClampNeg 0) (Int32.toInt64 r4))) else none)
def L_rebuild (F : Nat) (zk : zN) (zm : zN) (zb : zN) (zs : zN) (zr : zN) (zu : zN) (zt : zT) (zf : zN) (zbd : Int32) (zro : Int32) (zmc : Int32) (xo : Nat → Int64) (p2 : Int32) (p3 : Int32) : Option (Int32 × zN × zN × zN × zN × zN × zN × zT × zN × Int32 × Int32 × Int32 × (Nat → Int64)) :=
  Option.bind (X2_rebuild F zk zm zb zs zr zu zt zf zbd zro zmc p2 p3) fun z_ => match z_ with
  | Sum.inl e_ => (if e_ = 1 then
    some (1, zk, zm, zb, zs, zr, zu, zt, zf, zbd, zro, zmc, xo)
  else none)
  | Sum.inr (r5, zk5, zm5, zb5, zs5, zr5, zu5, zt5, zf5, zbd5, zro5, zmc5) =>
  (if ¬ ((0 : Int32) < 0 ∨ 1 ≤ (Int32.toNatClampNeg 0)) then
  some (0, zk5, zm5, zb5, zs5, zr5, zu5, zt5, zf5, zbd5, zro5, zmc5, (vp_updL xo (Int32.toNatClampNeg 0) (Int32.toInt64 r5))) else none)
def L_select (F : Nat) (zk : zN) (zm : zN) (zb : zN) (zf : zN) (zmc : Int32) (xo : Nat → Int64) (p2 : Int32) : Option (Int32 × zN × (Nat → Int64)) :=
  Option.bind (X2_select F zk zm zb zf zmc p2) fun z_ => match z_ with
  | Sum.inl e_ => (if e_ = 3 then
    some (1, zf, xo)
  else none)
  | Sum.inr (r4, zf4) =>
  (if ¬ ((0 : Int32) < 0 ∨ 1 ≤ (Int32.toNatClampNeg 0)) then
  some (0, zf4, (vp_updL xo (Int32.toNatClampNeg 0) (Int32.toInt64 r4))) else none)
def L_ceiling (F : Nat) (zk : zN) (zm : zN) (zb : zN) (zf : zN) (zmc : Int32) (xo : Nat → Int64) (p2 : Int32) : Option (Int32 × zN × (Nat → Int64)) :=
  Option.bind (X2_ceiling F zk zm zb zf zmc p2) fun z_ => match z_ with
  | Sum.inl e_ => (if e_ = 4 then
    some (1, zf, xo)
  else none)
  | Sum.inr (r4, zf4) =>
  (if ¬ ((0 : Int32) < 0 ∨ 1 ≤ (Int32.toNatClampNeg 0)) then
  some (0, zf4, (vp_updL xo (Int32.toNatClampNeg 0) (Int32.toInt64 r4))) else none)
def L_guess (F : Nat) (zk : zN) (zs : zN) (zr : zN) (zu : zN) (xo : Nat → Int64) (p2 : Int32) : Option (Int32 × (Nat → Int64)) :=
  Option.bind (X2_guess F zk zs zr zu p2) fun z_ => match z_ with
  | Sum.inl e_ => (if e_ = 1 then
    some (1, xo)
  else none)
  | Sum.inr r4 =>
  (if ¬ ((0 : Int32) < 0 ∨ 1 ≤ (Int32.toNatClampNeg 0)) then
  some (0, (vp_updL xo (Int32.toNatClampNeg 0) r4)) else none)
def L_looks (F : Nat) (zk : zN) (zs : zN) (zr : zN) (zu : zN) (zbd : Int32) (xo : Nat → Int64) (p2 : Int32) : Option (Int32 × (Nat → Int64)) :=
  Option.bind (X2_looks F zk zs zr zu zbd p2) fun z_ => match z_ with
  | Sum.inl e_ => (if e_ = 1 then
    some (1, xo)
  else none)
  | Sum.inr r4 =>
  (if ¬ ((0 : Int32) < 0 ∨ 1 ≤ (Int32.toNatClampNeg 0)) then
  some (0, (vp_updL xo (Int32.toNatClampNeg 0) (Int32.toInt64 r4))) else none)
def L_start (F : Nat) (zs : zN) (xo : Nat → Int64) (p2 : Int32) : Option (Int32 × (Nat → Int64)) :=
  Option.bind (X2_start F zs p2) fun z_ => match z_ with
  | Sum.inl e_ => (if e_ = 3 then
    some (1, xo)
  else none)
  | Sum.inr r4 =>
  (if ¬ ((0 : Int32) < 0 ∨ 1 ≤ (Int32.toNatClampNeg 0)) then
  some (0, (vp_updL xo (Int32.toNatClampNeg 0) (Int32.toInt64 r4))) else none)
def L_firstKey (F : Nat) (zk : zN) (zs : zN) (xo : Nat → Int64) (p2 : Int32) : Option (Int32 × (Nat → Int64)) :=
  Option.bind (X2_firstKey F zk zs p2) fun z_ => match z_ with
  | Sum.inl e_ => (if e_ = 3 then
    some (1, xo)
  else none)
  | Sum.inr r4 =>
  (if ¬ ((0 : Int32) < 0 ∨ 1 ≤ (Int32.toNatClampNeg 0)) then
  some (0, (vp_updL xo (Int32.toNatClampNeg 0) (Int32.toInt64 r4))) else none)
def L_rise (F : Nat) (zs : zN) (zr : zN) (xo : Nat → Int64) (p2 : Int32) : Option (Int32 × (Nat → Int64)) :=
  Option.bind (X2_rise F zs zr p2) fun z_ => match z_ with
  | Sum.inl e_ => (if e_ = 3 then
    some (1, xo)
  else none)
  | Sum.inr r4 =>
  (if ¬ ((0 : Int32) < 0 ∨ 1 ≤ (Int32.toNatClampNeg 0)) then
  some (0, (vp_updL xo (Int32.toNatClampNeg 0) (Int32.toInt64 r4))) else none)
def L_run (F : Nat) (zs : zN) (zu : zN) (xo : Nat → Int64) (p2 : Int32) : Option (Int32 × (Nat → Int64)) :=
  Option.bind (X2_run F zs zu p2) fun z_ => match z_ with
  | Sum.inl e_ => (if e_ = 3 then
    some (1, xo)
  else none)
  | Sum.inr r4 =>
  (if ¬ ((0 : Int32) < 0 ∨ 1 ≤ (Int32.toNatClampNeg 0)) then
  some (0, (vp_updL xo (Int32.toNatClampNeg 0) (Int32.toInt64 r4))) else none)
