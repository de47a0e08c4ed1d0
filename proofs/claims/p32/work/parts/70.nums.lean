/-! plain numbers behind the machine's: J z and L z are the int and the long of the integer z -/
section MNUM
theorem fa_lt (a b : Int32) : a < b ↔ a.toInt < b.toInt := Int32.lt_iff_toInt_lt
theorem fa_le (a b : Int32) : a ≤ b ↔ a.toInt ≤ b.toInt := Int32.le_iff_toInt_le
theorem fa_eq (a b : Int32) : a = b ↔ a.toInt = b.toInt := Int32.toInt_inj.symm
theorem fa_lt64 (a b : Int64) : a < b ↔ a.toInt < b.toInt := Int64.lt_iff_toInt_lt
theorem fa_le64 (a b : Int64) : a ≤ b ↔ a.toInt ≤ b.toInt := Int64.le_iff_toInt_le
theorem fa_eq64 (a b : Int64) : a = b ↔ a.toInt = b.toInt := Int64.toInt_inj.symm
theorem fb_bmod {z : Int} (h1 : -2147483648 ≤ z) (h2 : z < 2147483648) : z.bmod (2 ^ 32) = z := by
  rw [Int.bmod_eq_of_le (by omega) (by omega)]
theorem fb_bmodL {z : Int} (h1 : -9223372036854775808 ≤ z) (h2 : z < 9223372036854775808) : z.bmod (2 ^ 64) = z := by
  rw [Int.bmod_eq_of_le (by omega) (by omega)]
def J (z : Int) : Int32 := Int32.ofInt z
def L (z : Int) : Int64 := Int64.ofInt z
theorem J_toInt {z : Int} (h1 : -2147483648 ≤ z) (h2 : z < 2147483648) : (J z).toInt = z := by
  unfold J
  rw [Int32.toInt_ofInt]
  exact fb_bmod h1 h2
theorem L_toInt {z : Int} (h1 : -9223372036854775808 ≤ z) (h2 : z < 9223372036854775808) : (L z).toInt = z := by
  unfold L
  rw [Int64.toInt_ofInt]
  exact fb_bmodL h1 h2
theorem J_of (x : Int32) : x = J x.toInt := (Int32.ofInt_toInt x).symm
theorem L_of (x : Int64) : x = L x.toInt := (Int64.ofInt_toInt x).symm
theorem J_eqOf {x : Int32} {z : Int} (h : x.toInt = z) : x = J z := by rw [← h]; exact J_of x
theorem L_eqOf {x : Int64} {z : Int} (h : x.toInt = z) : x = L z := by rw [← h]; exact L_of x
theorem J_add (a b : Int) : J a + J b = J (a + b) := (Int32.ofInt_add a b).symm
theorem J_sub (a b : Int) : J a - J b = J (a - b) := (Int32.ofInt_sub a b).symm
theorem J_mul (a b : Int) : J a * J b = J (a * b) := (Int32.ofInt_mul a b).symm
theorem L_add (a b : Int) : L a + L b = L (a + b) := (Int64.ofInt_add a b).symm
theorem L_sub (a b : Int) : L a - L b = L (a - b) := (Int64.ofInt_sub a b).symm
theorem L_mul (a b : Int) : L a * L b = L (a * b) := (Int64.ofInt_mul a b).symm
theorem L_neg (a : Int) : -L a = L (-a) := (Int64.ofInt_neg a).symm
theorem J_0 : (0 : Int32) = J 0 := by decide +kernel
theorem J_1 : (1 : Int32) = J 1 := by decide +kernel
theorem J_2 : (2 : Int32) = J 2 := by decide +kernel
theorem J_m1 : (-1 : Int32) = J (-1) := by decide +kernel
theorem J_64 : (64 : Int32) = J 64 := by decide +kernel
theorem J_256 : (256 : Int32) = J 256 := by decide +kernel
theorem L_0 : (0 : Int64) = L 0 := by decide +kernel
theorem L_1 : (1 : Int64) = L 1 := by decide +kernel
theorem L_2 : (2 : Int64) = L 2 := by decide +kernel
theorem J_nI (n : Nat) : nI n = J n := (Int32.ofInt_eq_ofNat (n := n)).symm
theorem J_4 : (4 : Int32) = J 4 := by decide +kernel
theorem J_16 : (16 : Int32) = J 16 := by decide +kernel
theorem J_20 : (20 : Int32) = J 20 := by decide +kernel
theorem J_100 : (100 : Int32) = J 100 := by decide +kernel
theorem J_10000 : (10000 : Int32) = J 10000 := by decide +kernel
theorem J_1000000 : (1000000 : Int32) = J 1000000 := by decide +kernel
theorem J_m1000000 : (-1000000 : Int32) = J (-1000000) := by decide +kernel
theorem L_1000000 : (1000000 : Int64) = L 1000000 := by decide +kernel
theorem L_m1000000 : (-1000000 : Int64) = L (-1000000) := by decide +kernel
theorem L_1000001 : (1000001 : Int64) = L 1000001 := by decide +kernel
theorem L_m1 : (-1 : Int64) = L (-1) := by decide +kernel
theorem J_lt {a b : Int} (ha : -2147483648 ≤ a ∧ a < 2147483648) (hb : -2147483648 ≤ b ∧ b < 2147483648) : J a < J b ↔ a < b := by rw [fa_lt, J_toInt ha.1 ha.2, J_toInt hb.1 hb.2]
theorem J_le {a b : Int} (ha : -2147483648 ≤ a ∧ a < 2147483648) (hb : -2147483648 ≤ b ∧ b < 2147483648) : J a ≤ J b ↔ a ≤ b := by rw [fa_le, J_toInt ha.1 ha.2, J_toInt hb.1 hb.2]
theorem J_eq {a b : Int} (ha : -2147483648 ≤ a ∧ a < 2147483648) (hb : -2147483648 ≤ b ∧ b < 2147483648) : J a = J b ↔ a = b := by rw [fa_eq, J_toInt ha.1 ha.2, J_toInt hb.1 hb.2]
theorem L_lt {a b : Int} (ha : -9223372036854775808 ≤ a ∧ a < 9223372036854775808) (hb : -9223372036854775808 ≤ b ∧ b < 9223372036854775808) : L a < L b ↔ a < b := by rw [fa_lt64, L_toInt ha.1 ha.2, L_toInt hb.1 hb.2]
theorem L_le {a b : Int} (ha : -9223372036854775808 ≤ a ∧ a < 9223372036854775808) (hb : -9223372036854775808 ≤ b ∧ b < 9223372036854775808) : L a ≤ L b ↔ a ≤ b := by rw [fa_le64, L_toInt ha.1 ha.2, L_toInt hb.1 hb.2]
theorem L_eq {a b : Int} (ha : -9223372036854775808 ≤ a ∧ a < 9223372036854775808) (hb : -9223372036854775808 ≤ b ∧ b < 9223372036854775808) : L a = L b ↔ a = b := by rw [fa_eq64, L_toInt ha.1 ha.2, L_toInt hb.1 hb.2]
theorem J_wide {a : Int} (ha : -2147483648 ≤ a ∧ a < 2147483648) : Int32.toInt64 (J a) = L a := L_eqOf (by rw [Int32.toInt_toInt64, J_toInt ha.1 ha.2])
theorem L_nar {a : Int} (ha : -2147483648 ≤ a ∧ a < 2147483648) : Int64.toInt32 (L a) = J a := by
  apply J_eqOf
  rw [Int64.toInt_toInt32, L_toInt (by omega) (by omega)]
  exact fb_bmod ha.1 ha.2
theorem J_cl {a : Int} (ha : -2147483648 ≤ a ∧ a < 2147483648) : Int32.toNatClampNeg (J a) = a.toNat := by
  show (J a).toInt.toNat = a.toNat
  rw [J_toInt ha.1 ha.2]
theorem J_div {a b : Int} (ha : 0 ≤ a ∧ a < 2147483648) (hb : 0 < b ∧ b < 2147483648) : J a / J b = J (a / b) := by
  apply J_eqOf
  rw [Int32.toInt_div_of_ne_left _ _ (by intro h; have h1 := congrArg Int32.toInt h; rw [J_toInt (by omega) (by omega)] at h1; have h2 : Int32.minValue.toInt = -2147483648 := by decide +kernel
                                         omega), J_toInt (by omega) (by omega), J_toInt (by omega) (by omega)]
  exact Int.tdiv_eq_ediv_of_nonneg ha.1
theorem L_div {a b : Int} (ha : 0 ≤ a ∧ a < 9223372036854775808) (hb : 0 < b ∧ b < 9223372036854775808) : L a / L b = L (a / b) := by
  apply L_eqOf
  rw [Int64.toInt_div_of_ne_left _ _ (by intro h; have h1 := congrArg Int64.toInt h; rw [L_toInt (by omega) (by omega)] at h1; have h2 : Int64.minValue.toInt = -9223372036854775808 := by decide +kernel
                                         omega), L_toInt (by omega) (by omega), L_toInt (by omega) (by omega)]
  exact Int.tdiv_eq_ediv_of_nonneg ha.1
/-- the index test of the mirrors -/
theorem J_in {a : Int} {N : Nat} (ha : 0 ≤ a ∧ a < 2147483648) (hN : a < N) : ¬ (J a < 0 ∨ N ≤ Int32.toNatClampNeg (J a)) := by
  rw [J_cl (by omega), J_0, J_lt (by omega) (by omega)]
  omega
theorem getD_app_l {α : Type} {l l2 : List α} {i : Nat} {d : α} (h : i < l.length) : (l ++ l2).getD i d = l.getD i d := by
  rw [List.getD_eq_getElem?_getD, List.getD_eq_getElem?_getD, List.getElem?_append_left h]
theorem getD_app_r {α : Type} {l l2 : List α} {i : Nat} {d : α} (h : l.length ≤ i) : (l ++ l2).getD i d = l2.getD (i - l.length) d := by
  rw [List.getD_eq_getElem?_getD, List.getD_eq_getElem?_getD, List.getElem?_append_right h]
theorem getD_ext {α : Type} {l l2 : List α} {d : α} (h : l.length = l2.length) (e : ∀ i, i < l.length → l.getD i d = l2.getD i d) : l = l2 := by
  apply List.ext_getElem h
  intro i h1 h2
  have h3 := e i h1
  rw [List.getD_eq_getElem?_getD, List.getD_eq_getElem?_getD, List.getElem?_eq_getElem h1, List.getElem?_eq_getElem h2] at h3
  exact h3
theorem getD_mem {α : Type} {l : List α} {i : Nat} {d : α} (h : i < l.length) : l.getD i d ∈ l := by
  rw [List.getD_eq_getElem?_getD, List.getElem?_eq_getElem h]
  exact List.getElem_mem h
end MNUM
