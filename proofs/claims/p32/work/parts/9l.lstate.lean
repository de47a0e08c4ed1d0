/-! the law's state, and the first and the last segment of a turn -/
section LST
variable {F : Nat}
theorem upd_ne {f : Nat → Int32} {i j : Nat} {w : Int32} (h : j ≠ i) : upd f i w j = f j := if_neg h
theorem upd_at {f : Nat → Int32} {i : Nat} {w : Int32} : upd f i w i = w := if_pos rfl
theorem llow_W {y w : Int32} {n : Int} (e : w = J n) (hn : 1 ≤ n ∧ n ≤ 1000) : ∃ r : Int, 0 ≤ r ∧ r < n ∧ L_low F y w = some (J r) := by
  rw [e]
  exact llow_J hn
def VS (K M B' S : List Int) (bd ro : Int) (mg sp jn : Int32) (vm vr vh vl vq : Nat → Int32) : Prop := RA 64 vr K ∧ RA 64 vm M ∧ HD vh S K.length ∧ RA 16 vl B' ∧ vq 0 = J K.length ∧ vq 1 = J B'.length ∧ vq 2 = J bd ∧ vq 3 = J ro ∧ vq 4 = mg ∧ vq 5 = sp ∧ vq 6 = jn
def RGE (w : Int) (K : List Int) : Prop := ∀ y, y ∈ K → -w ≤ y ∧ y ≤ w
/-- the law's state after t turns, in lists -/
def ZL (w : Int) (K M B B' S : List Int) (bd ro : Int) (vm vr vh vl vq : Nat → Int32) (zk zm zb zs zr zu : zN) (zt : zT) (zbd zro zmc zmg zsp zjn : Int32) : Prop := zbd = J bd ∧ zro = J ro ∧ ST K M B S bd ro ∧ XS K M B S bd zk zm zb zs zr zu zt zmc ∧ VS K M B' S bd ro zmg zsp zjn vm vr vh vl vq ∧ B'.Perm B ∧ K.length + B.length ≤ 60 ∧ RGE w K ∧ RGE w B
def ZS (w : Int) (vm vr vh vl vq : Nat → Int32) (zk zm zb zs zr zu : zN) (zt : zT) (zbd zro zmc zmg zsp zjn : Int32) : Prop := ∃ (K M B B' S : List Int) (bd ro : Int), ZL w K M B B' S bd ro vm vr vh vl vq zk zm zb zs zr zu zt zbd zro zmc zmg zsp zjn
/-- the same, and no key is above some number -/
def ZT (w last : Int) (vm vr vh vl vq : Nat → Int32) (zk zm zb zs zr zu : zN) (zt : zT) (zbd zro zmc zmg zsp zjn : Int32) : Prop := ∃ (K M B B' S : List Int) (bd ro : Int), ZL w K M B B' S bd ro vm vr vh vl vq zk zm zb zs zr zu zt zbd zro zmc zmg zsp zjn ∧ (∀ y, y ∈ K → y ≤ last) ∧ ∀ y, y ∈ B → y ≤ last
theorem RGE_up {w w' : Int} {K : List Int} (h : RGE w K) (hw : w ≤ w') : RGE w' K := fun y hy => by
  have := h y hy
  omega
theorem ZL_up {w w' : Int} {K M B B' S : List Int} {bd ro : Int} {vm vr vh vl vq : Nat → Int32} {zk zm zb zs zr zu : zN} {zt : zT} {zbd zro zmc zmg zsp zjn : Int32} (h : ZL w K M B B' S bd ro vm vr vh vl vq zk zm zb zs zr zu zt zbd zro zmc zmg zsp zjn) (hw : w ≤ w') : ZL w' K M B B' S bd ro vm vr vh vl vq zk zm zb zs zr zu zt zbd zro zmc zmg zsp zjn := by
  obtain ⟨a1, a2, a3, a4, a5, a6, a7, a8, a9⟩ := h
  exact ⟨a1, a2, a3, a4, a5, a6, a7, RGE_up a8 hw, RGE_up a9 hw⟩
theorem ZT_ZS {w last : Int} {vm vr vh vl vq : Nat → Int32} {zk zm zb zs zr zu : zN} {zt : zT} {zbd zro zmc zmg zsp zjn : Int32} (h : ZT w last vm vr vh vl vq zk zm zb zs zr zu zt zbd zro zmc zmg zsp zjn) : ZS w vm vr vh vl vq zk zm zb zs zr zu zt zbd zro zmc zmg zsp zjn := by
  obtain ⟨K, M, B, B', S, bd, ro, h1, _, _⟩ := h
  exact ⟨K, M, B, B', S, bd, ro, h1⟩
variable {vm vr vh vl vq : Nat → Int32} {zk zm zb zs zr zu : zN} {zt : zT} {zbd zro zmc zmg zsp zjn : Int32}
theorem l127m {B : List Int} (hB : RA 16 vl B) (hq1 : vq 1 = J B.length) {w : Int} (hw : w ≤ 1000000) (hr : RGE w B) : ∀ (d n p : Nat) (a : Int), d < n → p + d = B.length → -w ≤ a ∧ a ≤ w → ∃ b : Int, L_seg78_L127 vl vq n (J p) (J a) = some (J b) ∧ a ≤ b ∧ (∀ j, p ≤ j → j < B.length → B.getD j 0 ≤ b) ∧ -w ≤ b ∧ b ≤ w
  | d, 0, p, a, h, _, _ => absurd h (Nat.not_lt_zero d)
  | 0, n + 1, p, a, _, hd, ha => by
    have hl := hB.1
    refine ⟨a, ?_, Int.le_refl _, fun j h1 h2 => by omega, ha.1, ha.2⟩
    rw [L_seg78_L127]
    simp only [i7_1, if_true, n7_1, hq1]
    rw [if_pos (by rw [J_leN (by omega) (by omega)]; omega)]
  | d + 1, n + 1, p, a, hn, hd, ha => by
    have hl := hB.1
    have hp := hr _ (getD_mem (d := 0) (show p < B.length by omega))
    have st : L_seg78_L127 vl vq (n + 1) (J p) (J a) = if B.getD p 0 ≤ a then L_seg78_L127 vl vq n (J (p + 1 : Nat)) (J a) else L_seg78_L127 vl vq n (J (p + 1 : Nat)) (J (B.getD p 0)) := by
      rw [L_seg78_L127]
      simp only [i7_1, if_true, n7_1, hq1]
      rw [if_neg (by rw [J_leN (by omega) (by omega)]; omega)]
      simp only [if_pos (J_inN (show p < 16 by omega) (show 16 ≤ 1000 by omega)), J_ix (show p < 2147483648 by omega), if_pos (J_inM (show p < 16 by omega) (show 16 ≤ 1000 by omega)), hB.2 p (by omega), bnd, J_succ]
      by_cases c : B.getD p 0 ≤ a
      · rw [if_pos c, if_pos (by rw [J_le (by omega) (by omega)]; exact c)]
      · rw [if_neg c, if_neg (by rw [J_le (by omega) (by omega)]; exact c)]
    rw [st]
    by_cases c : B.getD p 0 ≤ a
    · rw [if_pos c]
      obtain ⟨b, r1, r2, r3, r4⟩ := l127m hB hq1 hw hr d n (p + 1) a (by omega) (by omega) ha
      refine ⟨b, r1, r2, fun j h1 h2 => ?_, r4⟩
      rcases Nat.lt_or_ge p j with q | q
      · exact r3 j q h2
      · rw [show j = p by omega]
        omega
    · rw [if_neg c]
      obtain ⟨b, r1, r2, r3, r4⟩ := l127m hB hq1 hw hr d n (p + 1) (B.getD p 0) (by omega) (by omega) hp
      refine ⟨b, r1, by omega, fun j h1 h2 => ?_, r4⟩
      rcases Nat.lt_or_ge p j with q | q
      · exact r3 j q h2
      · rw [show j = p by omega]
        exact r2
theorem lg78 (hF : 2000 ≤ F) {w : Int} (hw : 2000 ≤ w ∧ w ≤ 100000) (h : ZS w vm vr vh vl vq zk zm zb zs zr zu zt zbd zro zmc zmg zsp zjn) (x7 x8 x9 : Int32) : ∃ (k last key : Int), L_seg78 F vr vl vq x7 x8 x9 = some (Sum.inr (J k, J last, J key)) ∧ (0 ≤ k ∧ k < 12) ∧ (-w ≤ last ∧ last ≤ w) ∧ (-w - 60 ≤ key ∧ key ≤ w) ∧ ZT w last vm vr vh vl vq zk zm zb zs zr zu zt zbd zro zmc zmg zsp zjn := by
  obtain ⟨K, M, B, B', S, bd, ro, hZ⟩ := h
  obtain ⟨a1, a2, a3, a4, ⟨b1, b2, b3, b4, b5, b6, b7, b8, b9, b10, b11⟩, a6, a7, a8, a9⟩ := id hZ
  have hl := b1.1
  have hl4 := b4.1
  have hrB : RGE w B' := fun y hy => a9 y (a6.mem_iff.mp hy)
  have e1 : ∃ k : Int, (0 ≤ k ∧ k < 12) ∧ (if 2 ≤ x7 then Option.bind (L_low F x8 12) fun r97 => some r97 else Option.bind (L_low F x8 3) fun r87 => some r87) = some (J k) := by
    obtain ⟨r1, p1, p2, p3⟩ := llow_W (F := F) (y := x8) (w := 12) (n := 12) (by decide) (by omega)
    obtain ⟨r2, q1, q2, q3⟩ := llow_W (F := F) (y := x8) (w := 3) (n := 3) (by decide) (by omega)
    by_cases c : 2 ≤ x7
    · exact ⟨r1, ⟨p1, p2⟩, by rw [if_pos c, p3]; rfl⟩
    · exact ⟨r2, ⟨q1, by omega⟩, by rw [if_neg c, q3]; rfl⟩
  obtain ⟨k, hk, e1⟩ := e1
  have e2 : ∃ a : Int, (-w ≤ a ∧ a ≤ w) ∧ (∀ y, y ∈ K → y ≤ a) ∧ (if vq 0 = 0 then some (-100) else (if ¬ ((vq 0 - 1) < 0 ∨ 64 ≤ (Int32.toNatClampNeg (vq 0 - 1))) then some (vr (Int32.toNatClampNeg (vq 0 - 1))) else none)) = some (J a) := by
    rw [b5]
    by_cases c : K.length = 0
    · refine ⟨-100, by omega, fun y hy => ?_, ?_⟩
      · rw [List.length_eq_zero_iff.mp c] at hy
        simp at hy
      · rw [if_pos (by rw [c]; decide)]
        rfl
    · refine ⟨K.getD (K.length - 1) 0, a8 _ (getD_mem (by omega)), fun y hy => ?_, ?_⟩
      · obtain ⟨j, hj, e⟩ := mem_getD.mp hy
        rw [← e]
        rcases Nat.lt_or_ge j (K.length - 1) with q | q
        · have := a3.1.1 j (K.length - 1) q (by omega)
          omega
        · rw [show j = K.length - 1 by omega]
          omega
      · rw [if_neg (by rw [J_0, J_eq (by omega) (by omega)]; omega), J_pred (by omega), if_pos (J_inN (by omega) (by omega)), J_ix (by omega), b1.2 _ (by omega)]
  obtain ⟨a, ha, haK, e2⟩ := e2
  obtain ⟨b, m1, m2, m3, m4⟩ := l127m (vl := vl) (vq := vq) b4 b6 (by omega) hrB B'.length F 0 a (by omega) (by omega) ha
  rw [J_00] at m1
  have hZT : ZT w b vm vr vh vl vq zk zm zb zs zr zu zt zbd zro zmc zmg zsp zjn := by
    refine ⟨K, M, B, B', S, bd, ro, hZ, fun y hy => ?_, fun y hy => ?_⟩
    · have := haK y hy
      omega
    · obtain ⟨j, hj, e⟩ := mem_getD.mp (a6.mem_iff.mpr hy)
      rw [← e]
      exact m3 j (Nat.zero_le _) hj
  obtain ⟨r3, _, _, g3⟩ := llow_W (F := F) (y := x9) (w := 3) (n := 3) (by decide) (by omega)
  obtain ⟨r4, p4, q4, g4⟩ := llow_W (F := F) (y := x9 >>> (2 &&& 31)) (w := 300) (n := 300) (by decide) (by omega)
  obtain ⟨r5, p5, q5, g5⟩ := llow_W (F := F) (y := x9 >>> (2 &&& 31)) (w := 60) (n := 60) (by decide) (by omega)
  unfold L_seg78
  simp only [i7_0, if_true, n7_0]
  rw [e1]
  simp only [Option.bind_some]
  rw [e2]
  simp only [Option.bind_some]
  rw [m1]
  simp only [Option.bind_some]
  rw [g3, g4, g5]
  simp only [Option.bind_some, bnd]
  by_cases c : J r3 = 0
  · rw [if_pos c, J_100, J_sub]
    exact ⟨k, b, r4 - 100, rfl, hk, m4, by omega, hZT⟩
  · rw [if_neg c, J_sub]
    exact ⟨k, b, b - r5, rfl, hk, m4, by omega, hZT⟩
theorem l1034 {K M : List Int} (hm : RA 64 vm M) (hq0 : vq 0 = J K.length) (hM : M.length = K.length) (hM2 : ∀ j, j < M.length → M.getD j 0 = 0 ∨ M.getD j 0 = 1) : ∀ (d n p : Nat), d < n → p + d = K.length → L_seg1028_L1034 vm vq n (J p) (J ((p : Int) - (cU K M p).length)) = some (J ((K.length : Int) - (cU K M K.length).length))
  | d, 0, p, hn, _ => absurd hn (Nat.not_lt_zero d)
  | 0, n + 1, p, _, hd => by
    have hl := hm.1
    have e1 : p = K.length := by omega
    rw [L_seg1028_L1034]
    simp only [i7_0, if_true, n7_0, hq0]
    rw [e1, if_pos (by exact Int32.le_refl _)]
  | d + 1, n + 1, p, hn, hd => by
    have hl := hm.1
    have hmp := hM2 p (by omega)
    have ih := l1034 hm hq0 hM hM2 d n (p + 1) (by omega) (by omega)
    have h2 := cU_take1 K M p hmp
    rw [L_seg1028_L1034]
    simp only [i7_0, if_true, n7_0, hq0]
    rw [if_neg (by rw [J_leN (by omega) (by omega)]; omega), if_pos (J_inN (by omega) (by omega)), J_ix (by omega), hm.2 p (by omega)]
    simp only [bnd]
    rw [J_succ, J_add, show (p : Int) - (cU K M p).length + M.getD p 0 = ((p + 1 : Nat) : Int) - (cU K M (p + 1)).length by omega]
    exact ih
theorem lg1028 (hF : 2000 ≤ F) {w last key : Int} (hw : 2000 ≤ w ∧ w ≤ 100000) (h : ZS w vm vr vh vl vq zk zm zb zs zr zu zt zbd zro zmc zmg zsp zjn) (zf zg : zN) (x8 : Int32) (hlast : -200000 ≤ last ∧ last ≤ 200000) (hkey : -200000 ≤ key ∧ key ≤ 200000) : ∃ zf', L_seg1028 F vm vr vh vl vq zk zm zb zs zr zu zt zf zg zbd zro zmc zmg zsp zjn x8 (J last) (J key) = some (Sum.inr (zk, zm, zb, zs, zr, zu, zt, zf', zg, zbd, zro, zmc, zmg, zsp, zjn)) := by
  obtain ⟨K, M, B, B', S, bd, ro, hZ⟩ := h
  obtain ⟨a1, a2, a3, a4, ⟨b1, b2, b3, b4, b5, b6, b7, b8, b9, b10, b11⟩, a6, a7, a8, a9⟩ := id hZ
  subst a1 a2
  have hl := b1.1
  have hLK := a3.1
  have hpl : B'.length = B.length := a6.length_eq
  obtain ⟨c1, c2, c3, c4⟩ := cx_plain (F := F) a4
  have h1034 := l1034 (vm := vm) (vq := vq) b2 b5 hLK.2.2.1 hLK.2.2.2.1 K.length F 0 (by omega) (by omega)
  rw [show cU K M 0 = [] from rfl] at h1034
  rw [show (((0 : Nat) : Int) - (([] : List Int).length : Int)) = ((0 : Nat) : Int) from rfl, J_00] at h1034
  have hpc := lpieces_J (F := F) (zm := zm) (zb := zb) (zf := zf) (zg := zg) (zbd := J bd) (zro := J ro) (zmc := zmc) (zmg := zmg) (zsp := zsp) (zjn := zjn) hF hLK a4.1 a4.2.2.2.1 b1 b3 b5 b7
  obtain ⟨zf1, k1⟩ := lkeys_J (F := F) (x := key) (y := last) hF zf zg (J ro) zmg zsp zjn hLK a4 b1 b2 b3 b4 a6 b5 b6 b7 (by omega) (by omega)
  obtain ⟨r, p1, p2, p3⟩ := llow_W (F := F) (y := x8 >>> (3 &&& 31)) (w := 200) (n := 200) (by decide) (by omega)
  obtain ⟨zf2, k2⟩ := lkeys_J (F := F) (x := last - r) (y := key) hF zf1 zg (J ro) zmg zsp zjn hLK a4 b1 b2 b3 b4 a6 b5 b6 b7 (by omega) (by omega)
  refine ⟨zf2, ?_⟩
  unfold L_seg1028 X2_merges X2_splits X2_joins
  rw [h1034]
  simp only [Option.bind_some, i7_0, i7_1, i7_4, i7_5, i7_6, if_true, n7_0, n7_1, n7_4, n7_5, n7_6]
  rw [c3]
  simp only [Option.bind_some]
  rw [b5, if_pos rfl, c2]
  simp only [Option.bind_some]
  rw [b6, hpl, if_pos rfl, c4]
  simp only [Option.bind_some, if_true]
  rw [b9, b10, b11, if_pos rfl, if_pos rfl, if_pos rfl, hpc]
  simp only [Option.bind_some, t10, if_false]
  rw [k1]
  simp only [Option.bind_some, t10, if_false]
  rw [p3]
  simp only [Option.bind_some]
  rw [J_sub, k2]
  simp only [Option.bind_some, t10, if_false]
end LST
