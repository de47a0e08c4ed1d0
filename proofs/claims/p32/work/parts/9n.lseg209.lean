/-! appending, the whole segment -/
section SE3
variable {F : Nat}
variable {vm vr vh vl vq : Nat → Int32} {zk zm zb zs zr zu : zN} {zt : zT} {zbd zro zmc zmg zsp zjn : Int32}
theorem bS {α β : Type} {x : Option α} {a : α} {f : α → Option β} (e : x = some a) : Option.bind x f = f a := by rw [e]; rfl
theorem J_2n : J ((2 : Nat) : Int) = 2 := by decide +kernel
theorem J_1n : J ((1 : Nat) : Int) = 1 := by decide +kernel
theorem app_X (hF : 2000 ≤ F) {K M B S : List Int} {bd ro x s : Int} {m : Nat} (hm : 1 ≤ m ∧ m ≤ 10) {x10 : Int32} (hm1 : x10 = 0 → m = 1) (a3 : ST K M B S bd ro) (a4 : XS K M B S bd zk zm zb zs zr zu zt zmc) (hs : 1 ≤ s ∧ s ≤ 40) (hxr : -900000 ≤ x ∧ x ≤ 900000) (hsm : 0 ≤ s * ((m : Int) - 1) ∧ s * ((m : Int) - 1) ≤ 400) (hKf : ∀ y, y ∈ K → y < x) (hBf : ∀ y, y ∈ B → y < x) (cm : K.length + B.length + m ≤ 60) : ∃ zk' zm' zs' zr' zu' zt', (if x10 = 0 then Option.bind (nz (X2_append F zk zm zb zs zr zu zt (J bd) (J (x)))) fun (r410, zk410, zm410, zs410, zr410, zu410, zt410) => some (r410, zk410, zm410, zs410, zr410, zu410, zt410) else Option.bind (nz (X2_appendMany F zk zm zb zs zr zu zt (J bd) (J (x)) (J s) (J (m : Int)))) fun (r423, zk423, zm423, zs423, zr423, zu423, zt423) => some (r423, zk423, zm423, zs423, zr423, zu423, zt423)) = some (J (apS bd K S (x) s 0 m).length, zk', zm', zs', zr', zu', zt') ∧ ST (apK K (x) s 0 m) (apM M m) B (apS bd K S (x) s 0 m) bd ro ∧ XS (apK K (x) s 0 m) (apM M m) B (apS bd K S (x) s 0 m) bd zk' zm' zb zs' zr' zu' zt' zmc := by
  by_cases c : x10 = 0
  · have em := hm1 c
    subst em
    obtain ⟨zk', zm', zs', zr', zu', zt', q1, q2, q3⟩ := cx_append hF a3 a4 (by omega) hKf hBf (by omega)
    have e0 : x + s * ((0 : Nat) : Int) = x := by simp
    have t1 : apK K (x) s 0 1 = K ++ [x] := by
      rw [apK, apK, e0]
    have t2 : apS bd K S (x) s 0 1 = cutS bd (K ++ [x]) S 0 K.length := by
      rw [apS, apS, e0]
    have t3 : apM M 1 = M ++ [0] := rfl
    rw [t1, t2, t3]
    refine ⟨zk', zm', zs', zr', zu', zt', ?_, q2, q3⟩
    rw [if_pos c, nz_i q1]
    rfl
  · obtain ⟨zk', zm', zs', zr', zu', zt', q1, q2, q3⟩ := cx_appendMany hF a3 a4 (x := x) (s := s) (m := m) (by omega) (by omega) (by omega) (by omega) hKf hBf (by omega)
    refine ⟨zk', zm', zs', zr', zu', zt', ?_, q2, q3⟩
    rw [if_neg c, nz_i q1]
    rfl
theorem lg209 (hF : 2000 ≤ F) {w last : Int} (hw : 2000 ≤ w ∧ w ≤ 100000) (h : ZT w last vm vr vh vl vq zk zm zb zs zr zu zt zbd zro zmc zmg zsp zjn) (hlast : -w ≤ last ∧ last ≤ w) (zf zg : zN) (x8 x10 : Int32) : ∃ vm' vr' vh' vq' zk' zm' zb' zs' zr' zu' zt' zf' zg' zbd' zro' zmc' zmg' zsp' zjn', (L_seg209 F vm vr vh vq zk zm zb zs zr zu zt zf zg zbd zro zmc zmg zsp zjn x8 x10 (J last) = some (Sum.inr (Sum.inl (vm', vr', vh', vq', zk', zm', zb', zs', zr', zu', zt', zf', zg', zbd', zro', zmc', zmg', zsp', zjn'))) ∨ L_seg209 F vm vr vh vq zk zm zb zs zr zu zt zf zg zbd zro zmc zmg zsp zjn x8 x10 (J last) = some (Sum.inr (Sum.inr (vm', vr', vh', vq', zk', zm', zb', zs', zr', zu', zt', zf', zg', zbd', zro', zmc', zmg', zsp', zjn')))) ∧ ZS (w + 1000) vm' vr' vh' vl vq' zk' zm' zb' zs' zr' zu' zt' zbd' zro' zmc' zmg' zsp' zjn' := by
  obtain ⟨K, M, B, B', S, bd, ro, hZ, hK1, hB1⟩ := h
  obtain ⟨a1, a2, a3, a4, ⟨b1, b2, b3, b4, b5, b6, b7, b8, b9, b10, b11⟩, a6, a7, a8, a9⟩ := id hZ
  subst a1 a2
  have hLK := a3.1
  have hpl : B'.length = B.length := a6.length_eq
  have e1 : ∃ m : Nat, (1 ≤ m ∧ m ≤ 10) ∧ (x10 = 0 → m = 1) ∧ (if x10 = 0 then some (1 : Int32) else Option.bind (L_low F (x8 >>> (4 &&& 31)) 10) fun r225 => some (1 + r225)) = some (J (m : Int)) := by
    obtain ⟨r1, p1, p2, p3⟩ := llow_W (F := F) (y := x8 >>> (4 &&& 31)) (w := 10) (n := 10) (by decide +kernel) (by omega)
    by_cases c : x10 = 0
    · exact ⟨1, by omega, fun _ => rfl, by rw [if_pos c, J_1n]⟩
    · refine ⟨(1 + r1).toNat, by omega, fun q => absurd q c, ?_⟩
      rw [if_neg c, p3]
      simp only [Option.bind_some]
      rw [J_1, J_add, show (((1 + r1).toNat : Nat) : Int) = 1 + r1 by omega]
  obtain ⟨m, hm, hm1, e1⟩ := e1
  obtain ⟨r2, _, _, gA⟩ := llow_W (F := F) (y := x8 >>> (12 &&& 31)) (w := 2) (n := 2) (by decide +kernel) (by omega)
  have e3 : ∃ s : Int, (1 ≤ s ∧ s ≤ 40) ∧ ∃ r : Int, r + 1 = s ∧ L_low F (x8 >>> (8 &&& 31)) (if J r2 = 0 then 3 else 40) = some (J r) := by
    by_cases c : J r2 = 0
    · obtain ⟨r1, p1, p2, p3⟩ := llow_W (F := F) (y := x8 >>> (8 &&& 31)) (w := 3) (n := 3) (by decide +kernel) (by omega)
      exact ⟨r1 + 1, by omega, r1, rfl, by rw [if_pos c]; exact p3⟩
    · obtain ⟨r1, p1, p2, p3⟩ := llow_W (F := F) (y := x8 >>> (8 &&& 31)) (w := 40) (n := 40) (by decide +kernel) (by omega)
      exact ⟨r1 + 1, by omega, r1, rfl, by rw [if_neg c]; exact p3⟩
  obtain ⟨s, hs, r3, hr3, e3⟩ := e3
  obtain ⟨r4, p1, p2, g4⟩ := llow_W (F := F) (y := x8 >>> (16 &&& 31)) (w := 9) (n := 9) (by decide +kernel) (by omega)
  have hx14 : (1 : Int32) + J r3 = J s := by rw [J_1, J_add, show (1 : Int) + r3 = s by omega]
  have hx15 : J last + 1 + J r4 = J (last + 1 + r4) := by rw [J_1, J_add, J_add]
  by_cases cm : K.length + B'.length + m ≤ 60
  · have hKf : ∀ y, y ∈ K → y < last + 1 + r4 := fun y hy => by
      have := hK1 y hy
      omega
    have hBf : ∀ y, y ∈ B → y < last + 1 + r4 := fun y hy => by
      have := hB1 y hy
      omega
    have hKf0 : ∀ y, y ∈ K → y < last + 1 + r4 + s * ((0 : Nat) : Int) := fun y hy => by
      have := hKf y hy
      simp
      omega
    obtain ⟨vm', vr', vh', vq', g1, g2, g3, g5, g6, g7⟩ := l301 (bd := bd) (x := last + 1 + r4) (s := s) (m := m) hF ⟨hLK.2.2.2.2.2.2.2.2.2.2.1, hLK.2.2.2.2.2.2.2.2.2.2.2⟩ (by omega) (by omega) (by omega) m F 0 K M S vm vr vh vq (by omega) (by omega) ⟨hLK.1, hLK.2.1, hLK.2.2.2.2.2.2.2.2.1, hLK.2.2.2.2.2.2.2.2.2.1⟩ hLK.2.2.1 b1 b2 b3 b5 b7 hKf0 (by omega)
    rw [J_00] at g1
    have hsm : 0 ≤ s * ((m : Int) - 1) ∧ s * ((m : Int) - 1) ≤ 400 := ⟨Int.mul_nonneg (by omega) (by omega), Int.le_trans (Int.mul_le_mul hs.2 (show (m : Int) - 1 ≤ 9 by omega) (by omega) (by omega)) (by decide)⟩
    obtain ⟨zk', zm', zs', zr', zu', zt', q1, q2, q3⟩ := app_X hF hm hm1 a3 a4 hs (by omega) hsm hKf hBf (by omega)
    have hin : last + 1 + r4 ∈ apK K (last + 1 + r4) s 0 m := by
      obtain ⟨m', rfl⟩ : ∃ m', m = m' + 1 := ⟨m - 1, by omega⟩
      rw [apK]
      refine apK_mem m' 1 _ _ (List.mem_append_right _ ?_)
      simp
    have hlen := apK_len (x := last + 1 + r4) (s := s) m 0 K
    refine ⟨vm', vr', vh', vq', zk', zm', zb, zs', zr', zu', zt', zf, zg, J bd, J ro, zmc, zmg, zsp, zjn, Or.inl ?_, apK K (last + 1 + r4) s 0 m, apM M m, B, B', apS bd K S (last + 1 + r4) s 0 m, bd, ro, rfl, rfl, q2, q3, ⟨g2, g3, g5, b4, g6, ?_, ?_, ?_, ?_, ?_, ?_⟩, a6, by omega, ?_, RGE_up a9 (by omega)⟩
    · unfold L_seg209
      rw [bS e1, bS gA]
      simp only [bnd]
      rw [bS e3, bS g4]
      simp only [i7_0, i7_1, if_true, n7_0, n7_1, b5, b6, J_add]
      rw [hx14, hx15]
      rw [if_pos (by rw [show (60 : Int32) = J 60 by decide +kernel, J_le (by omega) (by omega)]; omega)]
      rw [g1]
      simp only [Option.bind_some]
      rw [q1]
      simp only [Option.bind_some]
      rw [(cx_plain q3).1]
      simp only [Option.bind_some, if_true]
      rw [lref_a (e := 2) (cx_append_no2 hF q2.1 q3 (by omega) (fun q => absurd (q _ hin) (by omega))) (Or.inr rfl)]
      simp only [Option.bind_some]
      rw [J_2n, if_pos rfl, J_1000001, lref_a (e := 1) (cx_append_no1 (by omega) (by omega)) (Or.inl rfl)]
      simp only [Option.bind_some]
      rw [J_1n, if_pos rfl]
    · rw [g7 1 (by decide)]; exact b6
    · rw [g7 2 (by decide)]; exact b7
    · rw [g7 3 (by decide)]; exact b8
    · rw [g7 4 (by decide)]; exact b9
    · rw [g7 5 (by decide)]; exact b10
    · rw [g7 6 (by decide)]; exact b11
    · refine apK_all m 0 K (RGE_up a8 (by omega)) (fun j h1 h2 => ?_)
      have : 0 ≤ s * (j : Int) ∧ s * (j : Int) ≤ 400 := ⟨Int.mul_nonneg (by omega) (by omega), Int.le_trans (Int.mul_le_mul hs.2 (show (j : Int) ≤ 10 by omega) (by omega) (by omega)) (by decide)⟩
      omega
  · refine ⟨vm, vr, vh, vq, zk, zm, zb, zs, zr, zu, zt, zf, zg, J bd, J ro, zmc, zmg, zsp, zjn, Or.inr ?_, K, M, B, B', S, bd, ro, ZL_up hZ (by omega)⟩
    unfold L_seg209
    rw [bS e1, bS gA]
    simp only [bnd]
    rw [bS e3, bS g4]
    simp only [i7_0, i7_1, if_true, n7_0, n7_1, b5, b6, J_add]
    rw [hx14, hx15]
    rw [if_neg (by rw [show (60 : Int32) = J 60 by decide +kernel, J_le (by omega) (by omega)]; omega)]
end SE3
