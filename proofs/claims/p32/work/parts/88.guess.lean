/-! guesses and looks -/
section MGUE
variable {F : Nat}
theorem L_xor {a b : Int} (ha : 0 ≤ a ∧ a < 9223372036854775808) (hb : 0 ≤ b ∧ b < 9223372036854775808) : 0 ≤ L a ^^^ L b := by
  have h : ∀ c : Int, 0 ≤ c → c < 9223372036854775808 → (L c).toBitVec.msb = false := by
    intro c h1 h2
    rw [BitVec.msb_eq_toInt]
    have e : (L c).toBitVec.toInt = c := L_toInt (by omega) h2
    rw [e]
    simp
    omega
  rw [fa_le64]
  show (0 : Int64).toInt ≤ (L a ^^^ L b).toBitVec.toInt
  rw [Int64.toBitVec_xor]
  have hm : ((L a).toBitVec ^^^ (L b).toBitVec).msb = false := by
    rw [BitVec.msb_xor, h a ha.1 ha.2, h b hb.1 hb.2]
    rfl
  rw [BitVec.msb_eq_toInt] at hm
  have h2 := of_decide_eq_false hm
  have h3 : (0 : Int64).toInt = 0 := by decide +kernel
  omega
theorem floorDiv_J {a b : Int} (ha : 0 ≤ a ∧ a < 9223372036854775808) (hb : 0 < b ∧ b < 9223372036854775808) : J9_floorDiv_f86c9 F (L a) (L b) = some (L (a / b)) := by
  unfold J9_floorDiv_f86c9
  rw [if_pos (by rw [L_0, L_eq (by omega) (by omega)]; omega)]
  simp only [bnd]
  rw [if_pos (L_xor (by omega) (by omega)), L_div (by omega) (by omega)]
/-- the guess of a piece for a key -/
def gK (K S : List Int) (bd : Int) (i : Nat) (x : Int) : Int := S.getD i 0 + (redq (slp bd K S i)).1 * (x - K.getD (S.getD i 0).toNat 0) / (redq (slp bd K S i)).2
theorem gK_rng {K M B S : List Int} {bd : Int} {i : Nat} {x : Int} (h : LK K M B S bd) (hi : i < S.length) (hx : x ≤ 1000000) (hf : K.getD (S.getD i 0).toNat 0 ≤ x) : 0 ≤ (redq (slp bd K S i)).1 * (x - K.getD (S.getD i 0).toNat 0) ∧ (redq (slp bd K S i)).1 * (x - K.getD (S.getD i 0).toNat 0) ≤ 2000000000 ∧ S.getD i 0 ≤ gK K S bd i x ∧ gK K S bd i x ≤ 2000000256 := by
  obtain ⟨h1, h2, h3, h4, h5, h6, h7, h8, h9, h10, h11⟩ := h
  have hq := slp_ok (by omega) h1 h2 h11 h9 hi
  have hr := redq_rng hq
  have hp := redq_pos hq
  have h12 := h9.2.1 i hi
  have h13 := h2 (S.getD i 0).toNat (by omega)
  have a1 : 0 ≤ (redq (slp bd K S i)).1 * (x - K.getD (S.getD i 0).toNat 0) := Int.mul_nonneg hr.1 (by omega)
  have a2 : (redq (slp bd K S i)).1 * (x - K.getD (S.getD i 0).toNat 0) ≤ 1000 * 2000000 := Int.mul_le_mul hr.2.1 (by omega) (by omega) (by omega)
  have a3 := Int.ediv_nonneg a1 (show 0 ≤ (redq (slp bd K S i)).2 by omega)
  have a4 := Int.ediv_le_self (redq (slp bd K S i)).2 a1
  refine ⟨a1, by omega, ?_, ?_⟩
  · unfold gK
    omega
  · unfold gK
    omega
theorem guessBy_J (hF : 2000 ≤ F) {K M B S : List Int} {bd : Int} {i : Nat} {x : Int} {zk zs zr zu : zN} {zt : zT} (h : LK K M B S bd) (hk : RN 256 zk K) (hp : PI bd K S K.length zs zr zu zt) (hi : i < S.length) (hx : -1000000 ≤ x ∧ x ≤ 1000000) (hf : K.getD (S.getD i 0).toNat 0 ≤ x) : X2_guessBy F zk zs zr zu (J i) (J x) = some (L (gK K S bd i x)) := by
  obtain ⟨g1, g2, g3, g4⟩ := gK_rng h hi hx.2 hf
  obtain ⟨h1, h2, h3, h4, h5, h6, h7, h8, h9, h10, h11⟩ := h
  have hq := slp_ok (by omega) h1 h2 h11 h9 hi
  have hr := redq_rng hq
  have hpos := redq_pos hq
  have h12 := h9.2.1 i hi
  have h13 := h2 (S.getD i 0).toNat (by omega)
  obtain ⟨p1, p2, p3, p4, R, U, p5, p6, p7, p8, p9⟩ := hp
  have e1 : U.getD i 0 = (redq (slp bd K S i)).2 := (p9 i hi).2
  have e2 : R.getD i 0 = (redq (slp bd K S i)).1 := (p9 i hi).1
  unfold X2_guessBy
  rw [at_in p6 (by omega), e1]
  simp only [Option.bind_some, bnd]
  rw [J_wide (by omega), L_1, if_pos (by rw [L_le (by omega) (by omega)]; omega), firstOf_J hk p1 h9 hi]
  simp only [Option.bind_some]
  rw [at_in p1 hi]
  simp only [Option.bind_some]
  rw [at_in p5 (by omega), e2]
  simp only [Option.bind_some]
  rw [J_wide (by omega), J_wide (by omega), J_wide (by omega), J_wide (by omega), L_sub, L_mul, floorDiv_J (by omega) (by omega)]
  simp only [Option.bind_some]
  rw [L_add]
  rfl
theorem piece_at {K M B S : List Int} {bd : Int} {i j : Nat} (h : LK K M B S bd) (hi : i < S.length) (h1 : (S.getD i 0).toNat ≤ j) (h2 : j < endS S K.length i) : pcN K S (K.getD j 0) = i + 1 := by
  have hse := SOK_lt h.2.2.2.2.2.2.2.2.1 hi
  have hS := h.2.2.2.2.2.2.2.2.1
  have hpl := pcN_le K S (K.getD j 0)
  have a1 := (pcN_spec (x := K.getD j 0) h.1 hS hi).mpr (by
    rcases Nat.lt_or_ge (S.getD i 0).toNat j with q | q
    · have := h.1 (S.getD i 0).toNat j q (by omega)
      omega
    · rw [show j = (S.getD i 0).toNat by omega]
      omega)
  by_cases c : i + 1 < S.length
  · have a2 := pcN_spec (x := K.getD j 0) h.1 hS c
    unfold endS at h2
    rw [if_pos c] at h2
    have a3 := hS.2.1 (i + 1) c
    have a4 := h.1 j (S.getD (i + 1) 0).toNat h2 (by omega)
    omega
  · omega
/-- the piece of a key: none, or one that begins not behind it -/
theorem pcN_in {K M B S : List Int} {bd : Int} {x : Int} (h : LK K M B S bd) (hp : 0 < pcN K S x) : pcN K S x - 1 < S.length ∧ K.getD (S.getD (pcN K S x - 1) 0).toNat 0 ≤ x := by
  have hpl := pcN_le K S x
  refine ⟨by omega, ?_⟩
  exact (pcN_spec h.1 h.2.2.2.2.2.2.2.2.1 (by omega)).mp (by omega)
end MGUE
