/-! the worst error, and slopes that are alike -/
section MERR
variable {F : Nat}
def eF (K S : List Int) (bd : Int) (j : Nat) : Int := if 0 ≤ gK K S bd (pcN K S (K.getD j 0) - 1) (K.getD j 0) - j then gK K S bd (pcN K S (K.getD j 0) - 1) (K.getD j 0) - j else -(gK K S bd (pcN K S (K.getD j 0) - 1) (K.getD j 0) - j)
def wE (K S : List Int) (bd : Int) : Nat → Int
  | 0 => 0
  | j + 1 => if eF K S bd j ≤ wE K S bd j then wE K S bd j else eF K S bd j
theorem pcN_pos {K M B S : List Int} {bd : Int} {j : Nat} (h : LK K M B S bd) (hj : j < K.length) : 0 < pcN K S (K.getD j 0) := by
  have hS := h.2.2.2.2.2.2.2.2.1
  have h0 := hS.2.2.2 (by omega)
  have h1 := hS.2.2.1 h0
  refine (pcN_spec (x := K.getD j 0) h.1 hS h0).mpr ?_
  rw [h1]
  rcases Nat.eq_zero_or_pos j with q | q
  · rw [q]
    exact Int.le_refl _
  · have := h.1 0 j q hj
    show K.getD 0 0 ≤ _
    omega
theorem eF_rng {K M B S : List Int} {bd : Int} {j : Nat} (h : LK K M B S bd) (hj : j < K.length) : 0 ≤ eF K S bd j ∧ eF K S bd j ≤ 2000001000 := by
  have hl := h.2.2.2.2.2.2.2.1
  have hr := h.2.1 j hj
  obtain ⟨g1, g2⟩ := pcN_in h (pcN_pos h hj)
  obtain ⟨r1, r2, r3, r4⟩ := gK_rng h g1 hr.2 g2
  have hs := h.2.2.2.2.2.2.2.2.1.2.1 _ g1
  unfold eF
  split <;> omega
theorem wE_rng {K M B S : List Int} {bd : Int} (h : LK K M B S bd) : ∀ j, j ≤ K.length → 0 ≤ wE K S bd j ∧ wE K S bd j ≤ 2000001000
  | 0, _ => by unfold wE; omega
  | j + 1, hj => by
    have := wE_rng h j (by omega)
    have := eF_rng h (j := j) (by omega)
    rw [wE]
    split <;> omega
theorem err32_L (hF : 2000 ≤ F) {K M B S : List Int} {bd : Int} {i : Nat} {zk zs zr zu : zN} {zt : zT} (h : LK K M B S bd) (hk : RN 256 zk K) (hp : PI bd K S K.length zs zr zu zt) (hi : i < S.length) : ∀ (d n p : Nat), d < n → p + d = endS S K.length i → (S.getD i 0).toNat ≤ p → X2_worstError_L32 zk zs zr zu F (J i) (J (endS S K.length i)) n (J p) (L (wE K S bd p)) = some (L (wE K S bd (endS S K.length i)))
  | d, 0, p, hn, _, _ => absurd hn (Nat.not_lt_zero d)
  | 0, n + 1, p, _, hd, _ => by
    have e1 : p = endS S K.length i := by omega
    rw [e1, X2_worstError_L32, if_pos (by exact Int32.le_refl _)]
  | d + 1, n + 1, p, hn, hd, hsp => by
    have hS := h.2.2.2.2.2.2.2.2.1
    have hse := SOK_lt hS hi
    have hl := hk.len
    have hr := h.2.1 p (by omega)
    have hpc := piece_at h hi hsp (by omega : p < endS S K.length i)
    have hf : K.getD (S.getD i 0).toNat 0 ≤ K.getD p 0 := by
      rcases Nat.lt_or_ge (S.getD i 0).toNat p with q | q
      · have := h.1 _ p q (by omega)
        omega
      · rw [show p = (S.getD i 0).toNat by omega]
        omega
    obtain ⟨r1, r2, r3, r4⟩ := gK_rng h hi hr.2 hf
    have hSi := hS.2.1 i hi
    have hw := wE_rng h p (by omega)
    have ih := err32_L hF h hk hp hi d n (p + 1) (by omega) (by omega) (by omega)
    rw [X2_worstError_L32, if_neg (by rw [J_leN (by omega) (by omega)]; omega), at_in hk (by omega)]
    simp only [Option.bind_some]
    rw [guessBy_J hF h hk hp hi hr hf]
    simp only [Option.bind_some, bnd]
    rw [J_succ, J_wide (by omega), L_sub, L_neg, L_0]
    rw [← ih, wE]
    have he : eF K S bd p = if 0 ≤ gK K S bd i (K.getD p 0) - p then gK K S bd i (K.getD p 0) - p else -(gK K S bd i (K.getD p 0) - p) := by
      unfold eF
      rw [hpc]
      rfl
    have he2 := eF_rng h (j := p) (by omega)
    have e3 : (if L 0 < L ((p : Int) - gK K S bd i (K.getD p 0)) then L ((p : Int) - gK K S bd i (K.getD p 0)) else L (-((p : Int) - gK K S bd i (K.getD p 0)))) = L (eF K S bd p) := by
      rw [he]
      generalize gK K S bd i (K.getD p 0) = g at r3 r4
      simp (disch := omega) only [L_lt]
      by_cases c : 0 < (p : Int) - g
      · rw [if_pos c, if_neg (by omega)]
        congr 1
        omega
      · rw [if_neg c, if_pos (by omega)]
        congr 1
        omega
    rw [e3]
    have e4 : (if L (eF K S bd p) < L (wE K S bd p) then L (wE K S bd p) else L (eF K S bd p)) = L (if eF K S bd p ≤ wE K S bd p then wE K S bd p else eF K S bd p) := by
      generalize eF K S bd p = a at he2
      generalize wE K S bd p = b at hw
      simp (disch := omega) only [L_lt]
      by_cases c : a < b
      · rw [if_pos c, if_pos (by omega)]
      · rw [if_neg c]
        by_cases c2 : a ≤ b
        · rw [if_pos c2]
          congr 1
          omega
        · rw [if_neg c2]
    rw [e4]
theorem err4_L (hF : 2000 ≤ F) {K M B S : List Int} {bd : Int} {zk zs zr zu : zN} {zt : zT} (h : LK K M B S bd) (hk : RN 256 zk K) (hp : PI bd K S K.length zs zr zu zt) : ∀ (d n i : Nat), d < n → i + d = S.length → X2_worstError_L4 zk zs zr zu F n (J i) (L (wE K S bd (posK S K.length i))) = some (L (wE K S bd K.length))
  | d, 0, i, hn, _ => absurd hn (Nat.not_lt_zero d)
  | 0, n + 1, i, _, hd => by
    have e1 : i = S.length := by omega
    subst e1
    have e2 : posK S K.length S.length = K.length := by unfold posK; rw [if_neg (Nat.lt_irrefl _)]
    rw [X2_worstError_L4, length_J hp.1]
    simp only [Option.bind_some]
    rw [if_pos (by exact Int32.le_refl _), e2]
  | d + 1, n + 1, i, hn, hd => by
    have hS := h.2.2.2.2.2.2.2.2.1
    have hsl := hp.1.len
    have hi : i < S.length := by omega
    have hse := SOK_lt hS hi
    have hSi := hS.2.1 i hi
    have e1 : posK S K.length i = (S.getD i 0).toNat := by unfold posK; rw [if_pos hi]
    have e2 : posK S K.length (i + 1) = endS S K.length i := rfl
    have ih := err4_L hF h hk hp d n (i + 1) (by omega) (by omega)
    have hl := hk.len
    have q := err32_L hF h hk hp hi (endS S K.length i - (S.getD i 0).toNat) F (S.getD i 0).toNat (by omega) (by omega) (Nat.le_refl _)
    rw [X2_worstError_L4, length_J hp.1]
    simp only [Option.bind_some]
    rw [if_neg (by rw [J_leN (by omega) (by omega)]; omega), endOf_J hk hp.1 hS hi]
    simp only [Option.bind_some]
    rw [at_in hp.1 hi]
    simp only [Option.bind_some]
    rw [e1]
    rw [show (((S.getD i 0).toNat : Nat) : Int) = S.getD i 0 by omega] at q
    rw [q]
    simp only [Option.bind_some, bnd]
    rw [J_succ]
    rw [e2] at ih
    exact ih
end MERR
