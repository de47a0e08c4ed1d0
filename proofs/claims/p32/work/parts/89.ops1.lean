/-! looking up: the class and the reference answer alike -/
section MOP1
variable {F : Nat}
def XS (K M B S : List Int) (bd : Int) (zk zm zb zs zr zu : zN) (zt : zT) (zmc : Int32) : Prop := RN 256 zk K ∧ RN 256 zm M ∧ RN 16 zb B ∧ PI bd K S K.length zs zr zu zt ∧ zmc = J ((K.length : Int) - (cU K M K.length).length)
theorem int_rng (p : Int32) : -2147483648 ≤ p.toInt ∧ p.toInt < 2147483648 := by
  have h1 := Int32.le_toInt p
  have h2 := Int32.toInt_lt p
  omega
theorem needKey_J {x : Int} (hx : -9000000000 ≤ x ∧ x < 9000000000) : ((-1000000 ≤ x ∧ x ≤ 1000000) → X2_needKey F (L x) = some (Sum.inr ())) ∧ (¬ (-1000000 ≤ x ∧ x ≤ 1000000) → X2_needKey F (L x) = some (Sum.inl 1)) := by
  unfold X2_needKey
  simp (disch := omega) only [L_1000000, L_neg, L_lt, L_le]
  refine ⟨fun h => ?_, fun h => ?_⟩
  · rw [if_neg (by omega), if_pos h.2]
  · by_cases c : x < -1000000
    · rw [if_pos c]
    · rw [if_neg c, if_neg (by omega)]
theorem J_0m : J (((0 : Nat) : Int) - 1) = -1 := by decide +kernel
end MOP1
