/-! the law's own helpers: what they answer -/
section LPR
variable {F : Nat}
theorem i7_0 : (¬ ((0 : Int32) < 0 ∨ 7 ≤ 0)) = True := eq_true (by decide)
theorem i7_1 : (¬ ((1 : Int32) < 0 ∨ 7 ≤ 1)) = True := eq_true (by decide)
theorem i7_2 : (¬ ((2 : Int32) < 0 ∨ 7 ≤ 2)) = True := eq_true (by decide)
theorem i7_3 : (¬ ((3 : Int32) < 0 ∨ 7 ≤ 3)) = True := eq_true (by decide)
theorem i7_4 : (¬ ((4 : Int32) < 0 ∨ 7 ≤ 4)) = True := eq_true (by decide)
theorem i7_5 : (¬ ((5 : Int32) < 0 ∨ 7 ≤ 5)) = True := eq_true (by decide)
theorem i7_6 : (¬ ((6 : Int32) < 0 ∨ 7 ≤ 6)) = True := eq_true (by decide)
theorem t10 : ((1 : Int32) = 0) = False := eq_false (by decide)
theorem n7_0 : Int32.toNatClampNeg 0 = 0 := by decide
theorem n7_1 : Int32.toNatClampNeg 1 = 1 := by decide
theorem n7_2 : Int32.toNatClampNeg 2 = 2 := by decide
theorem n7_3 : Int32.toNatClampNeg 3 = 3 := by decide
theorem n7_4 : Int32.toNatClampNeg 4 = 4 := by decide
theorem n7_5 : Int32.toNatClampNeg 5 = 5 := by decide
theorem n7_6 : Int32.toNatClampNeg 6 = 6 := by decide
/-- heads of pieces: 1 where one starts, otherwise 0 -/
def HD (v : Nat → Int32) (S : List Int) (n : Nat) : Prop := ∀ i : Nat, i < n → v i = if (i : Int) ∈ S then 1 else 0
theorem HD_in {v : Nat → Int32} {S : List Int} {n i : Nat} (h : HD v S n) (hi : i < n) (hm : (i : Int) ∈ S) : v i = 1 := by rw [h i hi, if_pos hm]
theorem HD_out {v : Nat → Int32} {S : List Int} {n i : Nat} (h : HD v S n) (hi : i < n) (hm : ¬ (i : Int) ∈ S) : v i = 0 := by rw [h i hi, if_neg hm]
theorem SOK_gap {S : List Int} {n i t : Nat} (hS : SOK S n) (hi : i < S.length) (h1 : (S.getD i 0).toNat < t) (h2 : t < endS S n i) : ¬ (t : Int) ∈ S := by
  intro hm
  obtain ⟨j, hj, e⟩ := mem_getD.mp hm
  have hSi := hS.2.1 i hi
  rcases Nat.lt_trichotomy i j with q | q | q
  · unfold endS at h2
    rw [if_pos (by omega)] at h2
    rcases Nat.lt_or_ge (i + 1) j with q2 | q2
    · have := hS.1 (i + 1) j q2 hj
      have := hS.2.1 (i + 1) (by omega)
      omega
    · have : j = i + 1 := by omega
      subst this
      omega
  · subst q
    omega
  · have := hS.1 j i q hi
    omega
theorem NH_of {v : Nat → Int32} {S : List Int} {n i : Nat} (h : HD v S n) (hS : SOK S n) (hi : i < S.length) : (∀ t, (S.getD i 0).toNat < t → t < endS S n i → v t = 0) ∧ (endS S n i < n → v (endS S n i) = 1) := by
  have hse := SOK_lt hS hi
  refine ⟨fun t h1 h2 => HD_out h (by omega) (SOK_gap hS hi h1 h2), fun h1 => HD_in h h1 ?_⟩
  unfold endS at h1 ⊢
  by_cases c : i + 1 < S.length
  · rw [if_pos c] at h1 ⊢
    have := hS.2.1 (i + 1) c
    rw [show (((S.getD (i + 1) 0).toNat : Nat) : Int) = S.getD (i + 1) 0 by omega]
    exact getD_mem c
  · rw [if_neg c] at h1
    omega
theorem lbeh_L {v : Nat → Int32} {n e : Nat} (hn : n ≤ 64) (he : e ≤ n) (h2 : e < n → v e = 1) : ∀ (d m b : Nat), d < m → b + d = e → (∀ t, b ≤ t → t < e → v t = 0) → L_behind_L4 (J n) v 64 m (J b) = some (J e)
  | d, 0, b, h, _, _ => absurd h (Nat.not_lt_zero d)
  | 0, m + 1, b, _, hd, h => by
    have : b = e := by omega
    subst this
    rw [L_behind_L4]
    by_cases c : b = n
    · rw [if_pos (by rw [J_leN (by omega) (by omega)]; omega)]
    · rw [if_neg (by rw [J_leN (by omega) (by omega)]; omega), if_pos (J_inN (by omega) (by omega)), J_ix (by omega), h2 (by omega), if_neg (by decide)]
  | d + 1, m + 1, b, hm, hd, h => by
    rw [L_behind_L4, if_neg (by rw [J_leN (by omega) (by omega)]; omega), if_pos (J_inN (by omega) (by omega)), J_ix (by omega), h b (by omega) (by omega), if_pos rfl]
    simp only [bnd]
    rw [J_succ]
    exact lbeh_L hn he h2 d m (b + 1) (by omega) (by omega) (fun t h3 h4 => h t (by omega) h4)
theorem lbehind_J (hF : 2000 ≤ F) {v : Nat → Int32} {n s e : Nat} (hn : n ≤ 64) (hs : s < e) (he : e ≤ n) (h1 : ∀ t, s < t → t < e → v t = 0) (h2 : e < n → v e = 1) : L_behind F 64 v (J s) (J n) = some (J e) := by
  unfold L_behind
  simp only [bnd]
  rw [J_succ, lbeh_L hn he h2 (e - (s + 1)) F (s + 1) (by omega) (by omega) (fun t h3 h4 => h1 t (by omega) h4)]
  rfl
theorem lbehind_H (hF : 2000 ≤ F) {v : Nat → Int32} {S : List Int} {n i : Nat} (hn : n ≤ 64) (h : HD v S n) (hS : SOK S n) (hi : i < S.length) : L_behind F 64 v (J (S.getD i 0)) (J n) = some (J (endS S n i)) := by
  have hse := SOK_lt hS hi
  have hSi := hS.2.1 i hi
  obtain ⟨a, b⟩ := NH_of h hS hi
  have := lbehind_J hF hn hse.1 hse.2 a b
  rw [show (((S.getD i 0).toNat : Nat) : Int) = S.getD i 0 by omega] at this
  exact this
/-! slopes that are possible, by pairs of keys -/
def wf (f : Nat → Int) (o j : Nat) : Int := f (o + j) - f o
theorem rng_char {bd : Int} {f : Nat → Int} {o : Nat} (hb : 0 ≤ bd) : ∀ k, (∀ j, 1 ≤ j → j ≤ k → 1 ≤ wf f o j) →
    0 ≤ (rng bd f o k).1 ∧ 1 ≤ (rng bd f o k).2.1 ∧ 1 ≤ (rng bd f o k).2.2.1 ∧ 0 ≤ (rng bd f o k).2.2.2 ∧ (0 < k → 1 ≤ (rng bd f o k).2.2.2) ∧
    (∀ j : Nat, 1 ≤ j → j ≤ k → ((j : Int) - bd) * (rng bd f o k).2.1 ≤ (rng bd f o k).1 * wf f o j) ∧
    (∀ j : Nat, 1 ≤ j → j ≤ k → (rng bd f o k).2.2.1 * wf f o j ≤ ((j : Int) + bd) * (rng bd f o k).2.2.2) ∧
    (((rng bd f o k).1 = 0 ∧ (rng bd f o k).2.1 = 1) ∨ ∃ j : Nat, 1 ≤ j ∧ j ≤ k ∧ (rng bd f o k).1 = (j : Int) - bd ∧ (rng bd f o k).2.1 = wf f o j) ∧
    ((k = 0 ∧ (rng bd f o k).2.2.1 = 1 ∧ (rng bd f o k).2.2.2 = 0) ∨ ∃ j : Nat, 1 ≤ j ∧ j ≤ k ∧ (rng bd f o k).2.2.1 = (j : Int) + bd ∧ (rng bd f o k).2.2.2 = wf f o j)
  | 0, _ => by
    refine ⟨by simp [rng], by simp [rng], by simp [rng], by simp [rng], fun h => absurd h (Nat.lt_irrefl 0), fun j h1 h2 => by omega, fun j h1 h2 => by omega, Or.inl (by simp [rng]), Or.inl (by simp [rng])⟩
  | k + 1, hw => by
    obtain ⟨a1, a2, a3, a4, a5, a6, a7, a8, a9⟩ := rng_char hb k (fun j h1 h2 => hw j h1 (by omega))
    have e : rng bd f o (k + 1) = stepR bd (rng bd f o k) (wf f o (k + 1)) ((k + 1 : Nat) : Int) := by
      rw [rng]
      rfl
    have hw1 := hw (k + 1) (by omega) (Nat.le_refl _)
    rw [e]
    clear e
    have hz : k = 0 → (rng bd f o k).2.2.2 = 0 := by
      intro q
      rcases a9 with ⟨_, _, q3⟩ | ⟨j, q1, q2, _⟩
      · exact q3
      · omega
    generalize rng bd f o k = q at *
    obtain ⟨qa, qb, qc, qd⟩ := q
    dsimp only at a1 a2 a3 a4 a5 a6 a7 a8 a9 hz
    unfold stepR
    dsimp only
    have hwj : ∀ j : Nat, 1 ≤ j → j ≤ k → 1 ≤ wf f o j := fun j h1 h2 => hw j h1 (by omega)
    generalize hwk : wf f o (k + 1) = w at hw1
    have hlast : ∀ j : Nat, 1 ≤ j → j ≤ k + 1 → ¬ j ≤ k → j = k + 1 := fun j _ h2 h3 => by omega
    refine ⟨?_, ?_, ?_, ?_, ?_, ?_, ?_, ?_, ?_⟩
    · split
      · rename_i c
        have h10 : 0 ≤ qa * w := Int.mul_nonneg a1 (by omega)
        by_cases h12 : ((k + 1 : Nat) : Int) - bd < 0
        · have := Int.mul_nonpos_of_nonpos_of_nonneg (show ((k + 1 : Nat) : Int) - bd ≤ 0 by omega) (show 0 ≤ qb by omega)
          omega
        · omega
      · exact a1
    · split <;> omega
    · split <;> omega
    · split <;> omega
    · intro _
      split
      · omega
      · rename_i c
        rcases Nat.eq_zero_or_pos k with q | q
        · have := hz q
          rw [this] at c
          have h1 : 1 * 1 ≤ qc * w := Int.mul_le_mul a3 hw1 (by omega) (by omega)
          rw [Int.mul_zero] at c
          omega
        · exact a5 q
    · intro j h1 h2
      by_cases c : qa * w < (((k + 1 : Nat) : Int) - bd) * qb
      · rw [if_pos c, if_pos c]
        by_cases hj : j ≤ k
        · have x1 := a6 j h1 hj
          have x2 := hwj j h1 hj
          have y1 : ((j : Int) - bd) * qb * w ≤ qa * wf f o j * w := Int.mul_le_mul_of_nonneg_right x1 (by omega)
          have y2 : qa * w * wf f o j ≤ (((k + 1 : Nat) : Int) - bd) * qb * wf f o j := Int.mul_le_mul_of_nonneg_right (by omega) (by omega)
          have z1 : ((j : Int) - bd) * qb * w = ((j : Int) - bd) * w * qb := Int.mul_right_comm _ _ _
          have z2 : qa * wf f o j * w = qa * w * wf f o j := Int.mul_right_comm _ _ _
          have z3 : (((k + 1 : Nat) : Int) - bd) * qb * wf f o j = (((k + 1 : Nat) : Int) - bd) * wf f o j * qb := Int.mul_right_comm _ _ _
          exact Int.le_of_mul_le_mul_right (a := qb) (by omega) (by omega)
        · have : j = k + 1 := by omega
          subst this
          rw [hwk]
          exact Int.le_refl _
      · rw [if_neg c, if_neg c]
        by_cases hj : j ≤ k
        · exact a6 j h1 hj
        · have : j = k + 1 := by omega
          subst this
          rw [hwk]
          omega
    · intro j h1 h2
      by_cases c : (((k + 1 : Nat) : Int) + bd) * qd < qc * w
      · rw [if_pos c, if_pos c]
        by_cases hj : j ≤ k
        · have x1 := a7 j h1 hj
          have x2 := hwj j h1 hj
          have x3 := a5 (by omega)
          have y1 : qc * wf f o j * w ≤ ((j : Int) + bd) * qd * w := Int.mul_le_mul_of_nonneg_right x1 (by omega)
          have y2 : (((k + 1 : Nat) : Int) + bd) * qd * wf f o j ≤ qc * w * wf f o j := Int.mul_le_mul_of_nonneg_right (by omega) (by omega)
          have z1 : ((j : Int) + bd) * qd * w = ((j : Int) + bd) * w * qd := Int.mul_right_comm _ _ _
          have z2 : qc * wf f o j * w = qc * w * wf f o j := Int.mul_right_comm _ _ _
          have z3 : (((k + 1 : Nat) : Int) + bd) * qd * wf f o j = (((k + 1 : Nat) : Int) + bd) * wf f o j * qd := Int.mul_right_comm _ _ _
          exact Int.le_of_mul_le_mul_right (a := qd) (by omega) (by omega)
        · have : j = k + 1 := by omega
          subst this
          rw [hwk]
          exact Int.le_refl _
      · rw [if_neg c, if_neg c]
        by_cases hj : j ≤ k
        · exact a7 j h1 hj
        · have : j = k + 1 := by omega
          subst this
          rw [hwk]
          omega
    · by_cases c : qa * w < (((k + 1 : Nat) : Int) - bd) * qb
      · rw [if_pos c, if_pos c]
        exact Or.inr ⟨k + 1, by omega, Nat.le_refl _, rfl, hwk.symm⟩
      · rw [if_neg c, if_neg c]
        rcases a8 with q | ⟨j, q1, q2, q3, q4⟩
        · exact Or.inl q
        · exact Or.inr ⟨j, q1, by omega, q3, q4⟩
    · by_cases c : (((k + 1 : Nat) : Int) + bd) * qd < qc * w
      · rw [if_pos c, if_pos c]
        exact Or.inr ⟨k + 1, by omega, Nat.le_refl _, rfl, hwk.symm⟩
      · rw [if_neg c, if_neg c]
        rcases a9 with ⟨q1, q2, q3⟩ | ⟨j, q1, q2, q3, q4⟩
        · exfalso
          rw [q3, Int.mul_zero, q2, Int.one_mul] at c
          omega
        · exact Or.inr ⟨j, q1, by omega, q3, q4⟩
/-- all pairs of keys agree -/
def PA (bd : Int) (f : Nat → Int) (o k : Nat) : Prop := ∀ a b : Nat, 1 ≤ a → a ≤ k → 1 ≤ b → b ≤ k → ((a : Int) - bd) * wf f o b ≤ ((b : Int) + bd) * wf f o a
theorem fit_pairs {bd : Int} {f : Nat → Int} {o k : Nat} (hb : 0 ≤ bd) (hw : ∀ j, 1 ≤ j → j ≤ k → 1 ≤ wf f o j) : fitq (rng bd f o k) ↔ PA bd f o k := by
  obtain ⟨a1, a2, a3, a4, a5, a6, a7, a8, a9⟩ := rng_char hb k hw
  generalize rng bd f o k = q at *
  obtain ⟨qa, qb, qc, qd⟩ := q
  dsimp only at a1 a2 a3 a4 a5 a6 a7 a8 a9
  unfold fitq PA
  dsimp only
  constructor
  · intro hf a b h1 h2 h3 h4
    have x1 := a6 a h1 h2
    have x2 := a7 b h3 h4
    have x3 := a5 (by omega)
    have y1 := hw a h1 h2
    have y2 := hw b h3 h4
    have z1 : ((a : Int) - bd) * qb * qd ≤ qa * wf f o a * qd := Int.mul_le_mul_of_nonneg_right x1 a4
    have z2 : qa * qd * wf f o a ≤ qc * qb * wf f o a := Int.mul_le_mul_of_nonneg_right hf (by omega)
    have z3 : qa * wf f o a * qd = qa * qd * wf f o a := Int.mul_right_comm _ _ _
    have z4 : ((a : Int) - bd) * qb * qd = ((a : Int) - bd) * qd * qb := Int.mul_right_comm _ _ _
    have z5 : qc * qb * wf f o a = qc * wf f o a * qb := Int.mul_right_comm _ _ _
    have t1 : ((a : Int) - bd) * qd ≤ qc * wf f o a := Int.le_of_mul_le_mul_right (a := qb) (by omega) (by omega)
    have t2 : ((a : Int) - bd) * qd * wf f o b ≤ qc * wf f o a * wf f o b := Int.mul_le_mul_of_nonneg_right t1 (by omega)
    have t3 : qc * wf f o b * wf f o a ≤ ((b : Int) + bd) * qd * wf f o a := Int.mul_le_mul_of_nonneg_right x2 (by omega)
    have t4 : qc * wf f o a * wf f o b = qc * wf f o b * wf f o a := Int.mul_right_comm _ _ _
    have t5 : ((a : Int) - bd) * qd * wf f o b = ((a : Int) - bd) * wf f o b * qd := Int.mul_right_comm _ _ _
    have t6 : ((b : Int) + bd) * qd * wf f o a = ((b : Int) + bd) * wf f o a * qd := Int.mul_right_comm _ _ _
    exact Int.le_of_mul_le_mul_right (a := qd) (by omega) (by omega)
  · intro hp
    rcases a9 with ⟨q1, q2, q3⟩ | ⟨b, q1, q2, q3, q4⟩
    · rw [q2, q3, Int.mul_zero, Int.one_mul]
      omega
    · rcases a8 with ⟨p1, p2⟩ | ⟨a, p1, p2, p3, p4⟩
      · rw [p1, p2, Int.zero_mul, Int.mul_one]
        omega
      · rw [p3, p4, q3, q4]
        exact hp a b p1 p2 q1 q2
theorem wf_gd {K : List Int} (hs : Srt K) {o k : Nat} (h : o + k < K.length) : ∀ j, 1 ≤ j → j ≤ k → 1 ≤ wf (gd K) o j := fun j h1 h2 => by
  have := hs o (o + j) (by omega) (by omega)
  unfold wf gd
  omega
end LPR
