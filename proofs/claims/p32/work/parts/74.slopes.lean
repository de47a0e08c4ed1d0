/-! the class's range of slopes, and the greatest common divisor -/
section MSLOPE
def RT (k0 p0 bd : Int) (q : qR) : zT := (J k0, J p0, J bd, L q.1, L q.2.1, L q.2.2.1, L q.2.2.2)
theorem begin_J {F : Nat} {t : zT} {k p b : Int} : X1_begin F t (J k) (J p) (J b) = some (RT k p b (0, 1, 1, 0)) := by
  unfold X1_begin RT
  rw [L_0, L_1]
theorem take_J {F : Nat} {k0 p0 bd : Int} {q : qR} {k p : Int} (hq : okq q) (hf : fitq q) (hb : 0 ≤ bd ∧ bd ≤ 20) (hk0 : -1000000 ≤ k0) (hk : k0 < k) (hk1 : k ≤ 1000000) (hp0 : 0 ≤ p0) (hp : p0 < p) (hp1 : p ≤ 256) :
    (fitq (stepR bd q (k - k0) (p - p0)) → X1_take F (RT k0 p0 bd q) (J k) (J p) = some (1, RT k0 p0 bd (stepR bd q (k - k0) (p - p0)))) ∧ (¬ fitq (stepR bd q (k - k0) (p - p0)) → X1_take F (RT k0 p0 bd q) (J k) (J p) = some (0, RT k0 p0 bd q)) := by
  rw [fit_more hq hb.1 (by omega) hf]
  obtain ⟨a, b, c, d⟩ := q
  obtain ⟨h1, h2, h3, h4, h5, h6, h7, h8⟩ := hq
  dsimp only at h1 h2 h3 h4 h5 h6 h7 h8 ⊢
  unfold fitq at hf
  dsimp only at hf
  obtain ⟨w, hw⟩ : ∃ w, w = k - k0 := ⟨_, rfl⟩
  obtain ⟨h, hh⟩ : ∃ h, h = p - p0 := ⟨_, rfl⟩
  rw [← hw, ← hh]
  have e1 : Int32.toInt64 (J k) - Int32.toInt64 (J k0) = L w := by rw [J_wide (by omega), J_wide (by omega), L_sub, hw]
  have e2 : Int32.toInt64 (J p) - Int32.toInt64 (J p0) - Int32.toInt64 (J bd) = L (h - bd) := by rw [J_wide (by omega), J_wide (by omega), J_wide (by omega), L_sub, L_sub, hh]
  have e3 : L (h - bd) + 2 * Int32.toInt64 (J bd) = L (h + bd) := by rw [J_wide (by omega), L_2, L_mul, L_add]; congr 1; omega
  have key : X1_take F (RT k0 p0 bd (a, b, c, d)) (J k) (J p) = if (a * w < (h - bd) * b ∧ c * w < (h - bd) * d) ∨ ((h + bd) * d < c * w ∧ (h + bd) * b < a * w) then some (0, RT k0 p0 bd (a, b, c, d)) else some (1, RT k0 p0 bd (stepR bd (a, b, c, d) w h)) := by
    unfold X1_take RT
    simp only [bnd]
    rw [e1, e2, e3]
    simp (disch := omega) only [L_mle, L_mlt]
    simp only [← Int.not_lt]
    unfold stepR
    dsimp only
    by_cases c1 : a * w < (h - bd) * b <;> by_cases c2 : (h + bd) * d < c * w <;> by_cases c3 : c * w < (h - bd) * d <;> by_cases c4 : (h + bd) * b < a * w <;> simp only [c1, c2, c3, c4, not_true_eq_false, not_false_eq_true, if_true, if_false, Option.bind_some, true_and, false_and, and_true, and_false, true_or, or_true, or_false, false_or, or_self, show ¬ ((1 : Int32) = 0) by decide]
  refine ⟨fun hn => ?_, fun hn => ?_⟩
  · rw [key, if_neg hn]
  · rw [key, if_pos (by exact Classical.not_not.mp hn)]
/-- Euclid's steps: from b below 2 ^ m, two steps halve it -/
theorem div_L : ∀ (m n s a b : Nat), 2 * m + 1 < n → s + 2 * m + 1 ≤ 64 → b < 2 ^ m → a < 4000000 → b < 4000000 → X1_divisor_L13 n (J s) (L b) (L a) = some (L (Nat.gcd a b)) := by
  have one : ∀ (n s a b : Nat), s < 64 → 0 < b → a < 4000000 → b < 4000000 → X1_divisor_L13 (n + 1) (J s) (L b) (L a) = X1_divisor_L13 n (J (s + 1 : Nat)) (L (a % b : Nat)) (L b) := by
    intro n s a b h1 h2 h3 h4
    rw [X1_divisor_L13, J_64, if_neg (by rw [J_le (by omega) (by omega)]; omega), L_0, if_neg (by rw [L_eq (by omega) (by omega)]; omega), if_pos (by rw [L_eq (by omega) (by omega)]; omega)]
    simp only [bnd]
    rw [J_1, J_add, L_div (by omega) (by omega), L_mul, L_sub]
    have e : ((a : Int) - (a : Int) / b * b) = ((a % b : Nat) : Int) := by
      rw [Int.natCast_emod, Int.emod_def, Int.mul_comm]
    rw [e]
    rfl
  have zero : ∀ (n s a : Nat), s < 1000 → a < 4000000 → X1_divisor_L13 (n + 1) (J s) (L (0 : Nat)) (L a) = some (L a) := by
    intro n s a h1 h2
    rw [X1_divisor_L13, J_64]
    by_cases c : (64 : Int) ≤ s
    · rw [if_pos (by rw [J_le (by omega) (by omega)]; exact c)]
    · rw [if_neg (by rw [J_le (by omega) (by omega)]; exact c), L_0, if_pos (by rfl)]
  intro m
  induction m with
  | zero =>
    intro n s a b h1 h2 h3 h4 h5
    obtain ⟨n', rfl⟩ : ∃ n', n = n' + 1 := ⟨n - 1, by omega⟩
    have : b = 0 := by simp at h3; omega
    subst this
    rw [zero n' s a (by omega) h4, Nat.gcd_zero_right]
  | succ m ih =>
    intro n s a b h1 h2 h3 h4 h5
    obtain ⟨n', rfl⟩ : ∃ n', n = n' + 2 := ⟨n - 2, by omega⟩
    rcases Nat.eq_zero_or_pos b with hb | hb
    · subst hb
      rw [zero (n' + 1) s a (by omega) h4, Nat.gcd_zero_right]
    · rw [one (n' + 1) s a b (by omega) hb h4 h5]
      have hr := Nat.mod_lt a hb
      rcases Nat.eq_zero_or_pos (a % b) with hc | hc
      · rw [hc, zero n' (s + 1) b (by omega) h5, Nat.gcd_comm a b, Nat.gcd_rec, hc, Nat.gcd_zero_left]
      · rw [one n' (s + 1) b (a % b) (by omega) hc h5 (by omega)]
        have hr2 := Nat.mod_lt b hc
        have hr3 : 2 * (b % (a % b)) < b := by
          have h8 := Nat.mod_add_div b (a % b)
          have h9 : 1 ≤ b / (a % b) := (Nat.le_div_iff_mul_le hc).mpr (by omega)
          have h10 : (a % b) * 1 ≤ (a % b) * (b / (a % b)) := Nat.mul_le_mul_left _ h9
          omega
        rw [ih n' (s + 1 + 1) (a % b) (b % (a % b)) (by omega) (by omega) (by rw [Nat.pow_succ] at h3; omega) (by omega) (by omega)]
        rw [show Nat.gcd a b = Nat.gcd (a % b) (b % (a % b)) from (Nat.gcd_comm a b).trans ((Nat.gcd_rec b a).trans ((Nat.gcd_rec (a % b) b).trans (Nat.gcd_comm _ _)))]
/-- the slope in lowest terms -/
def gq (q : qR) : Nat := Nat.gcd q.2.1.toNat q.1.toNat
def redq (q : qR) : Int × Int := (q.1 / gq q, q.2.1 / gq q)
theorem gq_pos {q : qR} (hq : okq q) : 0 < gq q := Nat.gcd_pos_of_pos_left _ (by obtain ⟨h1, h2, h3, h4, -⟩ := hq; omega)
theorem gq_le {q : qR} (hq : okq q) : gq q ≤ 2000000 := Nat.le_trans (Nat.gcd_le_left _ (by obtain ⟨h1, h2, h3, h4, -⟩ := hq; omega)) (by obtain ⟨h1, h2, h3, h4, -⟩ := hq; omega)
theorem divisor_J {F : Nat} (hF : 2000 ≤ F) {k0 p0 bd : Int} {q : qR} (hq : okq q) : X1_divisor F (RT k0 p0 bd q) = some (L (gq q)) := by
  have hg := gq_pos hq
  have hg2 := gq_le hq
  obtain ⟨h1, h2, h3, h4, h5, h6, h7, h8⟩ := hq
  unfold X1_divisor RT
  dsimp only
  rw [J_0]
  have := div_L 10 F 0 q.2.1.toNat q.1.toNat (by omega) (by omega) (by omega) (by omega) (by omega)
  rw [show ((q.1.toNat : Nat) : Int) = q.1 by omega, show ((q.2.1.toNat : Nat) : Int) = q.2.1 by omega] at this
  simp only [Int.natCast_zero] at this
  rw [this]
  simp only [Option.bind_some]
  rw [L_1, if_pos (by show L 1 ≤ L (gq q : Nat); rw [L_le (by omega) (by omega)]; omega)]
  rfl
theorem redq_rng {q : qR} (hq : okq q) : 0 ≤ (redq q).1 ∧ (redq q).1 ≤ 1000 ∧ 0 ≤ (redq q).2 ∧ (redq q).2 ≤ 2000000 := by
  have hg := gq_pos hq
  obtain ⟨h1, h2, h3, h4, h5, h6, h7, h8⟩ := hq
  unfold redq
  dsimp only
  refine ⟨Int.ediv_nonneg h1 (by omega), ?_, Int.ediv_nonneg (by omega) (by omega), ?_⟩
  · have := Int.ediv_le_self (gq q : Int) h1
    omega
  · have := Int.ediv_le_self (gq q : Int) (show 0 ≤ q.2.1 by omega)
    omega
theorem redq_pos {q : qR} (hq : okq q) : 1 ≤ (redq q).2 := by
  have hg := gq_pos hq
  have h3 := hq.2.2.1
  have hd : gq q ∣ q.2.1.toNat := Nat.gcd_dvd_left _ _
  have hle := Nat.le_of_dvd (by omega) hd
  unfold redq
  dsimp only
  exact Int.le_ediv_of_mul_le (by omega) (by omega)
theorem leastRise_J {F : Nat} (hF : 2000 ≤ F) {k0 p0 bd : Int} {q : qR} (hq : okq q) : X1_leastRise F (RT k0 p0 bd q) = some (J (redq q).1) := by
  have hg := gq_pos hq
  have hg2 := gq_le hq
  have hr := redq_rng hq
  unfold X1_leastRise
  rw [divisor_J hF hq]
  simp only [Option.bind_some]
  rw [L_0, if_pos (by rw [L_eq (by omega) (by omega)]; omega)]
  obtain ⟨h1, h2, h3, h4, h5, h6, h7, h8⟩ := hq
  unfold RT
  dsimp only
  rw [L_div (by omega) (by omega)]
  unfold redq at hr ⊢
  dsimp only at hr ⊢
  rw [L_nar (by omega)]
theorem leastRun_J {F : Nat} (hF : 2000 ≤ F) {k0 p0 bd : Int} {q : qR} (hq : okq q) : X1_leastRun F (RT k0 p0 bd q) = some (J (redq q).2) := by
  have hg := gq_pos hq
  have hg2 := gq_le hq
  have hr := redq_rng hq
  unfold X1_leastRun
  rw [divisor_J hF hq]
  simp only [Option.bind_some]
  rw [L_0, if_pos (by rw [L_eq (by omega) (by omega)]; omega)]
  obtain ⟨h1, h2, h3, h4, h5, h6, h7, h8⟩ := hq
  unfold RT
  dsimp only
  rw [L_div (by omega) (by omega)]
  unfold redq at hr ⊢
  dsimp only at hr ⊢
  rw [L_nar (by omega)]
end MSLOPE
