/-! slopes: the least and the greatest that keys allow, as quotients -/
section MRNG
theorem mb {a b : Int} (ha : -3000000000 ≤ a ∧ a ≤ 3000000000) (hb : -3000000000 ≤ b ∧ b ≤ 3000000000) : -9000000000000000000 ≤ a * b ∧ a * b ≤ 9000000000000000000 := by
  have h1 : (a * b).natAbs ≤ 9000000000000000000 := by
    rw [Int.natAbs_mul]
    have := Nat.mul_le_mul (show a.natAbs ≤ 3000000000 by omega) (show b.natAbs ≤ 3000000000 by omega)
    omega
  omega
theorem L_mle {a b c d : Int} (ha : -3000000000 ≤ a ∧ a ≤ 3000000000) (hb : -3000000000 ≤ b ∧ b ≤ 3000000000) (hc : -3000000000 ≤ c ∧ c ≤ 3000000000) (hd : -3000000000 ≤ d ∧ d ≤ 3000000000) : L a * L b ≤ L c * L d ↔ a * b ≤ c * d := by
  have h1 := mb ha hb
  have h2 := mb hc hd
  rw [L_mul, L_mul, L_le (by omega) (by omega)]
theorem L_mlt {a b c d : Int} (ha : -3000000000 ≤ a ∧ a ≤ 3000000000) (hb : -3000000000 ≤ b ∧ b ≤ 3000000000) (hc : -3000000000 ≤ c ∧ c ≤ 3000000000) (hd : -3000000000 ≤ d ∧ d ≤ 3000000000) : L a * L b < L c * L d ↔ a * b < c * d := by
  have h1 := mb ha hb
  have h2 := mb hc hd
  rw [L_mul, L_mul, L_lt (by omega) (by omega)]
abbrev qR : Type := Int × Int × Int × Int
/-- one key more, w wide and h high from the first: the least slope and the greatest then -/
def stepR (bd : Int) (q : qR) (w h : Int) : qR :=
  ((if q.1 * w < (h - bd) * q.2.1 then h - bd else q.1), (if q.1 * w < (h - bd) * q.2.1 then w else q.2.1), (if (h + bd) * q.2.2.2 < q.2.2.1 * w then h + bd else q.2.2.1), (if (h + bd) * q.2.2.2 < q.2.2.1 * w then w else q.2.2.2))
/-- the slopes that k keys behind the one at the place o allow -/
def rng (bd : Int) (f : Nat → Int) (o : Nat) : Nat → qR
  | 0 => (0, 1, 1, 0)
  | k + 1 => stepR bd (rng bd f o k) (f (o + k + 1) - f o) (k + 1)
abbrev fitq (q : qR) : Prop := q.1 * q.2.2.2 ≤ q.2.2.1 * q.2.1
abbrev fitR (bd : Int) (f : Nat → Int) (o k : Nat) : Prop := fitq (rng bd f o k)
/-- what holds of all slopes that come up -/
def okq (q : qR) : Prop := 0 ≤ q.1 ∧ q.1 ≤ 1000 ∧ 1 ≤ q.2.1 ∧ q.2.1 ≤ 2000000 ∧ 1 ≤ q.2.2.1 ∧ q.2.2.1 ≤ 1000 ∧ 0 ≤ q.2.2.2 ∧ q.2.2.2 ≤ 2000000
theorem okq_step {bd : Int} {q : qR} {w h : Int} (hq : okq q) (hb : 0 ≤ bd ∧ bd ≤ 20) (hw : 1 ≤ w ∧ w ≤ 2000000) (hh : 1 ≤ h ∧ h ≤ 300) : okq (stepR bd q w h) := by
  obtain ⟨a, b, c, d⟩ := q
  obtain ⟨h1, h2, h3, h4, h5, h6, h7, h8⟩ := hq
  dsimp only at h1 h2 h3 h4 h5 h6 h7 h8
  unfold okq stepR
  dsimp only
  refine ⟨?_, ?_, ?_, ?_, ?_, ?_, ?_, ?_⟩
  · split
    · rename_i h9
      have h10 : 0 ≤ a * w := Int.mul_nonneg h1 (by omega)
      have h11 : 0 < (h - bd) * b := by omega
      by_cases h12 : h - bd < 0
      · have := Int.mul_nonpos_of_nonpos_of_nonneg (show h - bd ≤ 0 by omega) (show 0 ≤ b by omega)
        omega
      · omega
    · exact h1
  all_goals (split <;> omega)
theorem rng_ok {bd : Int} {f : Nat → Int} {o n : Nat} (hb : 0 ≤ bd ∧ bd ≤ 20) (hf : ∀ i j, o ≤ i → i < j → j < n → f i < f j) (hr : ∀ i, o ≤ i → i < n → -1000000 ≤ f i ∧ f i ≤ 1000000) (hn : n ≤ 256) : ∀ k, o + k < n → okq (rng bd f o k)
  | 0, _ => by unfold okq rng; simp
  | k + 1, h => by
    have ih := rng_ok hb hf hr hn k (by omega)
    have h1 := hf o (o + k + 1) (by omega) (by omega) (by omega)
    have h2 := hr o (by omega) (by omega)
    have h3 := hr (o + k + 1) (by omega) (by omega)
    exact okq_step ih hb (by omega) (by omega)
theorem fit_less {bd : Int} {q : qR} {w h : Int} (hq : okq q) (hw : 1 ≤ w) (hf : fitq (stepR bd q w h)) : fitq q := by
  obtain ⟨a, b, c, d⟩ := q
  obtain ⟨h1, h2, h3, h4, h5, h6, h7, h8⟩ := hq
  dsimp only at h1 h2 h3 h4 h5 h6 h7 h8
  unfold fitq stepR at hf
  unfold fitq
  dsimp only at hf ⊢
  by_cases c1 : a * w < (h - bd) * b
  · rw [if_pos c1, if_pos c1] at hf
    by_cases c2 : (h + bd) * d < c * w
    · rw [if_pos c2, if_pos c2] at hf
      have e1 : (h - bd) ≤ (h + bd) := Int.le_of_mul_le_mul_right hf (by omega)
      -- a / b < low / w <= high / w < c / d
      have e2 : a * d * w ≤ c * b * w := by
        have x1 : a * w * d ≤ (h - bd) * b * d := Int.mul_le_mul_of_nonneg_right (by omega) h7
        have x2 : (h - bd) * (b * d) ≤ (h + bd) * (b * d) := Int.mul_le_mul_of_nonneg_right e1 (Int.mul_nonneg (by omega) h7)
        have x3 : (h + bd) * d * b ≤ c * w * b := Int.mul_le_mul_of_nonneg_right (by omega) (by omega)
        have y1 : a * w * d = a * d * w := by rw [Int.mul_right_comm]
        have y2 : (h - bd) * b * d = (h - bd) * (b * d) := Int.mul_assoc _ _ _
        have y3 : (h + bd) * (b * d) = (h + bd) * d * b := by rw [Int.mul_comm b d, Int.mul_assoc]
        have y4 : c * w * b = c * b * w := by rw [Int.mul_right_comm]
        omega
      exact Int.le_of_mul_le_mul_right e2 (by omega)
    · rw [if_neg c2, if_neg c2] at hf
      -- a / b < low / w <= c / d
      have e2 : a * d * w ≤ c * b * w := by
        have x1 : a * w * d ≤ (h - bd) * b * d := Int.mul_le_mul_of_nonneg_right (by omega) h7
        have x3 : (h - bd) * d * b ≤ c * w * b := Int.mul_le_mul_of_nonneg_right hf (by omega)
        have y1 : a * w * d = a * d * w := by rw [Int.mul_right_comm]
        have y2 : (h - bd) * b * d = (h - bd) * d * b := by rw [Int.mul_right_comm]
        have y4 : c * w * b = c * b * w := by rw [Int.mul_right_comm]
        omega
      exact Int.le_of_mul_le_mul_right e2 (by omega)
  · rw [if_neg c1, if_neg c1] at hf
    by_cases c2 : (h + bd) * d < c * w
    · rw [if_pos c2, if_pos c2] at hf
      -- a / b <= high / w < c / d
      have e2 : a * d * w ≤ c * b * w := by
        have x1 : a * w * d ≤ (h + bd) * b * d := Int.mul_le_mul_of_nonneg_right hf h7
        have x3 : (h + bd) * d * b ≤ c * w * b := Int.mul_le_mul_of_nonneg_right (by omega) (by omega)
        have y1 : a * w * d = a * d * w := by rw [Int.mul_right_comm]
        have y2 : (h + bd) * b * d = (h + bd) * d * b := by rw [Int.mul_right_comm]
        have y4 : c * w * b = c * b * w := by rw [Int.mul_right_comm]
        omega
      exact Int.le_of_mul_le_mul_right e2 (by omega)
    · rw [if_neg c2, if_neg c2] at hf
      exact hf
/-- the class's own test for one key more says that all fit then -/
theorem fit_more {bd : Int} {q : qR} {w h : Int} (hq : okq q) (hb : 0 ≤ bd) (hw : 1 ≤ w) (hf : fitq q) : fitq (stepR bd q w h) ↔ ¬ ((q.1 * w < (h - bd) * q.2.1 ∧ q.2.2.1 * w < (h - bd) * q.2.2.2) ∨ ((h + bd) * q.2.2.2 < q.2.2.1 * w ∧ (h + bd) * q.2.1 < q.1 * w)) := by
  obtain ⟨a, b, c, d⟩ := q
  obtain ⟨h1, h2, h3, h4, h5, h6, h7, h8⟩ := hq
  dsimp only at h1 h2 h3 h4 h5 h6 h7 h8
  unfold fitq at hf
  unfold fitq stepR
  dsimp only at hf ⊢
  have x1 : (h - bd) * d ≤ (h + bd) * d := Int.mul_le_mul_of_nonneg_right (by omega) h7
  have x2 : (h - bd) * b ≤ (h + bd) * b := Int.mul_le_mul_of_nonneg_right (by omega) (by omega)
  have x3 : (h - bd) * w ≤ (h + bd) * w := Int.mul_le_mul_of_nonneg_right (by omega) (by omega)
  by_cases c1 : a * w < (h - bd) * b
  · rw [if_pos c1, if_pos c1]
    by_cases c2 : (h + bd) * d < c * w
    · rw [if_pos c2, if_pos c2]
      exact ⟨fun _ h9 => by omega, fun _ => x3⟩
    · rw [if_neg c2, if_neg c2]
      exact ⟨fun h8 h9 => by omega, fun h9 => by omega⟩
  · rw [if_neg c1, if_neg c1]
    by_cases c2 : (h + bd) * d < c * w
    · rw [if_pos c2, if_pos c2]
      exact ⟨fun h8 h9 => by omega, fun h9 => by omega⟩
    · rw [if_neg c2, if_neg c2]
      exact ⟨fun h8 h9 => by omega, fun h9 => hf⟩
theorem fit_prefix {bd : Int} {f : Nat → Int} {o n : Nat} (hb : 0 ≤ bd ∧ bd ≤ 20) (hf : ∀ i j, o ≤ i → i < j → j < n → f i < f j) (hr : ∀ i, o ≤ i → i < n → -1000000 ≤ f i ∧ f i ≤ 1000000) (hn : n ≤ 256) {k : Nat} : ∀ m, o + (k + m) < n → fitR bd f o (k + m) → fitR bd f o k
  | 0, _, h => h
  | m + 1, h1, h => by
    have h' : fitq (stepR bd (rng bd f o (k + m)) (f (o + (k + m) + 1) - f o) ((k + m : Nat) + 1)) := h
    have := hf o (o + (k + m) + 1) (by omega) (by omega) (by omega)
    exact fit_prefix hb hf hr hn m (by omega) (fit_less (rng_ok hb hf hr hn (k + m) (by omega)) (by omega) h')
theorem rng_cong {bd : Int} {f g : Nat → Int} {o : Nat} : ∀ k, (∀ i, o ≤ i → i ≤ o + k → f i = g i) → rng bd f o k = rng bd g o k
  | 0, _ => rfl
  | k + 1, h => by
    rw [rng, rng, rng_cong k (fun i h1 h2 => h i h1 (by omega)), h o (by omega) (by omega), h (o + k + 1) (by omega) (by omega)]
theorem fitR_0 (bd : Int) (f : Nat → Int) (o : Nat) : fitR bd f o 0 := by unfold fitR fitq rng; simp
end MRNG
