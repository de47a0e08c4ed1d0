/-! the reference's own test whether keys fit one piece, and its slopes -/
section MREF
variable {F : Nat}
theorem J_leN {a b : Nat} (ha : a < 2147483648) (hb : b < 2147483648) : J (a : Int) ≤ J (b : Int) ↔ a ≤ b := by
  rw [J_le (by omega) (by omega)]
  omega
theorem J_ltN {a b : Nat} (ha : a < 2147483648) (hb : b < 2147483648) : J (a : Int) < J (b : Int) ↔ a < b := by
  rw [J_lt (by omega) (by omega)]
  omega
theorem J_eqN {a b : Nat} (ha : a < 2147483648) (hb : b < 2147483648) : J (a : Int) = J (b : Int) ↔ a = b := by
  rw [J_eq (by omega) (by omega)]
  omega
theorem J_ix {i : Nat} (h : i < 2147483648) : Int32.toNatClampNeg (J (i : Int)) = i := by
  rw [J_cl (by omega)]
  omega
theorem J_inN {i N : Nat} (h : i < N) (hN : N ≤ 1000) : ¬ (J (i : Int) < 0 ∨ N ≤ Int32.toNatClampNeg (J (i : Int))) := J_in (by omega) (by omega)
theorem J_succ (i : Nat) : J (i : Int) + 1 = J ((i + 1 : Nat) : Int) := by
  rw [J_1, J_add]
  congr 1
theorem J_pred {i : Nat} (h : 0 < i) : J (i : Int) - 1 = J ((i - 1 : Nat) : Int) := by
  rw [J_1, J_sub]
  congr 1
  omega
def RA (N : Nat) (a : Nat → Int32) (l : List Int) : Prop := l.length ≤ N ∧ ∀ i, i < l.length → a i = J (l.getD i 0)
def KR (l : List Int) : Prop := ∀ i, i < l.length → -1000000 ≤ l.getD i 0 ∧ l.getD i 0 ≤ 1000000
def gd (l : List Int) (i : Nat) : Int := l.getD i 0
theorem rngK_ok {K : List Int} {bd : Int} {o k : Nat} (hl : K.length ≤ 256) (hs : Srt K) (hr : KR K) (hb : 0 ≤ bd ∧ bd ≤ 20) (h : o + k < K.length) : okq (rng bd (gd K) o k) :=
  rng_ok hb (fun i j _ h1 h2 => hs i j h1 h2) (fun i _ h1 => hr i h1) hl k h
theorem rngK_d {K : List Int} {bd : Int} {o : Nat} (hs : Srt K) : ∀ k, o + k < K.length → 0 < k → 1 ≤ (rng bd (gd K) o k).2.2.2
  | 0, _, h => absurd h (Nat.lt_irrefl 0)
  | k + 1, h, _ => by
    have hw := hs o (o + k + 1) (by omega) (by omega)
    have ih := rngK_d (bd := bd) (o := o) hs k (by omega)
    rw [rng, stepR]
    dsimp only
    split
    · unfold gd
      omega
    · rename_i hc
      rcases Nat.eq_zero_or_pos k with q | q
      · subst q
        exfalso
        apply hc
        simp only [rng, gd, Int.mul_zero, Int.one_mul]
        omega
      · exact ih q
theorem gd_sub {K : List Int} (hs : Srt K) (hr : KR K) {i j : Nat} (h : i < j) (hj : j < K.length) : 1 ≤ gd K j - gd K i ∧ gd K j - gd K i ≤ 2000000 := by
  have h1 := hs i j h hj
  have h2 := hr i (by omega)
  have h3 := hr j hj
  unfold gd
  omega
theorem fitsrow_L {a : Nat → Int32} {K : List Int} {bd : Int} {o e : Nat} (hK : RA 256 a K) (hs : Srt K) (hr : KR K) (hb : 0 ≤ bd ∧ bd ≤ 20) (he : e ≤ K.length) : ∀ (d n k : Nat) (x4 : Int64), d < n → o + k + d + 1 = e → (0 < k → x4 = L (rng bd (gd K) o k).2.2.1) → ∃ x4', X3_fits_row_L21 (J o) (J e) (J bd) a n (J ((o + k + 1 : Nat) : Int)) (L (rng bd (gd K) o k).2.2.2) x4 (L (rng bd (gd K) o k).1) (L (rng bd (gd K) o k).2.1) = some (L (rng bd (gd K) o (k + d)).2.2.2, x4', L (rng bd (gd K) o (k + d)).1, L (rng bd (gd K) o (k + d)).2.1) ∧ (0 < k + d → x4' = L (rng bd (gd K) o (k + d)).2.2.1)
  | d, 0, k, x4, h, _, _ => absurd h (Nat.not_lt_zero d)
  | 0, n + 1, k, x4, _, hd, h4 => by
    refine ⟨x4, ?_, h4⟩
    have hl := hK.1
    rw [X3_fits_row_L21, if_pos (by rw [J_leN (by omega) (by omega)]; omega)]
    rfl
  | d + 1, n + 1, k, x4, h, hd, h4 => by
    have hl := hK.1
    have hq := rngK_ok (o := o) (k := k) hl hs hr hb (by omega)
    have hw := gd_sub hs hr (i := o) (j := o + k + 1) (by omega) (by omega)
    have hdk := rngK_d (bd := bd) (o := o) hs k (by omega)
    obtain ⟨x4', r1, r2⟩ := fitsrow_L hK hs hr hb he d n (k + 1) (L (rng bd (gd K) o (k + 1)).2.2.1) (by omega) (by omega) (fun _ => rfl)
    rw [show k + (d + 1) = k + 1 + d by omega]
    refine ⟨x4', ?_, r2⟩
    rw [← r1]
    have e1 : rng bd (gd K) o (k + 1) = stepR bd (rng bd (gd K) o k) (gd K (o + k + 1) - gd K o) (k + 1 : Nat) := rfl
    rw [e1]
    clear r1 r2 e1
    have hk0 : k = 0 → rng bd (gd K) o k = (0, 1, 1, 0) := fun q => by subst q; rfl
    generalize rng bd (gd K) o k = q at hq hdk h4 hk0 ⊢
    obtain ⟨qa, qb, qc, qd⟩ := q
    obtain ⟨h1, h2, h3, h5, h6, h7, h8, h9⟩ := hq
    dsimp only at h1 h2 h3 h5 h6 h7 h8 h9 hdk h4 ⊢
    rw [X3_fits_row_L21, if_neg (by rw [J_leN (by omega) (by omega)]; omega), if_pos (J_inN (by omega) (by omega)), if_pos (J_inN (by omega) (by omega)), J_ix (by omega), J_ix (by omega), hK.2 _ (by omega), hK.2 _ (by omega)]
    have v1 := hr (o + k + 1) (by omega)
    have v2 := hr o (by omega)
    rw [J_wide (by omega), J_wide (by omega), L_sub, J_sub, J_wide (by omega), J_wide (by omega), show (((o + k + 1 : Nat) : Int) - (o : Int)) = ((k + 1 : Nat) : Int) by omega]
    rw [show (K.getD (o + k + 1) 0 - K.getD o 0) = gd K (o + k + 1) - gd K o from rfl]
    generalize gd K (o + k + 1) - gd K o = w at hw ⊢
    simp only [bnd, stepR]
    rw [L_sub, L_add, J_succ, show o + (k + 1) + 1 = o + k + 1 + 1 by omega]
    obtain ⟨t, ht⟩ : ∃ t : Int, t = ((k + 1 : Nat) : Int) := ⟨_, rfl⟩
    rw [← ht]
    have ht2 : 1 ≤ t ∧ t ≤ 256 := by omega
    simp (disch := omega) only [L_mle, L_0, L_eq]
    rcases Nat.eq_zero_or_pos k with hk | hk
    · obtain ⟨rfl, rfl, rfl, rfl⟩ : qa = 0 ∧ qb = 1 ∧ qc = 1 ∧ qd = 0 := by simpa using hk0 hk
      simp only [Int.mul_zero, Int.one_mul, Int.zero_mul, if_true]
      rw [if_pos (show (0 : Int) < w by omega), if_pos (show (0 : Int) < w by omega)]
      by_cases c1 : (t - bd) * 1 ≤ 0
      · rw [if_pos c1, if_neg (by omega), if_neg (by omega)]
        rfl
      · rw [if_neg c1, if_pos (by omega), if_pos (by omega)]
        rfl
    · rw [h4 hk]
      simp (disch := omega) only [L_mle, L_0, L_eq]
      have hd0 : ¬ qd = 0 := by have := hdk hk; omega
      simp only [← Int.not_lt, hd0, if_false]
      by_cases c1 : qa * w < (t - bd) * qb <;> by_cases c2 : (t + bd) * qd < qc * w <;> simp only [c1, c2, not_true_eq_false, not_false_eq_true, if_true, if_false, Option.bind_some]
theorem fitsrow_J (hF : 2000 ≤ F) {a : Nat → Int32} {K : List Int} {bd : Int} {o k : Nat} (up un : Int64) (hK : RA 256 a K) (hs : Srt K) (hr : KR K) (hb : 0 ≤ bd ∧ bd ≤ 20) (he : o + k < K.length) : X3_fits_row F (J bd) a up un (J o) (J ((o + k + 1 : Nat) : Int)) = some (if fitq (rng bd (gd K) o k) then 1 else 0, L (rng bd (gd K) o k).1, L (rng bd (gd K) o k).2.1) := by
  have hl := hK.1
  have hq := rngK_ok (o := o) (k := k) hl hs hr hb he
  have hdk := rngK_d (bd := bd) (o := o) hs k he
  obtain ⟨x4', r1, r2⟩ := fitsrow_L (o := o) (e := o + k + 1) hK hs hr hb (by omega) k F 0 0 (by omega) (by omega) (fun h => absurd h (Nat.lt_irrefl 0))
  unfold X3_fits_row
  simp only [bnd]
  rw [J_succ]
  simp only [rng, Nat.zero_add, Nat.add_zero] at r1 r2
  rw [← L_0, ← L_1] at r1
  rw [r1]
  simp only [Option.bind_some]
  rcases Nat.eq_zero_or_pos k with hk | hk
  · subst hk
    rw [if_pos (by rw [L_0]; rfl), if_pos (fitR_0 bd (gd K) o)]
  · rw [r2 hk]
    have := hdk hk
    generalize rng bd (gd K) o k = q at hq this ⊢
    obtain ⟨qa, qb, qc, qd⟩ := q
    obtain ⟨h1, h2, h3, h5, h6, h7, h8, h9⟩ := hq
    dsimp only at h1 h2 h3 h5 h6 h7 h8 h9 this ⊢
    rw [if_neg (by rw [L_0, L_eq (by omega) (by omega)]; omega)]
    simp (disch := omega) only [L_mlt]
    unfold fitq
    dsimp only
    by_cases c : qc * qb < qa * qd
    · rw [if_pos c, if_neg (by omega)]
    · rw [if_neg c, if_pos (by omega)]
theorem fitsmade_L {a : Nat → Int32} {K : List Int} {bd : Int} {o e : Nat} (hK : RA 256 a K) (hs : Srt K) (hr : KR K) (hb : 0 ≤ bd ∧ bd ≤ 20) (he : e ≤ K.length) : ∀ (d n k : Nat) (x4 : Int64), d < n → o + k + d + 1 = e → (0 < k → x4 = L (rng bd (gd K) o k).2.2.1) → ∃ x4', X3_fits_made_L21 (J o) (J e) (J bd) a n (J ((o + k + 1 : Nat) : Int)) (L (rng bd (gd K) o k).2.2.2) x4 (L (rng bd (gd K) o k).1) (L (rng bd (gd K) o k).2.1) = some (L (rng bd (gd K) o (k + d)).2.2.2, x4', L (rng bd (gd K) o (k + d)).1, L (rng bd (gd K) o (k + d)).2.1) ∧ (0 < k + d → x4' = L (rng bd (gd K) o (k + d)).2.2.1)
  | d, 0, k, x4, h, _, _ => absurd h (Nat.not_lt_zero d)
  | 0, n + 1, k, x4, _, hd, h4 => by
    refine ⟨x4, ?_, h4⟩
    have hl := hK.1
    rw [X3_fits_made_L21, if_pos (by rw [J_leN (by omega) (by omega)]; omega)]
    rfl
  | d + 1, n + 1, k, x4, h, hd, h4 => by
    have hl := hK.1
    have hq := rngK_ok (o := o) (k := k) hl hs hr hb (by omega)
    have hw := gd_sub hs hr (i := o) (j := o + k + 1) (by omega) (by omega)
    have hdk := rngK_d (bd := bd) (o := o) hs k (by omega)
    obtain ⟨x4', r1, r2⟩ := fitsmade_L hK hs hr hb he d n (k + 1) (L (rng bd (gd K) o (k + 1)).2.2.1) (by omega) (by omega) (fun _ => rfl)
    rw [show k + (d + 1) = k + 1 + d by omega]
    refine ⟨x4', ?_, r2⟩
    rw [← r1]
    have e1 : rng bd (gd K) o (k + 1) = stepR bd (rng bd (gd K) o k) (gd K (o + k + 1) - gd K o) (k + 1 : Nat) := rfl
    rw [e1]
    clear r1 r2 e1
    have hk0 : k = 0 → rng bd (gd K) o k = (0, 1, 1, 0) := fun q => by subst q; rfl
    generalize rng bd (gd K) o k = q at hq hdk h4 hk0 ⊢
    obtain ⟨qa, qb, qc, qd⟩ := q
    obtain ⟨h1, h2, h3, h5, h6, h7, h8, h9⟩ := hq
    dsimp only at h1 h2 h3 h5 h6 h7 h8 h9 hdk h4 ⊢
    rw [X3_fits_made_L21, if_neg (by rw [J_leN (by omega) (by omega)]; omega), if_pos (J_inN (by omega) (by omega)), if_pos (J_inN (by omega) (by omega)), J_ix (by omega), J_ix (by omega), hK.2 _ (by omega), hK.2 _ (by omega)]
    have v1 := hr (o + k + 1) (by omega)
    have v2 := hr o (by omega)
    rw [J_wide (by omega), J_wide (by omega), L_sub, J_sub, J_wide (by omega), J_wide (by omega), show (((o + k + 1 : Nat) : Int) - (o : Int)) = ((k + 1 : Nat) : Int) by omega]
    rw [show (K.getD (o + k + 1) 0 - K.getD o 0) = gd K (o + k + 1) - gd K o from rfl]
    generalize gd K (o + k + 1) - gd K o = w at hw ⊢
    simp only [bnd, stepR]
    rw [L_sub, L_add, J_succ, show o + (k + 1) + 1 = o + k + 1 + 1 by omega]
    obtain ⟨t, ht⟩ : ∃ t : Int, t = ((k + 1 : Nat) : Int) := ⟨_, rfl⟩
    rw [← ht]
    have ht2 : 1 ≤ t ∧ t ≤ 256 := by omega
    simp (disch := omega) only [L_mle, L_0, L_eq]
    rcases Nat.eq_zero_or_pos k with hk | hk
    · obtain ⟨rfl, rfl, rfl, rfl⟩ : qa = 0 ∧ qb = 1 ∧ qc = 1 ∧ qd = 0 := by simpa using hk0 hk
      simp only [Int.mul_zero, Int.one_mul, Int.zero_mul, if_true]
      rw [if_pos (show (0 : Int) < w by omega), if_pos (show (0 : Int) < w by omega)]
      by_cases c1 : (t - bd) * 1 ≤ 0
      · rw [if_pos c1, if_neg (by omega), if_neg (by omega)]
        rfl
      · rw [if_neg c1, if_pos (by omega), if_pos (by omega)]
        rfl
    · rw [h4 hk]
      simp (disch := omega) only [L_mle, L_0, L_eq]
      have hd0 : ¬ qd = 0 := by have := hdk hk; omega
      simp only [← Int.not_lt, hd0, if_false]
      by_cases c1 : qa * w < (t - bd) * qb <;> by_cases c2 : (t + bd) * qd < qc * w <;> simp only [c1, c2, not_true_eq_false, not_false_eq_true, if_true, if_false, Option.bind_some]
theorem fitsmade_J (hF : 2000 ≤ F) {a : Nat → Int32} {K : List Int} {bd : Int} {o k : Nat} (up un : Int64) (hK : RA 256 a K) (hs : Srt K) (hr : KR K) (hb : 0 ≤ bd ∧ bd ≤ 20) (he : o + k < K.length) : X3_fits_made F (J bd) a up un (J o) (J ((o + k + 1 : Nat) : Int)) = some (if fitq (rng bd (gd K) o k) then 1 else 0, L (rng bd (gd K) o k).1, L (rng bd (gd K) o k).2.1) := by
  have hl := hK.1
  have hq := rngK_ok (o := o) (k := k) hl hs hr hb he
  have hdk := rngK_d (bd := bd) (o := o) hs k he
  obtain ⟨x4', r1, r2⟩ := fitsmade_L (o := o) (e := o + k + 1) hK hs hr hb (by omega) k F 0 0 (by omega) (by omega) (fun h => absurd h (Nat.lt_irrefl 0))
  unfold X3_fits_made
  simp only [bnd]
  rw [J_succ]
  simp only [rng, Nat.zero_add, Nat.add_zero] at r1 r2
  rw [← L_0, ← L_1] at r1
  rw [r1]
  simp only [Option.bind_some]
  rcases Nat.eq_zero_or_pos k with hk | hk
  · subst hk
    rw [if_pos (by rw [L_0]; rfl), if_pos (fitR_0 bd (gd K) o)]
  · rw [r2 hk]
    have := hdk hk
    generalize rng bd (gd K) o k = q at hq this ⊢
    obtain ⟨qa, qb, qc, qd⟩ := q
    obtain ⟨h1, h2, h3, h5, h6, h7, h8, h9⟩ := hq
    dsimp only at h1 h2 h3 h5 h6 h7 h8 h9 this ⊢
    rw [if_neg (by rw [L_0, L_eq (by omega) (by omega)]; omega)]
    simp (disch := omega) only [L_mlt]
    unfold fitq
    dsimp only
    by_cases c : qc * qb < qa * qd
    · rw [if_pos c, if_neg (by omega)]
    · rw [if_neg c, if_pos (by omega)]

/-- Euclid's steps of the reference -/
theorem com_L : ∀ (m n a b : Nat), 2 * m + 1 < n → b < 2 ^ m → a < 4000000 → b < 4000000 → X3_common_L6 n (L b) (L a) = some (L (Nat.gcd a b)) := by
  have one : ∀ (n a b : Nat), 0 < b → a < 4000000 → b < 4000000 → X3_common_L6 (n + 1) (L b) (L a) = X3_common_L6 n (L (a % b : Nat)) (L b) := by
    intro n a b h2 h3 h4
    rw [X3_common_L6, L_0, if_neg (by rw [L_le (by omega) (by omega)]; omega), if_pos (by rw [L_eq (by omega) (by omega)]; omega)]
    simp only [bnd]
    rw [L_div (by omega) (by omega), L_mul, L_sub]
    have e : ((a : Int) - (a : Int) / b * b) = ((a % b : Nat) : Int) := by
      rw [Int.natCast_emod, Int.emod_def, Int.mul_comm]
    rw [e]
  have zero : ∀ (n a : Nat), X3_common_L6 (n + 1) (L (0 : Nat)) (L a) = some (L a) := by
    intro n a
    rw [X3_common_L6, L_0, if_pos (by exact Int64.le_refl _)]
  intro m
  induction m with
  | zero =>
    intro n a b h1 h3 h4 h5
    obtain ⟨n', rfl⟩ : ∃ n', n = n' + 1 := ⟨n - 1, by omega⟩
    have : b = 0 := by simp at h3; omega
    subst this
    rw [zero n' a, Nat.gcd_zero_right]
  | succ m ih =>
    intro n a b h1 h3 h4 h5
    obtain ⟨n', rfl⟩ : ∃ n', n = n' + 2 := ⟨n - 2, by omega⟩
    rcases Nat.eq_zero_or_pos b with hb | hb
    · subst hb
      rw [zero (n' + 1) a, Nat.gcd_zero_right]
    · rw [one (n' + 1) a b hb h4 h5]
      have hr := Nat.mod_lt a hb
      rcases Nat.eq_zero_or_pos (a % b) with hc | hc
      · rw [hc, zero n' b, Nat.gcd_comm a b, Nat.gcd_rec, hc, Nat.gcd_zero_left]
      · rw [one n' b (a % b) hc h5 (by omega)]
        have hr2 := Nat.mod_lt b hc
        have hr3 : 2 * (b % (a % b)) < b := by
          have h8 := Nat.mod_add_div b (a % b)
          have h9 : 1 ≤ b / (a % b) := (Nat.le_div_iff_mul_le hc).mpr (by omega)
          have h10 : (a % b) * 1 ≤ (a % b) * (b / (a % b)) := Nat.mul_le_mul_left _ h9
          omega
        rw [ih n' (a % b) (b % (a % b)) (by omega) (by rw [Nat.pow_succ] at h3; omega) (by omega) (by omega)]
        rw [show Nat.gcd a b = Nat.gcd (a % b) (b % (a % b)) from (Nat.gcd_comm a b).trans ((Nat.gcd_rec b a).trans ((Nat.gcd_rec (a % b) b).trans (Nat.gcd_comm _ _)))]
theorem common_J (hF : 2000 ≤ F) {q : qR} (hq : okq q) : X3_common F (L q.1) (L q.2.1) = some (L (gq q)) := by
  obtain ⟨h1, h2, h3, h4, h5, h6, h7, h8⟩ := hq
  unfold X3_common
  have := com_L 21 F q.1.toNat q.2.1.toNat (by omega) (by omega) (by omega) (by omega)
  rw [show ((q.1.toNat : Nat) : Int) = q.1 by omega, show ((q.2.1.toNat : Nat) : Int) = q.2.1 by omega] at this
  rw [this]
  unfold gq
  rw [Nat.gcd_comm]
  rfl
/-- the last key's place of a piece, plus one -/
def endS (S : List Int) (n : Nat) (i : Nat) : Nat := if i + 1 < S.length then (S.getD (i + 1) 0).toNat else n
/-- pieces: where they start, in a row of n keys -/
def SOK (S : List Int) (n : Nat) : Prop := Srt S ∧ (∀ i, i < S.length → 0 ≤ S.getD i 0 ∧ S.getD i 0 < n) ∧ (0 < S.length → S.getD 0 0 = 0) ∧ (0 < n → 0 < S.length)
theorem SOK_lt {S : List Int} {n i : Nat} (h : SOK S n) (hi : i < S.length) : (S.getD i 0).toNat < endS S n i ∧ endS S n i ≤ n := by
  obtain ⟨h1, h2, h3, h4⟩ := h
  unfold endS
  have h5 := h2 i hi
  split
  · rename_i h6
    have h7 := h1 i (i + 1) (by omega) h6
    have h8 := h2 (i + 1) h6
    omega
  · omega
/-- the slope of a piece -/
def slp (bd : Int) (K S : List Int) (i : Nat) : qR := rng bd (gd K) (S.getD i 0).toNat (endS S K.length i - 1 - (S.getD i 0).toNat)
theorem slp_ok {K S : List Int} {bd : Int} {i : Nat} (hl : K.length ≤ 256) (hs : Srt K) (hr : KR K) (hb : 0 ≤ bd ∧ bd ≤ 20) (h : SOK S K.length) (hi : i < S.length) : okq (slp bd K S i) := by
  have := SOK_lt h hi
  exact rngK_ok hl hs hr hb (by omega)
theorem behind_J {S : List Int} {n i : Nat} {st : Nat → Int32} (hS : RA 257 st S) (h : SOK S n) (hn : n ≤ 256) (hi : i < S.length) : X3_behind F (J n) st (J S.length) (J i) = some (J (endS S n i)) := by
  have := hS.1
  unfold X3_behind endS
  rw [J_succ]
  by_cases c : i + 1 < S.length
  · rw [if_neg (by rw [J_leN (by omega) (by omega)]; omega), if_pos (J_inN (by omega) (by omega)), J_ix (by omega), hS.2 _ c, if_pos c]
    have := h.2.1 _ c
    congr 2
    omega
  · rw [if_pos (by rw [J_leN (by omega) (by omega)]; omega), if_neg c]
theorem lays_J (hF : 2000 ≤ F) {K S : List Int} {bd : Int} {i : Nat} {row st : Nat → Int32} (up un : Int64) (hK : RA 256 row K) (hs : Srt K) (hr : KR K) (hb : 0 ≤ bd ∧ bd ≤ 20) (hS : RA 257 st S) (h : SOK S K.length) (hi : i < S.length) : X3_lays F (J bd) row (J K.length) st (J S.length) up un (J i) = some (L (redq (slp bd K S i)).1, L (redq (slp bd K S i)).2) := by
  have h1 := SOK_lt h hi
  have h2 := hS.1
  have h3 := h.2.1 i hi
  have hl := hK.1
  have hq := slp_ok hl hs hr hb h hi
  have hg := gq_pos hq
  have hg2 := gq_le hq
  unfold X3_lays
  rw [if_pos (J_inN (by omega) (by omega)), behind_J hS h hl hi]
  simp only [Option.bind_some]
  rw [J_ix (by omega), hS.2 _ hi]
  have e := fitsrow_J hF (o := (S.getD i 0).toNat) (k := endS S K.length i - 1 - (S.getD i 0).toNat) up un hK hs hr hb (by omega)
  rw [show (((S.getD i 0).toNat : Nat) : Int) = S.getD i 0 by omega, show (S.getD i 0).toNat + (endS S K.length i - 1 - (S.getD i 0).toNat) + 1 = endS S K.length i by omega] at e
  rw [e]
  simp only [Option.bind_some]
  rw [show rng bd (gd K) (S.getD i 0).toNat (endS S K.length i - 1 - (S.getD i 0).toNat) = slp bd K S i from rfl]
  rw [common_J hF hq]
  simp only [Option.bind_some]
  rw [if_pos (by rw [L_0, L_eq (by omega) (by omega)]; omega), if_pos (by rw [L_0, L_eq (by omega) (by omega)]; omega)]
  obtain ⟨q1, q2, q3, q4, -⟩ := hq
  rw [L_div (by omega) (by omega), L_div (by omega) (by omega)]
  rfl
end MREF
