/-! keys that fit one piece -/
section MREF
variable {F : Nat}
theorem J_leN {a b : Nat} (ha : a < 2147483648) (hb : b < 2147483648) : J (a : Int) ≤ J (b : Int) ↔ a ≤ b := by
  rw [J_le (by omega) (by omega)]
  omega
theorem J_ltN {a b : Nat} (ha : a < 2147483648) (hb : b < 2147483648) : J (a : Int) < J (b : Int) ↔ a < b := by
  rw [J_lt (by omega) (by omega)]
  omega
theorem J_eqN {a b : Nat} (ha : a < 2147483648) (hb : b < 2147483648) : J (a : Int) = J (b : Int) ↔ a = b := by
  rw [J_eq (by omega) (by omega)]
  omega
theorem J_ix {i : Nat} (h : i < 2147483648) : Int32.toNatClampNeg (J (i : Int)) = i := by
  rw [J_cl (by omega)]
  omega
theorem J_inN {i N : Nat} (h : i < N) (hN : N ≤ 1000) : ¬ (J (i : Int) < 0 ∨ N ≤ Int32.toNatClampNeg (J (i : Int))) := J_in (by omega) (by omega)
theorem J_succ (i : Nat) : J (i : Int) + 1 = J ((i + 1 : Nat) : Int) := by
  rw [J_1, J_add]
  congr 1
theorem J_pred {i : Nat} (h : 0 < i) : J (i : Int) - 1 = J ((i - 1 : Nat) : Int) := by
  rw [J_1, J_sub]
  congr 1
  omega
def RA (N : Nat) (a : Nat → Int32) (l : List Int) : Prop := l.length ≤ N ∧ ∀ i, i < l.length → a i = J (l.getD i 0)
def KR (l : List Int) : Prop := ∀ i, i < l.length → -1000000 ≤ l.getD i 0 ∧ l.getD i 0 ≤ 1000000
def gd (l : List Int) (i : Nat) : Int := l.getD i 0
theorem rngK_ok {K : List Int} {bd : Int} {o k : Nat} (hl : K.length ≤ 256) (hs : Srt K) (hr : KR K) (hb : 0 ≤ bd ∧ bd ≤ 20) (h : o + k < K.length) : okq (rng bd (gd K) o k) :=
  rng_ok hb (fun i j _ h1 h2 => hs i j h1 h2) (fun i _ h1 => hr i h1) hl k h
theorem rngK_d {K : List Int} {bd : Int} {o : Nat} (hs : Srt K) : ∀ k, o + k < K.length → 0 < k → 1 ≤ (rng bd (gd K) o k).2.2.2
  | 0, _, h => absurd h (Nat.lt_irrefl 0)
  | k + 1, h, _ => by
    have hw := hs o (o + k + 1) (by omega) (by omega)
    have ih := rngK_d (bd := bd) (o := o) hs k (by omega)
    rw [rng, stepR]
    dsimp only
    split
    · unfold gd
      omega
    · rename_i hc
      rcases Nat.eq_zero_or_pos k with q | q
      · subst q
        exfalso
        apply hc
        simp only [rng, gd, Int.mul_zero, Int.one_mul]
        omega
      · exact ih q
theorem gd_sub {K : List Int} (hs : Srt K) (hr : KR K) {i j : Nat} (h : i < j) (hj : j < K.length) : 1 ≤ gd K j - gd K i ∧ gd K j - gd K i ≤ 2000000 := by
  have h1 := hs i j h hj
  have h2 := hr i (by omega)
  have h3 := hr j hj
  unfold gd
  omega
/-- the last key's place of a piece, plus one -/
def endS (S : List Int) (n : Nat) (i : Nat) : Nat := if i + 1 < S.length then (S.getD (i + 1) 0).toNat else n
/-- pieces: where they start, in a row of n keys -/
def SOK (S : List Int) (n : Nat) : Prop := Srt S ∧ (∀ i, i < S.length → 0 ≤ S.getD i 0 ∧ S.getD i 0 < n) ∧ (0 < S.length → S.getD 0 0 = 0) ∧ (0 < n → 0 < S.length)
theorem SOK_lt {S : List Int} {n i : Nat} (h : SOK S n) (hi : i < S.length) : (S.getD i 0).toNat < endS S n i ∧ endS S n i ≤ n := by
  obtain ⟨h1, h2, h3, h4⟩ := h
  unfold endS
  have h5 := h2 i hi
  split
  · rename_i h6
    have h7 := h1 i (i + 1) (by omega) h6
    have h8 := h2 (i + 1) h6
    omega
  · omega
/-- the slope of a piece -/
def slp (bd : Int) (K S : List Int) (i : Nat) : qR := rng bd (gd K) (S.getD i 0).toNat (endS S K.length i - 1 - (S.getD i 0).toNat)
theorem slp_ok {K S : List Int} {bd : Int} {i : Nat} (hl : K.length ≤ 256) (hs : Srt K) (hr : KR K) (hb : 0 ≤ bd ∧ bd ≤ 20) (h : SOK S K.length) (hi : i < S.length) : okq (slp bd K S i) := by
  have := SOK_lt h hi
  exact rngK_ok hl hs hr hb (by omega)
end MREF
