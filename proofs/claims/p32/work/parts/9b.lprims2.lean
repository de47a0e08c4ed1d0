/-! the law's tests, steepest keys, guesses and cuts -/
section LPS
variable {F : Nat}
theorem RA_len {N : Nat} {a : Nat → Int32} {l : List Int} (h : RA N a l) : l.length ≤ N := h.1
theorem lfits_B {v : Nat → Int32} {K : List Int} {bd : Int} {o e a : Nat} (hK : RA 64 v K) (hr : KR K) (hb : 0 ≤ bd ∧ bd ≤ 20) (he : e ≤ K.length) (ha : o ≤ a ∧ a < e) : ∀ (d m b : Nat), d < m → b + d = e → o ≤ b →
    ((∀ t, b ≤ t → t < e → ((a : Int) - o - bd) * (gd K t - gd K o) ≤ ((t : Int) - o + bd) * (gd K a - gd K o)) → L_fits_L16 (J o) (J e) (J bd) v 64 (J a) m (J b) = some (Sum.inr ())) ∧
    (¬ (∀ t, b ≤ t → t < e → ((a : Int) - o - bd) * (gd K t - gd K o) ≤ ((t : Int) - o + bd) * (gd K a - gd K o)) → L_fits_L16 (J o) (J e) (J bd) v 64 (J a) m (J b) = some (Sum.inl 0))
  | d, 0, b, h, _, _ => absurd h (Nat.not_lt_zero d)
  | 0, m + 1, b, _, hd, hob => by
    have hl := hK.1
    have e1 : L_fits_L16 (J o) (J e) (J bd) v 64 (J a) (m + 1) (J b) = some (Sum.inr ()) := by
      rw [L_fits_L16, if_pos (by rw [J_leN (by omega) (by omega)]; omega)]
    exact ⟨fun _ => e1, fun q => absurd (fun t h1 h2 => by omega) q⟩
  | d + 1, m + 1, b, hm, hd, hob => by
    have hl := hK.1
    obtain ⟨i1, i2⟩ := lfits_B hK hr hb he ha d m (b + 1) (by omega) (by omega) (by omega)
    have v1 := hr o (by omega)
    have v2 := hr a (by omega)
    have v3 := hr b (by omega)
    have st : L_fits_L16 (J o) (J e) (J bd) v 64 (J a) (m + 1) (J b) = if ((a : Int) - o - bd) * (gd K b - gd K o) ≤ ((b : Int) - o + bd) * (gd K a - gd K o) then L_fits_L16 (J o) (J e) (J bd) v 64 (J a) m (J (b + 1 : Nat)) else some (Sum.inl 0) := by
      rw [L_fits_L16, if_neg (by rw [J_leN (by omega) (by omega)]; omega), if_pos (J_inN (by omega) (by omega)), if_pos (J_inN (by omega) (by omega)), if_pos (J_inN (by omega) (by omega)), if_pos (J_inN (by omega) (by omega)), J_ix (by omega), J_ix (by omega), J_ix (by omega), hK.2 _ (by omega), hK.2 _ (by omega), hK.2 _ (by omega)]
      simp only [bnd, J_sub, J_add]
      rw [J_wide (by omega), J_wide (by omega), J_wide (by omega), J_wide (by omega), J_succ]
      unfold gd
      by_cases c : ((a : Int) - o - bd) * (K.getD b 0 - K.getD o 0) ≤ ((b : Int) - o + bd) * (K.getD a 0 - K.getD o 0)
      · rw [if_pos c, if_pos ((L_mle (by omega) (by omega) (by omega) (by omega)).mpr c)]
      · rw [if_neg c, if_neg (fun q => c ((L_mle (by omega) (by omega) (by omega) (by omega)).mp q))]
    rw [st]
    by_cases c : ((a : Int) - o - bd) * (gd K b - gd K o) ≤ ((b : Int) - o + bd) * (gd K a - gd K o)
    · rw [if_pos c]
      refine ⟨fun q => i1 (fun t h1 h2 => q t (by omega) h2), fun q => i2 (fun q2 => q (fun t h1 h2 => ?_))⟩
      rcases Nat.lt_or_ge b t with h3 | h3
      · exact q2 t h3 h2
      · rw [show t = b by omega]
        exact c
    · rw [if_neg c]
      exact ⟨fun q => absurd (q b (Nat.le_refl _) (by omega)) c, fun _ => rfl⟩
theorem lfits_A (hF : 2000 ≤ F) {v : Nat → Int32} {K : List Int} {bd : Int} {o e : Nat} (hK : RA 64 v K) (hr : KR K) (hb : 0 ≤ bd ∧ bd ≤ 20) (he : e ≤ K.length) (ho : o < e) : ∀ (d m a : Nat), d < m → a + d = e → o < a →
    ((∀ s t, a ≤ s → s < e → o < t → t < e → ((s : Int) - o - bd) * (gd K t - gd K o) ≤ ((t : Int) - o + bd) * (gd K s - gd K o)) → L_fits_L5 (J o) (J e) (J bd) v 64 F m (J a) = some (Sum.inr ())) ∧
    (¬ (∀ s t, a ≤ s → s < e → o < t → t < e → ((s : Int) - o - bd) * (gd K t - gd K o) ≤ ((t : Int) - o + bd) * (gd K s - gd K o)) → L_fits_L5 (J o) (J e) (J bd) v 64 F m (J a) = some (Sum.inl 0))
  | d, 0, a, h, _, _ => absurd h (Nat.not_lt_zero d)
  | 0, m + 1, a, _, hd, hoa => by
    have hl := hK.1
    have e1 : L_fits_L5 (J o) (J e) (J bd) v 64 F (m + 1) (J a) = some (Sum.inr ()) := by
      rw [L_fits_L5, if_pos (by rw [J_leN (by omega) (by omega)]; omega)]
    exact ⟨fun _ => e1, fun q => absurd (fun s t h1 h2 => by omega) q⟩
  | d + 1, m + 1, a, hm, hd, hoa => by
    have hl := hK.1
    obtain ⟨i1, i2⟩ := lfits_A hF hK hr hb he ho d m (a + 1) (by omega) (by omega) (by omega)
    obtain ⟨j1, j2⟩ := lfits_B (a := a) (o := o) (e := e) hK hr hb he ⟨by omega, by omega⟩ (e - (o + 1)) F (o + 1) (by omega) (by omega) (by omega)
    rw [L_fits_L5, if_neg (by rw [J_leN (by omega) (by omega)]; omega)]
    simp only [bnd]
    rw [J_succ, J_succ]
    by_cases c : ∀ t, o + 1 ≤ t → t < e → ((a : Int) - o - bd) * (gd K t - gd K o) ≤ ((t : Int) - o + bd) * (gd K a - gd K o)
    · rw [j1 c]
      simp only [Option.bind_some]
      refine ⟨fun q => i1 (fun s t h1 h2 h3 h4 => q s t (by omega) h2 h3 h4), fun q => i2 (fun q2 => q (fun s t h1 h2 h3 h4 => ?_))⟩
      rcases Nat.lt_or_ge a s with h5 | h5
      · exact q2 s t h5 h2 h3 h4
      · rw [show s = a by omega]
        exact c t h3 h4
    · rw [j2 c]
      simp only [Option.bind_some]
      exact ⟨fun q => absurd (fun t h1 h2 => q a t (Nat.le_refl _) (by omega) h1 h2) c, fun _ => trivial⟩
theorem PA_abs {K : List Int} {bd : Int} {o e : Nat} (ho : o < e) : PA bd (gd K) o (e - 1 - o) ↔ ∀ s t : Nat, o + 1 ≤ s → s < e → o < t → t < e → ((s : Int) - o - bd) * (gd K t - gd K o) ≤ ((t : Int) - o + bd) * (gd K s - gd K o) := by
  unfold PA wf
  constructor
  · intro h s t h1 h2 h3 h4
    have := h (s - o) (t - o) (by omega) (by omega) (by omega) (by omega)
    rw [show o + (t - o) = t by omega, show o + (s - o) = s by omega, show (((s - o : Nat) : Int)) = (s : Int) - o by omega, show (((t - o : Nat) : Int)) = (t : Int) - o by omega] at this
    exact this
  · intro h a b h1 h2 h3 h4
    have := h (o + a) (o + b) (by omega) (by omega) (by omega) (by omega)
    rw [show (((o + a : Nat) : Int)) - o = (a : Int) by omega, show (((o + b : Nat) : Int)) - o = (b : Int) by omega] at this
    exact this
theorem lfits_J (hF : 2000 ≤ F) {v : Nat → Int32} {K : List Int} {bd : Int} {o e : Nat} (hK : RA 64 v K) (hs : Srt K) (hr : KR K) (hb : 0 ≤ bd ∧ bd ≤ 20) (ho : o < e) (he : e ≤ K.length) : L_fits F 64 v (J o) (J e) (J bd) = some (if fitq (rng bd (gd K) o (e - 1 - o)) then 1 else 0) := by
  have hl := hK.1
  obtain ⟨i1, i2⟩ := lfits_A hF hK hr hb he ho (e - (o + 1)) F (o + 1) (by omega) (by omega) (by omega)
  have hp := fit_pairs (bd := bd) (f := gd K) (o := o) (k := e - 1 - o) hb.1 (wf_gd hs (by omega))
  rw [PA_abs ho] at hp
  unfold L_fits
  simp only [bnd]
  rw [J_succ]
  by_cases c : fitq (rng bd (gd K) o (e - 1 - o))
  · rw [if_pos c, i1 (hp.mp c)]
    rfl
  · rw [if_neg c, i2 (fun q => c (hp.mpr q))]
    rfl
/-- the key that asks for the least possible slope -/
def SP (K : List Int) (bd : Int) (o k b : Nat) : Prop := o ≤ b ∧ b ≤ o + k ∧ ((b = o ∧ (rng bd (gd K) o k).1 = 0 ∧ (rng bd (gd K) o k).2.1 = 1) ∨ (o < b ∧ (rng bd (gd K) o k).1 = (b : Int) - o - bd ∧ 0 < (rng bd (gd K) o k).1 ∧ (rng bd (gd K) o k).2.1 = gd K b - gd K o))
theorem lst_L {v : Nat → Int32} {K : List Int} {bd : Int} {o e : Nat} (hK : RA 64 v K) (hs : Srt K) (hr : KR K) (hb : 0 ≤ bd ∧ bd ≤ 20) (he : e ≤ K.length) : ∀ (d m a b : Nat), d < m → a + d = e → o < a → SP K bd o (a - 1 - o) b → ∃ b', L_steepest_L8 (J o) (J e) (J bd) v 64 m (J a) (J b) = some (J (b' : Nat)) ∧ SP K bd o (e - 1 - o) b'
  | d, 0, a, b, h, _, _, _ => absurd h (Nat.not_lt_zero d)
  | 0, m + 1, a, b, _, hd, hoa, hp => by
    have hl := hK.1
    refine ⟨b, ?_, ?_⟩
    · rw [L_steepest_L8, if_pos (by rw [J_leN (by omega) (by omega)]; omega)]
    · rw [show e = a by omega]
      exact hp
  | d + 1, m + 1, a, b, hm, hd, hoa, hp => by
    have hl := hK.1
    obtain ⟨p1, p2, p3⟩ := hp
    have v1 := hr o (by omega)
    have v2 := hr a (by omega)
    have v3 := hr b (by omega)
    have w1 := gd_sub hs hr (i := o) (j := a) hoa (by omega)
    have hq := rngK_ok (K := K) (bd := bd) (o := o) (k := a - 1 - o) (by omega) hs hr hb (by omega)
    have e0 : rng bd (gd K) o (a + 1 - 1 - o) = stepR bd (rng bd (gd K) o (a - 1 - o)) (gd K a - gd K o) ((a : Int) - o) := by
      rw [show a + 1 - 1 - o = (a - 1 - o) + 1 by omega, rng, show o + (a - 1 - o) + 1 = a by omega]
      congr 1
      omega
    -- the choice
    have key : ∀ c' : Nat, SP K bd o (a + 1 - 1 - o) c' → L_steepest_L8 (J o) (J e) (J bd) v 64 (m + 1) (J a) (J b) = L_steepest_L8 (J o) (J e) (J bd) v 64 m (J (a + 1 : Nat)) (J (c' : Nat)) → ∃ b', L_steepest_L8 (J o) (J e) (J bd) v 64 (m + 1) (J a) (J b) = some (J (b' : Nat)) ∧ SP K bd o (e - 1 - o) b' := by
      intro c' h1 h2
      obtain ⟨b', r1, r2⟩ := lst_L hK hs hr hb he d m (a + 1) c' (by omega) (by omega) (by omega) h1
      exact ⟨b', by rw [h2, r1], r2⟩
    have hx6 : Int32.toInt64 ((J (a : Int) - J (o : Int)) - J bd) = L ((a : Int) - o - bd) := by
      rw [J_sub, J_sub, J_wide (by omega)]
    have u0 : ∀ X Y : Option Int32, (if (0 : Int64) < L ((a : Int) - o - bd) then X else Y) = if 0 < (a : Int) - o - bd then X else Y := by
      intro X Y
      simp (disch := omega) only [L_0, L_lt]
    generalize hqe : rng bd (gd K) o (a - 1 - o) = q at *
    obtain ⟨qa, qb, qc, qd⟩ := q
    obtain ⟨h1, h2, h3, h4, -⟩ := hq
    dsimp only at h1 h2 h3 h4 p3
    by_cases up : 0 < (a : Int) - o - bd
    · rcases p3 with ⟨s1, s2, s3⟩ | ⟨s1, s2, s3, s4⟩
      · refine key a ⟨by omega, by omega, Or.inr ⟨hoa, ?_⟩⟩ ?_
        · rw [e0]
          unfold stepR
          dsimp only
          rw [if_pos (by rw [s2, s3, Int.zero_mul, Int.mul_one]; exact up), if_pos (by rw [s2, s3, Int.zero_mul, Int.mul_one]; exact up)]
          exact ⟨rfl, up, rfl⟩
        · rw [L_steepest_L8, if_neg (by rw [J_leN (by omega) (by omega)]; omega)]
          simp only [bnd]
          rw [hx6, u0, if_pos up, if_pos (by rw [s1]), J_succ]
      · by_cases c : qa * (gd K a - gd K o) < ((a : Int) - o - bd) * qb
        · refine key a ⟨by omega, by omega, Or.inr ⟨hoa, ?_⟩⟩ ?_
          · rw [e0]
            unfold stepR
            dsimp only
            rw [if_pos c, if_pos c]
            exact ⟨rfl, up, rfl⟩
          · rw [L_steepest_L8, if_neg (by rw [J_leN (by omega) (by omega)]; omega)]
            simp only [bnd]
            rw [hx6, u0, if_pos up, if_neg (by rw [J_eqN (by omega) (by omega)]; omega), if_pos (J_inN (by omega) (by omega)), if_pos (J_inN (by omega) (by omega)), if_pos (J_inN (by omega) (by omega)), if_pos (J_inN (by omega) (by omega)), J_ix (by omega), J_ix (by omega), J_ix (by omega), hK.2 _ (by omega), hK.2 _ (by omega), hK.2 _ (by omega)]
            simp only [J_sub]
            rw [J_wide (by omega), J_wide (by omega), J_wide (by omega)]
            rw [s2, s4] at c
            unfold gd at c
            rw [if_neg (by rw [L_mle (by omega) (by omega) (by omega) (by omega)]; omega), J_succ]
        · refine key b ⟨by omega, by omega, Or.inr ⟨s1, ?_⟩⟩ ?_
          · rw [e0]
            unfold stepR
            dsimp only
            rw [if_neg c, if_neg c]
            exact ⟨s2, s3, s4⟩
          · rw [L_steepest_L8, if_neg (by rw [J_leN (by omega) (by omega)]; omega)]
            simp only [bnd]
            rw [hx6, u0, if_pos up, if_neg (by rw [J_eqN (by omega) (by omega)]; omega), if_pos (J_inN (by omega) (by omega)), if_pos (J_inN (by omega) (by omega)), if_pos (J_inN (by omega) (by omega)), if_pos (J_inN (by omega) (by omega)), J_ix (by omega), J_ix (by omega), J_ix (by omega), hK.2 _ (by omega), hK.2 _ (by omega), hK.2 _ (by omega)]
            simp only [J_sub]
            rw [J_wide (by omega), J_wide (by omega), J_wide (by omega)]
            rw [s2, s4] at c
            unfold gd at c
            rw [if_pos (by rw [L_mle (by omega) (by omega) (by omega) (by omega)]; omega), J_succ]
    · have hn : ¬ qa * (gd K a - gd K o) < ((a : Int) - o - bd) * qb := by
        have y1 : 0 ≤ qa * (gd K a - gd K o) := Int.mul_nonneg h1 (by omega)
        have y2 := Int.mul_nonpos_of_nonpos_of_nonneg (show (a : Int) - o - bd ≤ 0 by omega) (show 0 ≤ qb by omega)
        omega
      refine key b ⟨by omega, by omega, ?_⟩ ?_
      · rw [e0]
        unfold stepR
        dsimp only
        rw [if_neg hn, if_neg hn]
        exact p3
      · rw [L_steepest_L8, if_neg (by rw [J_leN (by omega) (by omega)]; omega)]
        simp only [bnd]
        rw [hx6, u0, if_neg up, J_succ]
theorem lsteep_J (hF : 2000 ≤ F) {v : Nat → Int32} {K : List Int} {bd : Int} {o e : Nat} (hK : RA 64 v K) (hs : Srt K) (hr : KR K) (hb : 0 ≤ bd ∧ bd ≤ 20) (ho : o < e) (he : e ≤ K.length) : ∃ b : Nat, L_steepest F 64 v (J o) (J e) (J bd) = some (J b) ∧ SP K bd o (e - 1 - o) b := by
  have hl := hK.1
  obtain ⟨b, r1, r2⟩ := lst_L hK hs hr hb he (e - (o + 1)) F (o + 1) o (by omega) (by omega) (by omega) ⟨Nat.le_refl _, by omega, Or.inl ⟨rfl, by rw [show o + 1 - 1 - o = 0 by omega]; rfl, by rw [show o + 1 - 1 - o = 0 by omega]; rfl⟩⟩
  refine ⟨b, ?_, r2⟩
  unfold L_steepest
  simp only [bnd]
  rw [J_succ, r1]
  rfl
/-- a slope in lowest terms and as it stands give the same guess -/
theorem redq_div {q : qR} (hq : okq q) {w : Int} : (redq q).1 * w / (redq q).2 = q.1 * w / q.2.1 := by
  have hg := gq_pos hq
  have d1 : ((gq q : Nat) : Int) ∣ q.1 := by
    have h1 : (gq q) ∣ q.1.toNat := Nat.gcd_dvd_right _ _
    have h2 : ((gq q : Nat) : Int) ∣ ((q.1.toNat : Nat) : Int) := Int.natCast_dvd_natCast.mpr h1
    rwa [show ((q.1.toNat : Nat) : Int) = q.1 by have := hq.1; omega] at h2
  have d2 : ((gq q : Nat) : Int) ∣ q.2.1 := by
    have h1 : (gq q) ∣ q.2.1.toNat := Nat.gcd_dvd_left _ _
    have h2 : ((gq q : Nat) : Int) ∣ ((q.2.1.toNat : Nat) : Int) := Int.natCast_dvd_natCast.mpr h1
    rwa [show ((q.2.1.toNat : Nat) : Int) = q.2.1 by have := hq.2.2.1; omega] at h2
  obtain ⟨a, ha⟩ := d1
  obtain ⟨b, hb⟩ := d2
  unfold redq
  dsimp only
  rw [ha, hb, Int.mul_ediv_cancel_left a (by omega), Int.mul_ediv_cancel_left b (by omega), Int.mul_assoc]
  exact (Int.mul_ediv_mul_of_pos (a * w) b (by omega)).symm
theorem lguess_J (hF : 2000 ≤ F) {K M B S : List Int} {bd : Int} {i : Nat} {x : Int} {v : Nat → Int32} (h : LK K M B S bd) (hK : RA 64 v K) (hi : i < S.length) (hx : -1000000 ≤ x ∧ x ≤ 1000000) (hf : K.getD (S.getD i 0).toNat 0 ≤ x) : L_guess F 64 v (J x) (J (S.getD i 0)) (J (endS S K.length i)) (J bd) = some (L (gK K S bd i x)) := by
  obtain ⟨g1, g2, g3, g4⟩ := gK_rng h hi hx.2 hf
  obtain ⟨h1, h2, h3, h4, h5, h6, h7, h8, h9, h10, h11⟩ := h
  have hl := hK.1
  have hq := slp_ok (by omega) h1 h2 h11 h9 hi
  have h12 := h9.2.1 i hi
  have hse := SOK_lt h9 hi
  obtain ⟨s, hs⟩ : ∃ s : Nat, s = (S.getD i 0).toNat := ⟨_, rfl⟩
  have hs2 : S.getD i 0 = (s : Int) := by omega
  obtain ⟨b, r1, r2, r3, r4⟩ := lsteep_J (o := s) (e := endS S K.length i) hF hK h1 h2 h11 (by omega) hse.2
  have h13 := h2 s (by omega)
  have h14 := h2 b (by omega)
  unfold gK
  rw [redq_div hq]
  unfold slp at hq ⊢
  rw [← hs] at hq hf ⊢
  unfold L_guess
  rw [hs2, r1]
  simp only [Option.bind_some]
  generalize rng bd (gd K) s (endS S K.length i - 1 - s) = q at r4 hq ⊢
  obtain ⟨qa, qb, qc, qd⟩ := q
  obtain ⟨o1, o2, o3, o4, -⟩ := hq
  dsimp only at o1 o2 o3 o4 r4 ⊢
  rcases r4 with ⟨t1, t2, t3⟩ | ⟨t1, t2, t3, t4⟩
  · rw [if_pos (by rw [t1]), J_wide (by omega), t2, t3, Int.zero_mul, Int.zero_ediv, Int.add_zero]
  · rw [if_neg (by rw [J_eqN (by omega) (by omega)]; omega), if_pos (J_inN (by omega) (by omega)), if_pos (J_inN (by omega) (by omega)), if_pos (J_inN (by omega) (by omega)), J_ix (by omega), J_ix (by omega), hK.2 _ (by omega), hK.2 _ (by omega)]
    simp only [J_sub]
    unfold gd at t4
    rw [J_wide (by omega), J_wide (by omega), J_wide (by omega), J_wide (by omega), if_pos (by rw [L_0, L_eq (by omega) (by omega)]; omega)]
    rw [← t2, ← t4]
    have hnn : 0 ≤ qa * (x - K.getD s 0) := Int.mul_nonneg o1 (by omega)
    have hmx := (mb (a := qa) (b := x - K.getD s 0) (by omega) (by omega)).2
    rw [L_mul, L_div (by omega) (by omega), L_add]
/-- Euclid's steps -/
theorem lcom_L : ∀ (m n a b : Nat), 2 * m + 1 < n → b < 2 ^ m → a < 4000000 → b < 4000000 → L_common_L4 n (J b) (J a) = some (J (Nat.gcd a b)) := by
  have one : ∀ (n a b : Nat), 0 < b → a < 4000000 → b < 4000000 → L_common_L4 (n + 1) (J b) (J a) = L_common_L4 n (J (a % b : Nat)) (J b) := by
    intro n a b h2 h3 h4
    rw [L_common_L4, J_0, if_neg (by rw [J_le (by omega) (by omega)]; omega), if_pos (by rw [J_eq (by omega) (by omega)]; omega)]
    simp only [bnd]
    rw [J_div (by omega) (by omega), J_mul, J_sub]
    have e : ((a : Int) - (a : Int) / b * b) = ((a % b : Nat) : Int) := by
      rw [Int.natCast_emod, Int.emod_def, Int.mul_comm]
    rw [e]
  have zero : ∀ (n a : Nat), L_common_L4 (n + 1) (J (0 : Nat)) (J a) = some (J a) := by
    intro n a
    rw [L_common_L4, J_0, if_pos (by exact Int32.le_refl _)]
  intro m
  induction m with
  | zero =>
    intro n a b h1 h3 h4 h5
    obtain ⟨n', rfl⟩ : ∃ n', n = n' + 1 := ⟨n - 1, by omega⟩
    have : b = 0 := by simp at h3; omega
    subst this
    rw [zero n' a, Nat.gcd_zero_right]
  | succ m ih =>
    intro n a b h1 h3 h4 h5
    obtain ⟨n', rfl⟩ : ∃ n', n = n' + 2 := ⟨n - 2, by omega⟩
    rcases Nat.eq_zero_or_pos b with hb | hb
    · subst hb
      rw [zero (n' + 1) a, Nat.gcd_zero_right]
    · rw [one (n' + 1) a b hb h4 h5]
      have hr := Nat.mod_lt a hb
      rcases Nat.eq_zero_or_pos (a % b) with hc | hc
      · rw [hc, zero n' b, Nat.gcd_comm a b, Nat.gcd_rec, hc, Nat.gcd_zero_left]
      · rw [one n' b (a % b) hc h5 (by omega)]
        have hr2 := Nat.mod_lt b hc
        have hr3 : 2 * (b % (a % b)) < b := by
          have h8 := Nat.mod_add_div b (a % b)
          have h9 : 1 ≤ b / (a % b) := (Nat.le_div_iff_mul_le hc).mpr (by omega)
          have h10 : (a % b) * 1 ≤ (a % b) * (b / (a % b)) := Nat.mul_le_mul_left _ h9
          omega
        rw [ih n' (a % b) (b % (a % b)) (by omega) (by rw [Nat.pow_succ] at h3; omega) (by omega) (by omega)]
        rw [show Nat.gcd a b = Nat.gcd (a % b) (b % (a % b)) from (Nat.gcd_comm a b).trans ((Nat.gcd_rec b a).trans ((Nat.gcd_rec (a % b) b).trans (Nat.gcd_comm _ _)))]
theorem lcommon_J (hF : 2000 ≤ F) {q : qR} (hq : okq q) : L_common F (J q.1) (J q.2.1) = some (J (gq q)) := by
  obtain ⟨h1, h2, h3, h4, h5, h6, h7, h8⟩ := hq
  unfold L_common
  have := lcom_L 21 F q.1.toNat q.2.1.toNat (by omega) (by omega) (by omega) (by omega)
  rw [show ((q.1.toNat : Nat) : Int) = q.1 by omega, show ((q.2.1.toNat : Nat) : Int) = q.2.1 by omega] at this
  rw [this]
  unfold gq
  rw [Nat.gcd_comm]
  rfl
end LPS
