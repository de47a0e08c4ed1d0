/-! one piece is merged, in the class and in the reference -/
section MMRG
variable {F : Nat}
theorem prefix_of {G G' : List Int} (hs : Srt G) (hs' : Srt G') (h1 : ∀ x, x ∈ G → x ∈ G') (h2 : ∀ y, y ∈ G' → ¬ y ∈ G → ∀ x, x ∈ G → x < y) : ∃ R, G' = G ++ R := by
  induction G generalizing G' with
  | nil => exact ⟨G', rfl⟩
  | cons a G ih =>
    cases G' with
    | nil => exact absurd (h1 a (by simp)) (by simp)
    | cons b G' =>
      have q1 := Srt_cons.mp hs
      have q2 := Srt_cons.mp hs'
      have e : b = a := by
        by_cases c : b ∈ a :: G
        · have a1 := h1 a (by simp)
          simp only [List.mem_cons] at a1 c
          rcases c with c | c
          · exact c
          · have := q1.1 b c
            rcases a1 with a1 | a1
            · omega
            · have := q2.1 a a1
              omega
        · have a1 := h2 b (by simp) c a (by simp)
          have a2 := h1 a (by simp)
          simp only [List.mem_cons] at a2
          rcases a2 with a2 | a2
          · omega
          · have := q2.1 a a2
            omega
      subst e
      obtain ⟨R, hR⟩ := ih q1.2 q2.2 (fun x hx => by
        have a1 := h1 x (by simp [hx])
        have a2 := q1.1 x hx
        simp only [List.mem_cons] at a1
        rcases a1 with a1 | a1
        · omega
        · exact a1) (fun y hy hn x hx => by
        have a2 := q2.1 y hy
        refine h2 y (by simp [hy]) (fun q => ?_) x (by simp [hx])
        simp only [List.mem_cons] at q
        rcases q with q | q
        · omega
        · exact hn q)
      exact ⟨R, by rw [hR]; rfl⟩
def sl (K : List Int) (a m : Nat) : List Int := (List.range m).map (fun t => gd K (a + t))
theorem sl_len (K : List Int) (a m : Nat) : (sl K a m).length = m := by unfold sl; simp
theorem sl_getD (K : List Int) (a m t : Nat) (h : t < m) : (sl K a m).getD t 0 = gd K (a + t) := by
  unfold sl
  rw [List.getD_eq_getElem?_getD, List.getElem?_map, List.getElem?_range h]
  rfl
theorem sl_mem (K : List Int) (a m : Nat) (x : Int) : x ∈ sl K a m ↔ ∃ j, a ≤ j ∧ j < a + m ∧ K.getD j 0 = x := by
  unfold sl gd
  rw [List.mem_map]
  constructor
  · rintro ⟨t, h1, h2⟩
    rw [List.mem_range] at h1
    exact ⟨a + t, by omega, by omega, h2⟩
  · rintro ⟨j, h1, h2, h3⟩
    exact ⟨j - a, by rw [List.mem_range]; omega, by rw [show a + (j - a) = j by omega]; exact h3⟩
theorem rng_shift {bd : Int} {f g : Nat → Int} {o o' : Nat} : ∀ k, (∀ t, t ≤ k → f (o + t) = g (o' + t)) → rng bd f o k = rng bd g o' k
  | 0, _ => rfl
  | k + 1, h => by
    have h0 := h 0 (by omega)
    have h1 := h (k + 1) (by omega)
    rw [Nat.add_zero, Nat.add_zero] at h0
    rw [rng, rng, rng_shift k (fun t ht => h t (by omega)), h0, show o + k + 1 = o + (k + 1) by omega, show o' + k + 1 = o' + (k + 1) by omega, h1]
theorem SOK_mono {C : List Int} {n m : Nat} (h : SOK C n) (hc : 0 < C.length) (hnm : n ≤ m) : SOK C m := by
  refine ⟨h.1, fun i hi => ?_, h.2.2.1, fun _ => hc⟩
  have := h.2.1 i hi
  omega
theorem firstOf_J {K S : List Int} {zk zs : zN} {i : Nat} (hk : RN 256 zk K) (hsr : RN 256 zs S) (hS : SOK S K.length) (hi : i < S.length) : X2_firstOf F zk zs (J i) = some (J (K.getD (S.getD i 0).toNat 0)) := by
  have h1 := hS.2.1 i hi
  unfold X2_firstOf
  rw [at_in hsr hi]
  simp only [Option.bind_some]
  rw [show S.getD i 0 = (((S.getD i 0).toNat : Nat) : Int) by omega, at_in hk (by omega)]
  simp only [Option.bind_some]
  congr 4
  omega
theorem endOf_J {K S : List Int} {zk zs : zN} {i : Nat} (hk : RN 256 zk K) (hsr : RN 256 zs S) (hS : SOK S K.length) (hi : i < S.length) : X2_endOf F zk zs (J i) = some (J (endS S K.length i)) := by
  have hl := hsr.len
  unfold X2_endOf endS
  rw [J_succ]
  by_cases c : i + 1 < S.length
  · have := hS.2.1 _ c
    rw [has_J hsr (by omega), if_pos (by omega)]
    simp only [Option.bind_some]
    rw [if_neg (by decide), at_in hsr c]
    simp only [Option.bind_some]
    rw [if_pos c]
    congr 2
    omega
  · rw [has_J hsr (by omega), if_neg (by omega)]
    simp only [Option.bind_some]
    rw [if_pos (by decide), length_J hk, if_neg c]
    rfl
def posK (S : List Int) (n i : Nat) : Nat := if i < S.length then (S.getD i 0).toNat else n
def posB (K S B : List Int) (i : Nat) : Nat := if i = 0 then 0 else if i < S.length then cl B (K.getD (S.getD i 0).toNat 0) else B.length
/-- what the state's lists keep -/
def LK (K M B S : List Int) (bd : Int) : Prop := Srt K ∧ KR K ∧ M.length = K.length ∧ (∀ j, j < M.length → M.getD j 0 = 0 ∨ M.getD j 0 = 1) ∧ Srt B ∧ KR B ∧ (∀ i j, i < K.length → j < B.length → K.getD i 0 ≠ B.getD j 0) ∧ K.length + B.length ≤ 256 ∧ SOK S K.length ∧ PF bd K S K.length ∧ 0 ≤ bd ∧ bd ≤ 20
theorem pos_facts {K M B S : List Int} {bd : Int} (h : LK K M B S bd) {i : Nat} (hi : i < S.length) : posK S K.length i = (S.getD i 0).toNat ∧ posK S K.length (i + 1) = endS S K.length i ∧ posB K S B i ≤ posB K S B (i + 1) ∧ posB K S B (i + 1) ≤ B.length ∧ (∀ j t, j < posK S K.length i → posB K S B i ≤ t → t < B.length → K.getD j 0 < B.getD t 0) ∧ (∀ j t, posK S K.length i ≤ j → j < K.length → t < posB K S B i → B.getD t 0 < K.getD j 0) ∧ (∀ t, t < B.length → ((pcN K S (B.getD t 0) = i + 1 ∨ (pcN K S (B.getD t 0) = 0 ∧ i = 0)) ↔ (posB K S B i ≤ t ∧ t < posB K S B (i + 1)))) := by
  obtain ⟨h1, h2, h3, h4, h5, h6, h7, h8, h9, h10, h11⟩ := h
  have e1 : posK S K.length i = (S.getD i 0).toNat := by unfold posK; rw [if_pos hi]
  have hlt := SOK_lt h9 hi
  have hc1 := fun x => cl_le B x
  have hB : ∀ i, i < S.length → ∀ t, t < B.length → (t < cl B (K.getD (S.getD i 0).toNat 0) ↔ ¬ i < pcN K S (B.getD t 0)) := by
    intro i hi t ht
    have a1 := cl_spec h5 (K.getD (S.getD i 0).toNat 0) t ht
    have a2 := pcN_spec (x := B.getD t 0) h1 h9 hi
    have a3 := h9.2.1 i hi
    have a4 := h7 (S.getD i 0).toNat t (by omega) ht
    omega
  have e2 : posB K S B i ≤ posB K S B (i + 1) ∧ posB K S B (i + 1) ≤ B.length := by
    unfold posB
    rw [if_neg (show ¬ i + 1 = 0 by omega)]
    by_cases c0 : i = 0
    · rw [if_pos c0]
      split
      · exact ⟨Nat.zero_le _, hc1 _⟩
      · exact ⟨Nat.zero_le _, Nat.le_refl _⟩
    · rw [if_neg c0, if_pos hi]
      split
      · rename_i c
        refine ⟨?_, hc1 _⟩
        have a1 := h9.1 i (i + 1) (by omega) c
        have a2 := h9.2.1 i hi
        have a3 := h9.2.1 (i + 1) c
        have a4 := h1 (S.getD i 0).toNat (S.getD (i + 1) 0).toNat (by omega) (by omega)
        rcases Nat.lt_or_ge (cl B (K.getD (S.getD (i + 1) 0).toNat 0)) (cl B (K.getD (S.getD i 0).toNat 0)) with q | q
        · have b1 := hc1 (K.getD (S.getD i 0).toNat 0)
          have b2 := (cl_spec h5 (K.getD (S.getD i 0).toNat 0) (cl B (K.getD (S.getD (i + 1) 0).toNat 0)) (by omega)).mp q
          have b3 := (cl_spec h5 (K.getD (S.getD (i + 1) 0).toNat 0) (cl B (K.getD (S.getD (i + 1) 0).toNat 0)) (by omega)).mpr (by omega)
          omega
        · exact q
      · exact ⟨hc1 _, Nat.le_refl _⟩
  refine ⟨e1, ?_, e2.1, e2.2, ?_, ?_, ?_⟩
  · unfold posK endS
    rfl
  · intro j t hj ht1 ht2
    rw [e1] at hj
    have a3 := h9.2.1 i hi
    have a4 := h1 j (S.getD i 0).toNat hj (by omega)
    have c0 : ¬ i = 0 := by
      intro c
      subst c
      have := h9.2.2.1 (by omega)
      omega
    unfold posB at ht1
    rw [if_neg c0, if_pos hi] at ht1
    have a5 := (cl_spec h5 (K.getD (S.getD i 0).toNat 0) t ht2)
    omega
  · intro j t hj1 hj2 ht
    rw [e1] at hj1
    unfold posB at ht
    by_cases c0 : i = 0
    · rw [if_pos c0] at ht
      omega
    · rw [if_neg c0, if_pos hi] at ht
      have b1 := hc1 (K.getD (S.getD i 0).toNat 0)
      have b2 := (cl_spec h5 (K.getD (S.getD i 0).toNat 0) t (by omega)).mp ht
      rcases Nat.lt_or_ge (S.getD i 0).toNat j with q | q
      · have := h1 (S.getD i 0).toNat j q hj2
        omega
      · rw [show j = (S.getD i 0).toNat by omega]
        exact b2
  · intro t ht
    have hpl := pcN_le K S (B.getD t 0)
    have b1 := hB i hi t ht
    unfold posB
    rw [if_neg (show ¬ i + 1 = 0 by omega)]
    by_cases c : i + 1 < S.length
    · have b2 := hB (i + 1) c t ht
      rw [if_pos c]
      by_cases c0 : i = 0
      · rw [if_pos c0]
        omega
      · rw [if_neg c0, if_pos hi]
        omega
    · rw [if_neg c]
      by_cases c0 : i = 0
      · rw [if_pos c0]
        omega
      · rw [if_neg c0, if_pos hi]
        omega
end MMRG
