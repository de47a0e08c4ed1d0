/-! the law's merging: what one piece gets -/
section LMG
variable {F : Nat}
theorem z00 : (J 0 = (0 : Int32)) = True := eq_true (by decide)
theorem z01 : (J 0 = (1 : Int32)) = False := eq_false (by decide)
theorem z10 : (J 1 = (0 : Int32)) = False := eq_false (by decide)
theorem z11 : (J 1 = (1 : Int32)) = True := eq_true (by decide)
theorem or_01 {x : Int32} (h : x = 0 ∨ x = 1) : x ||| 0 = x ∧ x ||| 1 = 1 := by
  rcases h with rfl | rfl <;> decide
theorem RA_app {N : Nat} {v : Nat → Int32} {G R : List Int} (h : RA N v (G ++ R)) (hl : G.length + R.length < N) (x : Int) : RA N (upd v (G.length + R.length) (J x)) (G ++ (R ++ [x])) := by
  have := RA_push h (by rw [List.length_append]; exact hl) x
  rw [List.length_append, List.append_assoc] at this
  exact this
theorem lm66 {K M G : List Int} {vr vm : Nat → Int32} {e : Nat} (hK : RA 64 vr K) (hm : RA 64 vm M) (hs : Srt K) (hM : M.length = K.length) (hM2 : ∀ j, j < M.length → M.getD j 0 = 0 ∨ M.getD j 0 = 1) (he : e ≤ K.length) : ∀ (d m k : Nat) (R : List Int) (x11 : Int32) (vx : Nat → Int32), d < m → k + d = e → RA 64 vx (G ++ R) → (x11 = 0 ∨ x11 = 1) → Srt R → (∀ y, y ∈ R → ∀ j, k ≤ j → j < K.length → y < K.getD j 0) → G.length + R.length + d ≤ 60 → ∃ R' x11' vx', L_merge_L66 vm vr (J e) m (J k) x11 (J (G.length + R.length : Nat)) vx = some (x11', J (G.length + (R' : List Int).length : Nat), vx') ∧ RA 64 vx' (G ++ R') ∧ Srt R' ∧ (∀ y, y ∈ R' ↔ y ∈ R ∨ GM K M k e y) ∧ (x11' = 0 ∨ x11' = 1) ∧ (x11' = 0 ↔ x11 = 0 ∧ ∀ j, k ≤ j → j < e → M.getD j 0 = 0) ∧ R'.length ≤ R.length + d
  | d, 0, k, R, x11, vx, h, _, _, _, _, _, _ => absurd h (Nat.not_lt_zero d)
  | 0, m + 1, k, R, x11, vx, _, hd, hv, hx, hR, hlt, hc => by
    have hl := hK.1
    refine ⟨R, x11, vx, ?_, hv, hR, fun y => ⟨Or.inl, fun q => q.elim id (fun q => absurd q (GM_none (by omega)))⟩, hx, ⟨fun q => ⟨q, fun j h1 h2 => by omega⟩, fun q => q.1⟩, by omega⟩
    rw [L_merge_L66, if_pos (by rw [J_leN (by omega) (by omega)]; omega)]
  | d + 1, m + 1, k, R, x11, vx, hm', hd, hv, hx, hR, hlt, hc => by
    have hl := hK.1
    obtain ⟨o1, o2⟩ := or_01 hx
    rw [L_merge_L66, if_neg (by rw [J_leN (by omega) (by omega)]; omega), if_pos (J_inN (by omega) (by omega)), J_ix (by omega), hm.2 k (by omega)]
    simp only [bnd]
    rw [if_pos (J_inM (by omega) (by omega)), J_succ]
    rcases hM2 k (by omega) with q | q
    · rw [q]
      simp only [z00, z01, if_true, if_false]
      rw [o1, if_pos (J_inM (by omega) (by omega)), if_pos (J_inN (by omega) (by omega)), J_ix (by omega), hK.2 k (by omega)]
      simp only [Option.bind_some]
      rw [if_pos (J_inM (by omega) (by omega))]
      rw [show J ((G.length + R.length : Nat) : Int) + (1 - J 0) = J ((G.length + R.length : Nat) : Int) + 1 by rw [show (1 : Int32) - J 0 = 1 by decide], J_succ]
      have hv2 := RA_app hv (by omega) (K.getD k 0)
      obtain ⟨R', x11', vx', r1, r2, r3, r4, r5, r6, r7⟩ := lm66 (G := G) hK hm hs hM hM2 he d m (k + 1) (R ++ [K.getD k 0]) x11 _ (by omega) (by omega) hv2 hx (Srt_snoc hR (fun i hi => hlt _ (getD_mem hi) k (Nat.le_refl _) (by omega))) (fun y hy j h1 h2 => by
        rcases List.mem_append.mp hy with h3 | h3
        · exact hlt y h3 j (by omega) h2
        · rw [List.mem_singleton.mp h3]
          exact hs k j (by omega) h2) (by rw [List.length_append, List.length_singleton]; omega)
      rw [List.length_append, List.length_singleton] at r1 r7
      refine ⟨R', x11', vx', ?_, r2, r3, fun y => ?_, r5, ?_, by omega⟩
      · rw [show G.length + (R.length + 1) = G.length + R.length + 1 by omega] at r1
        exact r1
      · rw [r4, List.mem_append, List.mem_singleton, GM_step (show k < e by omega)]
        constructor
        · rintro ((h1 | h1) | h1)
          · exact Or.inl h1
          · exact Or.inr (Or.inl ⟨h1.symm, q⟩)
          · exact Or.inr (Or.inr h1)
        · rintro (h1 | ⟨h1, -⟩ | h1)
          · exact Or.inl (Or.inl h1)
          · exact Or.inl (Or.inr h1.symm)
          · exact Or.inr h1
      · rw [r6]
        refine ⟨fun ⟨h1, h2⟩ => ⟨h1, fun j h3 h4 => ?_⟩, fun ⟨h1, h2⟩ => ⟨h1, fun j h3 h4 => h2 j (by omega) h4⟩⟩
        rcases Nat.lt_or_ge k j with h5 | h5
        · exact h2 j h5 h4
        · rw [show j = k by omega]
          exact q
    · rw [q]
      simp only [z10, z11, if_true, if_false, Option.bind_some]
      rw [o2, if_pos (J_inM (by omega) (by omega))]
      rw [show J ((G.length + R.length : Nat) : Int) + (1 - J 1) = J ((G.length + R.length : Nat) : Int) by rw [show (1 : Int32) - J 1 = 0 by decide, Int32.add_zero]]
      obtain ⟨R', x11', vx', r1, r2, r3, r4, r5, r6, r7⟩ := lm66 (G := G) hK hm hs hM hM2 he d m (k + 1) R 1 vx (by omega) (by omega) hv (Or.inr rfl) hR (fun y hy j h1 h2 => hlt y hy j (by omega) h2) (by omega)
      refine ⟨R', x11', vx', r1, r2, r3, fun y => ?_, r5, ?_, by omega⟩
      · rw [r4, GM_step (show k < e by omega)]
        constructor
        · rintro (h1 | h1)
          · exact Or.inl h1
          · exact Or.inr (Or.inr h1)
        · rintro (h1 | ⟨-, h1⟩ | h1)
          · exact Or.inl h1
          · omega
          · exact Or.inr h1
      · rw [r6]
        refine ⟨fun ⟨h1, h2⟩ => absurd h1 (by decide), fun ⟨h1, h2⟩ => ?_⟩
        have := h2 k (Nat.le_refl _) (by omega)
        omega
/-- a late key comes to the piece from s to e -/
abbrev BB (K : List Int) (s e : Nat) (y : Int) : Prop := ¬ (0 < s ∧ y < K.getD s 0) ∧ ¬ (e < K.length ∧ K.getD e 0 < y)
def BI (K B' : List Int) (s e k : Nat) (y : Int) : Prop := ∃ j, k ≤ j ∧ j < B'.length ∧ B'.getD j 0 = y ∧ BB K s e y
theorem BI_step {K B' : List Int} {s e k : Nat} (h : k < B'.length) (y : Int) : BI K B' s e k y ↔ (B'.getD k 0 = y ∧ BB K s e y) ∨ BI K B' s e (k + 1) y := by
  constructor
  · rintro ⟨j, h1, h2, h3, h4⟩
    rcases Nat.lt_or_ge k j with q | q
    · exact Or.inr ⟨j, q, h2, h3, h4⟩
    · rw [show j = k by omega] at h3
      exact Or.inl ⟨h3, h4⟩
  · rintro (⟨h1, h2⟩ | ⟨j, h1, h2, h3, h4⟩)
    · exact ⟨k, Nat.le_refl _, h, h1, h2⟩
    · exact ⟨j, by omega, h2, h3, h4⟩
theorem lm127 (hF : 2000 ≤ F) {K B' G T : List Int} {vr vl vq : Nat → Int32} {s e : Nat} (hK : RA 64 vr K) (hB : RA 16 vl B') (hr : KR K) (hrB : KR B') (hq0 : vq 0 = J K.length) (hq1 : vq 1 = J B'.length) (hse : s = 0 ∨ s < K.length) (he : e ≤ K.length) (hnd : ∀ i j, i < j → j < B'.length → B'.getD i 0 ≠ B'.getD j 0) (hT : G.length + T.length ≤ 60) (hT2 : ∀ j, j < B'.length → BB K s e (B'.getD j 0) → B'.getD j 0 ∈ T) : ∀ (d m k : Nat) (R : List Int) (x11 : Int32) (vx : Nat → Int32), d < m → k + d = B'.length → RA 64 vx (G ++ R) → (x11 = 0 ∨ x11 = 1) → Srt R → KR R → (∀ j, k ≤ j → j < B'.length → ¬ B'.getD j 0 ∈ R) → (∀ y, y ∈ R → y ∈ T) → ∃ R' x11' vx', L_merge_L127 vr vl F (J s) (J G.length) vq (J e) m (J k) x11 (J (G.length + R.length : Nat)) vx = some (x11', J (G.length + (R' : List Int).length : Nat), vx') ∧ RA 64 vx' (G ++ R') ∧ Srt R' ∧ KR R' ∧ (∀ y, y ∈ R' ↔ y ∈ R ∨ BI K B' s e k y) ∧ (x11' = 0 ∨ x11' = 1) ∧ (x11' = 0 ↔ x11 = 0 ∧ ∀ y, ¬ BI K B' s e k y)
  | d, 0, k, R, x11, vx, h, _, _, _, _, _, _, _ => absurd h (Nat.not_lt_zero d)
  | 0, m + 1, k, R, x11, vx, _, hd, hv, hx, hR, hKR, hnR, hc => by
    have hl := hB.1
    refine ⟨R, x11, vx, ?_, hv, hR, hKR, fun y => ⟨Or.inl, fun q => q.elim id (fun ⟨j, h1, h2, _⟩ => by omega)⟩, hx, ⟨fun q => ⟨q, fun y ⟨j, h1, h2, _⟩ => by omega⟩, fun q => q.1⟩⟩
    rw [L_merge_L127]
    simp only [i7_1, if_true, n7_1, hq1]
    rw [if_pos (by rw [J_leN (by omega) (by omega)]; omega)]
  | d + 1, m + 1, k, R, x11, vx, hm, hd, hv, hx, hR, hKR, hnR, hc => by
    have hl := hB.1
    have hlK := hK.1
    have hrk := hrB k (by omega)
    have hnk := hnR k (Nat.le_refl _) (by omega)
    have hins := insAt_len R (cl_le R (B'.getD k 0)) (B'.getD k 0)
    have hcl := cl_le R (B'.getD k 0)
    have hRT := Srt_sub_len hR hc
    -- what the tests come to
    have st : L_merge_L127 vr vl F (J s) (J G.length) vq (J e) (m + 1) (J k) x11 (J (G.length + R.length : Nat)) vx = if BB K s e (B'.getD k 0) then (Option.bind (L_sorts F 64 vx (J G.length) (J (G.length + R.length : Nat)) (J (B'.getD k 0))) fun v => L_merge_L127 vr vl F (J s) (J G.length) vq (J e) m (J (k + 1 : Nat)) 1 (J (G.length + R.length + 1 : Nat)) v) else L_merge_L127 vr vl F (J s) (J G.length) vq (J e) m (J (k + 1 : Nat)) x11 (J (G.length + R.length : Nat)) vx := by
      rw [L_merge_L127]
      simp only [i7_0, i7_1, if_true, n7_0, n7_1, hq0, hq1, bnd]
      rw [if_neg (by rw [J_leN (by omega) (by omega)]; omega)]
      simp only [if_pos (J_inN (show k < 16 by omega) (show 16 ≤ 1000 by omega)), J_ix (show k < 2147483648 by omega), if_pos (J_inM (show k < 16 by omega) (show 16 ≤ 1000 by omega)), hB.2 k (by omega), J_succ]
      unfold BB
      by_cases c0 : s = 0
      · rw [if_pos (by rw [c0]; decide)]
        by_cases c1 : e = K.length
        · rw [if_pos (by rw [J_leN (by omega) (by omega)]; omega), if_pos ⟨fun q => by omega, fun q => by omega⟩]
        · have hre := hr e (by omega)
          rw [if_neg (by rw [J_leN (by omega) (by omega)]; omega), if_pos (J_inN (by omega) (by omega)), J_ix (by omega), hK.2 e (by omega)]
          by_cases c2 : B'.getD k 0 ≤ K.getD e 0
          · rw [if_pos (by rw [J_le (by omega) (by omega)]; exact c2), if_pos ⟨fun q => by omega, fun q => by omega⟩]
          · rw [if_neg (by rw [J_le (by omega) (by omega)]; exact c2), if_neg (fun q => q.2 ⟨by omega, by omega⟩)]
      · have hrs := hr s (by omega)
        rw [if_neg (by rw [J_0, J_le (by omega) (by omega)]; omega)]
        simp only [if_pos (J_inN (show s < 64 by omega) (show 64 ≤ 1000 by omega)), J_ix (show s < 2147483648 by omega), if_pos (J_inM (show s < 64 by omega) (show 64 ≤ 1000 by omega)), hK.2 s (by omega)]
        by_cases c3 : B'.getD k 0 < K.getD s 0
        · rw [if_pos (by rw [J_lt (by omega) (by omega)]; exact c3), if_neg (fun q => q.1 ⟨by omega, c3⟩)]
        · rw [if_neg (by rw [J_lt (by omega) (by omega)]; exact c3)]
          by_cases c1 : e = K.length
          · rw [if_pos (by rw [J_leN (by omega) (by omega)]; omega), if_pos ⟨fun q => c3 q.2, fun q => by omega⟩]
          · have hre := hr e (by omega)
            rw [if_neg (by rw [J_leN (by omega) (by omega)]; omega), if_pos (J_inN (by omega) (by omega)), J_ix (by omega), hK.2 e (by omega)]
            by_cases c2 : B'.getD k 0 ≤ K.getD e 0
            · rw [if_pos (by rw [J_le (by omega) (by omega)]; exact c2), if_pos ⟨fun q => c3 q.2, fun q => by omega⟩]
            · rw [if_neg (by rw [J_le (by omega) (by omega)]; exact c2), if_neg (fun q => q.2 ⟨by omega, by omega⟩)]
    rw [st]
    by_cases c : BB K s e (B'.getD k 0)
    · rw [if_pos c]
      have hTn : ∀ y, y ∈ insAt R (cl R (B'.getD k 0)) (B'.getD k 0) → y ∈ T := fun y hy => by
        rcases (insAt_mem hcl).mp hy with q | q
        · rw [q]
          exact hT2 k (by omega) c
        · exact hc y q
      have hRT2 := Srt_sub_len (insAt_Srt hR hnk) hTn
      obtain ⟨vx2, s1, s2⟩ := lsorts_J (F := F) hF hv hKR hrk (by omega) hR hnk
      rw [s1]
      simp only [Option.bind_some]
      obtain ⟨R', x11', vx', r1, r2, r3, r3b, r4, r5, r6⟩ := lm127 (G := G) hF hK hB hr hrB hq0 hq1 hse he hnd hT hT2 d m (k + 1) (insAt R (cl R (B'.getD k 0)) (B'.getD k 0)) 1 vx2 (by omega) (by omega) s2 (Or.inr rfl) (insAt_Srt hR hnk) (KR_mem.mpr (fun y hy => by
        rcases (insAt_mem hcl).mp hy with q | q
        · rw [q]
          exact hrk
        · exact KR_mem.mp hKR y q)) (fun j h1 h2 q => by
        rcases (insAt_mem hcl).mp q with q2 | q2
        · exact hnd k j (by omega) h2 q2.symm
        · exact hnR j (by omega) h2 q2) hTn
      rw [hins, show G.length + (R.length + 1) = G.length + R.length + 1 by omega] at r1
      refine ⟨R', x11', vx', r1, r2, r3, r3b, fun y => ?_, r5, ?_⟩
      · rw [r4, insAt_mem hcl, BI_step (show k < B'.length by omega)]
        constructor
        · rintro ((h1 | h1) | h1)
          · exact Or.inr (Or.inl ⟨h1.symm, by rw [h1]; exact c⟩)
          · exact Or.inl h1
          · exact Or.inr (Or.inr h1)
        · rintro (h1 | ⟨h1, -⟩ | h1)
          · exact Or.inl (Or.inr h1)
          · exact Or.inl (Or.inl h1.symm)
          · exact Or.inr h1
      · rw [r6]
        exact ⟨fun q => absurd q.1 (by decide), fun q => absurd ⟨k, Nat.le_refl _, by omega, rfl, c⟩ (q.2 _)⟩
    · rw [if_neg c]
      obtain ⟨R', x11', vx', r1, r2, r3, r3b, r4, r5, r6⟩ := lm127 (G := G) hF hK hB hr hrB hq0 hq1 hse he hnd hT hT2 d m (k + 1) R x11 vx (by omega) (by omega) hv hx hR hKR (fun j h1 h2 => hnR j (by omega) h2) hc
      have e1 : ∀ y, BI K B' s e k y ↔ BI K B' s e (k + 1) y := fun y => by
        rw [BI_step (show k < B'.length by omega)]
        exact ⟨fun q => q.elim (fun q => absurd (by rw [q.1]; exact q.2) c) id, Or.inr⟩
      refine ⟨R', x11', vx', r1, r2, r3, r3b, fun y => by rw [r4, e1], r5, ?_⟩
      rw [r6]
      exact ⟨fun q => ⟨q.1, fun y => by rw [e1]; exact q.2 y⟩, fun q => ⟨q.1, fun y => by rw [← e1]; exact q.2 y⟩⟩
theorem BB_iff {K M B S : List Int} {bd : Int} {i t : Nat} (h : LK K M B S bd) (hi : i < S.length) (ht : t < B.length) : BB K (posK S K.length i) (posK S K.length (i + 1)) (B.getD t 0) ↔ posB K S B i ≤ t ∧ t < posB K S B (i + 1) := by
  obtain ⟨h1, h2, h3, h4, h5, h6, h7, h8, h9, h10, h11⟩ := h
  have hsi := h9.2.1 i hi
  have e1 : posK S K.length i = (S.getD i 0).toNat := by unfold posK; rw [if_pos hi]
  have q0 : ¬ (0 < posK S K.length i ∧ B.getD t 0 < K.getD (posK S K.length i) 0) ↔ posB K S B i ≤ t := by
    rw [e1]
    unfold posB
    by_cases c : i = 0
    · rw [if_pos c]
      have := h9.2.2.1 (by omega)
      rw [c, this]
      exact ⟨fun _ => Nat.zero_le _, fun _ q => by simp at q⟩
    · rw [if_neg c, if_pos hi]
      have hz := h9.1 0 i (by omega) hi
      have hz0 := h9.2.2.1 (by omega)
      have := cl_spec h5 (K.getD (S.getD i 0).toNat 0) t ht
      constructor
      · intro q
        rcases Nat.lt_or_ge t (cl B (K.getD (S.getD i 0).toNat 0)) with q2 | q2
        · exact absurd ⟨by omega, this.mp q2⟩ q
        · exact q2
      · intro q q2
        have := this.mpr q2.2
        omega
  have q1 : ¬ (posK S K.length (i + 1) < K.length ∧ K.getD (posK S K.length (i + 1)) 0 < B.getD t 0) ↔ t < posB K S B (i + 1) := by
    unfold posB
    rw [if_neg (show ¬ i + 1 = 0 by omega)]
    by_cases c : i + 1 < S.length
    · have e2 : posK S K.length (i + 1) = (S.getD (i + 1) 0).toNat := by unfold posK; rw [if_pos c]
      have hsj := h9.2.1 (i + 1) c
      rw [if_pos c, e2, cl_spec h5 _ t ht]
      have hne := h7 (S.getD (i + 1) 0).toNat t (by omega) ht
      constructor
      · intro q
        by_cases q2 : K.getD (S.getD (i + 1) 0).toNat 0 < B.getD t 0
        · exact absurd ⟨by omega, q2⟩ q
        · omega
      · intro q q2
        omega
    · have e2 : posK S K.length (i + 1) = K.length := by unfold posK; rw [if_neg c]
      rw [if_neg c, e2]
      exact ⟨fun _ => ht, fun _ q => by omega⟩
  unfold BB
  rw [q0, q1]
theorem BI_BM {K M B B' S : List Int} {bd : Int} {i : Nat} (h : LK K M B S bd) (hp : B'.Perm B) (hi : i < S.length) (y : Int) : BI K B' (posK S K.length i) (posK S K.length (i + 1)) 0 y ↔ BM B (posB K S B i) (posB K S B (i + 1)) y := by
  have hle : posB K S B (i + 1) ≤ B.length := (pos_facts h hi).2.2.2.1
  constructor
  · rintro ⟨j, -, h2, h3, h4⟩
    have hm : y ∈ B := hp.mem_iff.mp (by rw [← h3]; exact getD_mem h2)
    obtain ⟨t, ht, e⟩ := mem_getD.mp hm
    rw [← e, BB_iff h hi ht] at h4
    exact ⟨t, h4.1, h4.2, e⟩
  · rintro ⟨t, h1, h2, h3⟩
    have hm : y ∈ B' := hp.mem_iff.mpr (by rw [← h3]; exact getD_mem (by omega))
    obtain ⟨j, hj, e⟩ := mem_getD.mp hm
    refine ⟨j, Nat.zero_le _, hj, e, ?_⟩
    rw [← h3, BB_iff h hi (by omega)]
    exact ⟨h1, h2⟩
theorem Nodup_getD {l : List Int} (h : l.Nodup) : ∀ i j, i < j → j < l.length → l.getD i 0 ≠ l.getD j 0 := by
  intro i j hij hj
  have := List.nodup_iff_pairwise_ne.mp h
  have h2 := List.pairwise_iff_getElem.mp this i j (by omega) hj hij
  rw [List.getD_eq_getElem?_getD, List.getD_eq_getElem?_getD, List.getElem?_eq_getElem hj, List.getElem?_eq_getElem (show i < l.length by omega)]
  exact h2
end LMG
