/-! pieces of keys, and the reference's gathering -/
section MRG
variable {F : Nat}
def pcN (K S : List Int) (x : Int) : Nat := cl S (cl K (x + 1) : Nat)
theorem pcN_le (K S : List Int) (x : Int) : pcN K S x ≤ S.length := cl_le _ _
theorem pcN_spec {K S : List Int} {x : Int} {i : Nat} (hs : Srt K) (hS : SOK S K.length) (hi : i < S.length) : i < pcN K S x ↔ K.getD (S.getD i 0).toNat 0 ≤ x := by
  have h1 := hS.2.1 i hi
  have h2 := cl_spec hS.1 (cl K (x + 1) : Nat) i hi
  have h3 := cl_spec hs (x + 1) (S.getD i 0).toNat (by omega)
  unfold pcN
  omega
theorem KR_mem {l : List Int} : KR l ↔ ∀ x, x ∈ l → -1000000 ≤ x ∧ x ≤ 1000000 := by
  constructor
  · intro h x hx
    obtain ⟨i, hi, e⟩ := mem_getD.mp hx
    rw [← e]
    exact h i hi
  · intro h i hi
    exact h _ (getD_mem hi)
theorem pieceOf_JX (hF : 2000 ≤ F) {K S : List Int} {zk zs : zN} {x : Int} (hk : RN 256 zk K) (hsr : RN 256 zs S) (hs : Srt K) (hS : SOK S K.length) (hx : -1000000 ≤ x ∧ x ≤ 1000000) : X2_pieceOf F zk zs (J x) = some (J ((pcN K S x : Int) - 1)) := by
  have h1 := hk.len
  have h2 := cl_le K (x + 1)
  unfold X2_pieceOf
  rw [J_1, J_add, below_J hF hk hs (by omega)]
  simp only [Option.bind_some]
  rw [below_J hF hsr hS.1 (by omega)]
  simp only [Option.bind_some]
  rw [J_sub]
  rfl
theorem pieceOf_L {K S : List Int} {row st : Nat → Int32} {x : Int} (hK : RA 256 row K) (hst : RA 257 st S) (hs : Srt K) (hr : KR K) (hS : SOK S K.length) (hx : -2147483648 ≤ x ∧ x < 2147483648) : ∀ (d n i : Nat), d < n → i + d = S.length → X3_pieceOf_L4 (J x) row st (J S.length) n (J i) (J (((min i (pcN K S x) : Nat) : Int) - 1)) = some (J ((pcN K S x : Int) - 1))
  | d, 0, i, h, _ => absurd h (Nat.not_lt_zero d)
  | 0, n + 1, i, _, hd => by
    have h1 := hK.1
    have h2 := SOK_len hS
    have h3 := pcN_le K S x
    rw [X3_pieceOf_L4, if_pos (by rw [J_leN (by omega) (by omega)]; omega)]
    rw [show min i (pcN K S x) = pcN K S x by omega]
  | d + 1, n + 1, i, h, hd => by
    have h1 := hK.1
    have h2 := SOK_len hS
    have h3 := pcN_le K S x
    have h4 := hS.2.1 i (by omega)
    have h5 := pcN_spec (x := x) hs hS (i := i) (by omega)
    have h6 := hr (S.getD i 0).toNat (by omega)
    rw [X3_pieceOf_L4, if_neg (by rw [J_leN (by omega) (by omega)]; omega), if_pos (J_inN (by omega) (by omega)), J_ix (by omega), hst.2 i (by omega)]
    rw [show S.getD i 0 = (((S.getD i 0).toNat : Nat) : Int) by omega, if_pos (J_inN (by omega) (by omega)), J_ix (by omega), hK.2 _ (by omega)]
    simp only [bnd]
    rw [J_succ]
    have := pieceOf_L hK hst hs hr hS hx d n (i + 1) (by omega) (by omega)
    by_cases c : x < K.getD (S.getD i 0).toNat 0
    · rw [if_pos (by rw [J_lt (by omega) (by omega)]; exact c)]
      rw [show min i (pcN K S x) = min (i + 1) (pcN K S x) by omega]
      exact this
    · rw [if_neg (by rw [J_lt (by omega) (by omega)]; exact c)]
      rw [show ((min (i + 1) (pcN K S x) : Nat) : Int) - 1 = (i : Int) by omega] at this
      exact this
theorem pieceOf_JR (hF : 2000 ≤ F) {K S : List Int} {row st : Nat → Int32} {x : Int} (hK : RA 256 row K) (hst : RA 257 st S) (hs : Srt K) (hr : KR K) (hS : SOK S K.length) (hx : -2147483648 ≤ x ∧ x < 2147483648) : X3_pieceOf F row st (J S.length) (J x) = some (J ((pcN K S x : Int) - 1)) := by
  have h1 := hK.1
  have h2 := SOK_len hS
  have := pieceOf_L hK hst hs hr hS hx S.length F 0 (by omega) (by omega)
  rw [Nat.zero_min] at this
  unfold X3_pieceOf
  rw [show (-1 : Int32) = J (((0 : Nat) : Int) - 1) from J_m1, show (0 : Int32) = J ((0 : Nat) : Int) from J_0, this]
  rfl
theorem gathersRow_L (hF : 2000 ≤ F) {K M S : List Int} {row mk st : Nat → Int32} {i : Nat} (hK : RA 256 row K) (hm : RA 256 mk M) (hM : M.length = K.length) (hM2 : ∀ j, j < M.length → M.getD j 0 = 0 ∨ M.getD j 0 = 1) (hst : RA 257 st S) (hs : Srt K) (hr : KR K) (hS : SOK S K.length) (hi : i < S.length) : ∀ (d n p : Nat) (fl : Int32) (md : Nat → Int32) (G : List Int), d < n → p + d = endS S K.length i → RA 256 md G → Srt G → KR G → (∀ j, p ≤ j → j < endS S K.length i → ¬ K.getD j 0 ∈ G) → G.length + d ≤ 256 → (fl = 0 ∨ fl = 1) → ∃ fl' md' G', X3_gathers_L9 (J i) row mk (J K.length) st (J S.length) F n (J p) fl md (J G.length) = some (fl', md', J (G' : List Int).length) ∧ RA 256 md' G' ∧ Srt G' ∧ KR G' ∧ (∀ x, x ∈ G' ↔ x ∈ G ∨ GM K M p (endS S K.length i) x) ∧ G'.length ≤ G.length + d ∧ (fl' = 0 ∨ fl' = 1) ∧ (fl' = 0 ↔ fl = 0 ∧ ∀ j, p ≤ j → j < endS S K.length i → M.getD j 0 = 0)
  | d, 0, p, fl, md, G, h, _, _, _, _, _, _, _ => absurd h (Nat.not_lt_zero d)
  | 0, n + 1, p, fl, md, G, _, hd, hG, hsG, hrG, hne, hcap, hfl => by
    have h1 := hK.1
    have he := SOK_lt hS hi
    refine ⟨fl, md, G, ?_, hG, hsG, hrG, fun x => ⟨Or.inl, fun q => q.elim id (fun q => absurd q (GM_none (by omega)))⟩, by omega, hfl, ⟨fun q => ⟨q, fun j _ _ => by omega⟩, fun q => q.1⟩⟩
    rw [X3_gathers_L9, behind_J hst hS h1 hi]
    simp only [Option.bind_some]
    rw [if_pos (by rw [J_leN (by omega) (by omega)]; omega)]
  | d + 1, n + 1, p, fl, md, G, h, hd, hG, hsG, hrG, hne, hcap, hfl => by
    have h1 := hK.1
    have he := SOK_lt hS hi
    have hrp := hr p (by omega)
    rw [X3_gathers_L9, behind_J hst hS h1 hi]
    simp only [Option.bind_some]
    rw [if_neg (by rw [J_leN (by omega) (by omega)]; omega), if_pos (J_inN (by omega) (by omega)), J_ix (by omega), hm.2 p (by omega), hK.2 p (by omega)]
    by_cases c : M.getD p 0 = 0
    · rw [c, if_pos J_0.symm, if_pos (J_inM (by omega) (by omega))]
      have hnp := hne p (Nat.le_refl _) (by omega)
      obtain ⟨md1, e1, hG1⟩ := makes_J hF hG hsG (by omega) hrG hrp hnp
      rw [e1]
      simp only [Option.bind_some, bnd]
      rw [J_succ]
      have hc := cl_le G (K.getD p 0)
      have hlen := insAt_len G hc (K.getD p 0)
      obtain ⟨fl', md', G', s1, s2, s3, s4, s5, s6, s7, s8⟩ := gathersRow_L hF hK hm hM hM2 hst hs hr hS hi d n (p + 1) fl md1 (insAt G (cl G (K.getD p 0)) (K.getD p 0)) (by omega) (by omega) hG1 (insAt_Srt hsG hnp) (KR_mem.mpr (fun x hx => by
        rcases (insAt_mem hc).mp hx with q | q
        · rw [q]; exact hrp
        · exact KR_mem.mp hrG x q)) (fun j hj1 hj2 hx => by
        rcases (insAt_mem hc).mp hx with q | q
        · have := hs p j (by omega) (by omega)
          omega
        · exact hne j (by omega) hj2 q) (by omega) hfl
      refine ⟨fl', md', G', s1, s2, s3, s4, fun x => ?_, by omega, s7, ?_⟩
      · rw [s5, insAt_mem hc, GM_step (lo := p) (by omega)]
        constructor
        · rintro ((q | q) | q)
          · exact Or.inr (Or.inl ⟨q.symm, c⟩)
          · exact Or.inl q
          · exact Or.inr (Or.inr q)
        · rintro (q | q | q)
          · exact Or.inl (Or.inr q)
          · exact Or.inl (Or.inl q.1.symm)
          · exact Or.inr q
      · rw [s8]
        refine ⟨fun q => ⟨q.1, fun j hj1 hj2 => ?_⟩, fun q => ⟨q.1, fun j hj1 hj2 => q.2 j (by omega) hj2⟩⟩
        by_cases e : j = p
        · rw [e]; exact c
        · exact q.2 j (by omega) hj2
    · have hm2 := hM2 p (by omega)
      rw [if_neg (by rw [J_0, J_eq (by omega) (by omega)]; exact c)]
      simp only [bnd]
      rw [J_succ]
      obtain ⟨fl', md', G', s1, s2, s3, s4, s5, s6, s7, s8⟩ := gathersRow_L hF hK hm hM hM2 hst hs hr hS hi d n (p + 1) 1 md G (by omega) (by omega) hG hsG hrG (fun j hj1 hj2 => hne j (by omega) hj2) (by omega) (Or.inr rfl)
      refine ⟨fl', md', G', s1, s2, s3, s4, fun x => ?_, by omega, s7, ?_⟩
      · rw [s5, GM_step (lo := p) (by omega)]
        constructor
        · rintro (q | q)
          · exact Or.inl q
          · exact Or.inr (Or.inr q)
        · rintro (q | q | q)
          · exact Or.inl q
          · exact absurd q.2 c
          · exact Or.inr q
      · rw [s8]
        exact ⟨fun q => absurd q.1 (by decide), fun q => absurd (q.2 p (by omega) (by omega)) c⟩
theorem gathersBuf_L (hF : 2000 ≤ F) {K S B : List Int} {row st bu : Nat → Int32} {i lo hi : Nat} (hK : RA 256 row K) (hst : RA 257 st S) (hbu : RA 16 bu B) (hs : Srt K) (hr : KR K) (hsB : Srt B) (hrB : KR B) (hS : SOK S K.length) (hi0 : i < S.length) (hP : ∀ t, t < B.length → ((pcN K S (B.getD t 0) = i + 1 ∨ (pcN K S (B.getD t 0) = 0 ∧ i = 0)) ↔ (lo ≤ t ∧ t < hi))) (hhi : hi ≤ B.length) : ∀ (d n t : Nat) (fl : Int32) (md : Nat → Int32) (G : List Int), d < n → t + d = B.length → RA 256 md G → Srt G → KR G → (∀ j, max t lo ≤ j → j < B.length → ¬ B.getD j 0 ∈ G) → G.length + (hi - max t lo) ≤ 256 → (fl = 0 ∨ fl = 1) → ∃ fl' md' G', X3_gathers_L50 (J i) row st (J S.length) bu (J B.length) F n (J t) fl md (J G.length) = some (fl', md', J (G' : List Int).length) ∧ RA 256 md' G' ∧ Srt G' ∧ KR G' ∧ (∀ x, x ∈ G' ↔ x ∈ G ∨ BM B (max t lo) hi x) ∧ (fl' = 0 ∨ fl' = 1) ∧ (fl' = 0 ↔ fl = 0 ∧ ¬ max t lo < hi)
  | d, 0, t, fl, md, G, h, _, _, _, _, _, _, _ => absurd h (Nat.not_lt_zero d)
  | 0, n + 1, t, fl, md, G, _, hd, hG, hsG, hrG, hne, hcap, hfl => by
    have h1 := hbu.1
    refine ⟨fl, md, G, ?_, hG, hsG, hrG, fun x => ⟨Or.inl, fun q => q.elim id (fun q => absurd q (BM_none (by omega)))⟩, hfl, ⟨fun q => ⟨q, by omega⟩, fun q => q.1⟩⟩
    rw [X3_gathers_L50, if_pos (by rw [J_leN (by omega) (by omega)]; omega)]
  | d + 1, n + 1, t, fl, md, G, h, hd, hG, hsG, hrG, hne, hcap, hfl => by
    have h1 := hbu.1
    have h2 := SOK_len hS
    have h3 := hK.1
    have hrt := hrB t (by omega)
    have hPt := hP t (by omega)
    have hpl := pcN_le K S (B.getD t 0)
    rw [X3_gathers_L50, if_neg (by rw [J_leN (by omega) (by omega)]; omega), if_pos (J_inN (by omega) (by omega)), J_ix (by omega), hbu.2 t (by omega), pieceOf_JR hF hK hst hs hr hS (by omega)]
    simp only [Option.bind_some]
    rw [if_pos (J_inM (by omega) (by omega))]
    by_cases c : lo ≤ t ∧ t < hi
    · have hnt := hne t (by omega) (by omega)
      have hc := cl_le G (B.getD t 0)
      have hlen := insAt_len G hc (B.getD t 0)
      obtain ⟨md1, e1, hG1⟩ := makes_J hF hG hsG (by omega) hrG hrt hnt
      rw [e1]
      simp only [Option.bind_some, bnd]
      rw [J_succ]
      obtain ⟨fl', md', G', s1, s2, s3, s4, s5, s7, s8⟩ := gathersBuf_L hF hK hst hbu hs hr hsB hrB hS hi0 hP hhi d n (t + 1) 1 md1 (insAt G (cl G (B.getD t 0)) (B.getD t 0)) (by omega) (by omega) hG1 (insAt_Srt hsG hnt) (KR_mem.mpr (fun x hx => by
        rcases (insAt_mem hc).mp hx with q | q
        · rw [q]; exact hrt
        · exact KR_mem.mp hrG x q)) (fun j hj1 hj2 hx => by
        rcases (insAt_mem hc).mp hx with q | q
        · have := hsB t j (by omega) (by omega)
          omega
        · exact hne j (by omega) hj2 q) (by omega) (Or.inr rfl)
      refine ⟨fl', md', G', ?_, s2, s3, s4, fun x => ?_, s7, ?_⟩
      · rw [s1]
        rcases hPt.mpr c with q | q
        · rw [if_pos (by rw [q]; congr 1; omega)]
        · rw [if_neg (by rw [J_eq (by omega) (by omega)]; omega), if_pos (by rw [q.1]; exact J_m1.symm), if_pos (by rw [q.2]; exact J_0.symm)]
      · rw [s5, insAt_mem hc, show max (t + 1) lo = max t lo + 1 by omega, BM_step (lo := max t lo) (by omega), show max t lo = t by omega]
        constructor
        · rintro ((q | q) | q)
          · exact Or.inr (Or.inl q.symm)
          · exact Or.inl q
          · exact Or.inr (Or.inr q)
        · rintro (q | q | q)
          · exact Or.inl (Or.inr q)
          · exact Or.inl (Or.inl q.symm)
          · exact Or.inr q
      · rw [s8]
        exact ⟨fun q => absurd q.1 (by decide), fun q => absurd q.2 (by omega)⟩
    · have hn1 : ¬ pcN K S (B.getD t 0) = i + 1 := fun q => c (hPt.mp (Or.inl q))
      have hn2 : ¬ (pcN K S (B.getD t 0) = 0 ∧ i = 0) := fun q => c (hPt.mp (Or.inr q))
      obtain ⟨fl', md', G', s1, s2, s3, s4, s5, s7, s8⟩ := gathersBuf_L hF hK hst hbu hs hr hsB hrB hS hi0 hP hhi d n (t + 1) fl md G (by omega) (by omega) hG hsG hrG (fun j hj1 hj2 => hne j (by omega) hj2) (by omega) hfl
      refine ⟨fl', md', G', ?_, s2, s3, s4, fun x => ?_, s7, ?_⟩
      · rw [← s1, if_neg (by rw [J_eq (by omega) (by omega)]; omega)]
        simp only [bnd]
        rw [J_succ]
        by_cases c2 : pcN K S (B.getD t 0) = 0
        · rw [if_pos (by rw [c2]; exact J_m1.symm), if_neg (by rw [J_0, J_eq (by omega) (by omega)]; omega)]
        · rw [if_neg (by rw [J_m1, J_eq (by omega) (by omega)]; omega)]
      · rw [s5]
        have : BM B (max (t + 1) lo) hi x ↔ BM B (max t lo) hi x := by
          constructor
          · rintro ⟨j, q1, q2, q3⟩
            exact ⟨j, by omega, q2, q3⟩
          · rintro ⟨j, q1, q2, q3⟩
            exact ⟨j, by omega, q2, q3⟩
        rw [this]
      · rw [s8]
        constructor
        · rintro ⟨q1, q2⟩
          exact ⟨q1, by omega⟩
        · rintro ⟨q1, q2⟩
          exact ⟨q1, by omega⟩
end MRG
