/-! merging as a whole -/
section MALL
variable {F : Nat}
theorem y81_J {a b : Nat} (h : a ≤ b) (hb : b < 2147483648) : (if J (b : Int) ≤ J (a : Int) then (0 : Int32) else (J (b : Int) - J (a : Int)) - 1) = J ((b - a - 1 : Nat) : Int) := by
  by_cases c : b ≤ a
  · rw [if_pos (by rw [J_leN (by omega) (by omega)]; exact c), show b - a - 1 = 0 by omega]
    exact J_0
  · rw [if_neg (by rw [J_leN (by omega) (by omega)]; exact c), J_1, J_sub, J_sub]
    congr 1
    omega
theorem mloop (hF : 2000 ≤ F) {K M B S : List Int} {bd : Int} {zk zm zb zs : zN} {row mk bu st : Nat → Int32} (h : LK K M B S bd) (hk : RN 256 zk K) (hm : RN 256 zm M) (hb : RN 16 zb B) (hsr : RN 256 zs S) (hK : RA 256 row K) (hMk : RA 256 mk M) (hbu : RA 16 bu B) (hst : RA 257 st S) : ∀ (d n m i : Nat) (zt : zT) (zf zg : zN) (sp : Int32) (md bg : Nat → Int32) (G C : List Int) (up un : Int64), d < n → d < m → i + d = S.length → MI K M B S bd i G C → RN 256 zf G → RN 256 zg C → RA 256 md G → RA 257 bg C → ∃ G' C' sp' zt' zf' zg' md' bg' up' un', X2_mergeAll_L46 zk zm zb zs (J bd) F n (J i) zt zf zg sp = some (zt', zf', zg', sp') ∧ X3_mergesAll_L9 (J bd) row mk (J K.length) st (J S.length) bu (J B.length) F m (J i) (J C.length) sp md bg (J G.length) up un = some (J (C' : List Int).length, sp', md', bg', J (G' : List Int).length, up', un') ∧ MI K M B S bd S.length G' C' ∧ RN 256 zf' G' ∧ RN 256 zg' C' ∧ RA 256 md' G' ∧ RA 257 bg' C'
  | d, 0, m, i, zt, zf, zg, sp, md, bg, G, C, up, un, hn, _, _, _, _, _, _, _ => absurd hn (Nat.not_lt_zero d)
  | d, n, 0, i, zt, zf, zg, sp, md, bg, G, C, up, un, _, hn, _, _, _, _, _, _ => absurd hn (Nat.not_lt_zero d)
  | 0, n + 1, m + 1, i, zt, zf, zg, sp, md, bg, G, C, up, un, _, _, hd, hI, h1, h2, h3, h4 => by
    have hl := hsr.len
    have e : i = S.length := by omega
    subst e
    refine ⟨G, C, sp, zt, zf, zg, md, bg, up, un, ?_, ?_, hI, h1, h2, h3, h4⟩
    · rw [X2_mergeAll_L46, length_J hsr]
      simp only [Option.bind_some]
      rw [if_pos (by exact Int32.le_refl _)]
    · rw [X3_mergesAll_L9, if_pos (by exact Int32.le_refl _)]
  | d + 1, n + 1, m + 1, i, zt, zf, zg, sp, md, bg, G, C, up, un, hn, hm', hd, hI, h1, h2, h3, h4 => by
    have hl := hsr.len
    obtain ⟨G1, C1, i1, ⟨zt1, zf1, zg1, e1, i2, i3⟩, i4, r, md1, e2, i5, i6⟩ := mstep hF zt sp up un h hk hm hb hsr hK hMk hbu hst (i := i) (by omega) hI h1 h2 h3 h4
    have hc1 := i3.len
    have hc2 : C.length ≤ 256 := h2.len
    have hy := y81_J (a := C.length) (b := C1.length) i4 (by omega)
    have key : ∃ bg1 up1 un1, RA 257 bg1 C1 ∧ X3_mergesAll_L9 (J bd) row mk (J K.length) st (J S.length) bu (J B.length) F (m + 1) (J i) (J C.length) sp md bg (J G.length) up un = X3_mergesAll_L9 (J bd) row mk (J K.length) st (J S.length) bu (J B.length) F m (J (i + 1 : Nat)) (J C1.length) (sp + J (C1.length - C.length - 1 : Nat)) md1 bg1 (J G1.length) up1 un1 := by
      rcases i6 with ⟨q1, q2⟩ | ⟨q1, bg1, up1, un1, q2, q3⟩
      · refine ⟨upd bg C.length (J G.length), up, un, ?_, ?_⟩
        · rw [q2]
          exact RA_push h4 (by omega) _
        · rw [X3_mergesAll_L9, if_neg (by rw [J_leN (by omega) (by omega)]; omega), e2]
          simp only [Option.bind_some]
          rw [if_pos q1, if_pos (J_inN (by omega) (by omega)), J_ix (by omega)]
          simp only [bnd, Option.bind_some]
          rw [J_succ, J_succ]
          have hlen : C.length + 1 = C1.length := by rw [q2]; simp
          rw [hlen, hy]
      · refine ⟨bg1, up1, un1, q3, ?_⟩
        rw [X3_mergesAll_L9, if_neg (by rw [J_leN (by omega) (by omega)]; omega), e2]
        simp only [Option.bind_some]
        rw [if_neg q1, q2]
        simp only [bnd, Option.bind_some]
        rw [J_succ, hy]
    obtain ⟨bg1, up1, un1, k1, k2⟩ := key
    obtain ⟨G', C', sp', zt', zf', zg', md', bg', up', un', s1, s2, s3⟩ := mloop hF h hk hm hb hsr hK hMk hbu hst d n m (i + 1) zt1 zf1 zg1 (sp + J (C1.length - C.length - 1 : Nat)) md1 bg1 G1 C1 up1 un1 (by omega) (by omega) (by omega) i1 i2 i3 i5 k1
    refine ⟨G', C', sp', zt', zf', zg', md', bg', up', un', ?_, by rw [k2]; exact s2, s3⟩
    rw [X2_mergeAll_L46, length_J hsr]
    simp only [Option.bind_some]
    rw [if_neg (by rw [J_leN (by omega) (by omega)]; omega), e1]
    simp only [Option.bind_some, bnd]
    rw [J_succ]
    exact s1
theorem getD_rep (n j : Nat) : (List.replicate n (0 : Int)).getD j 0 = 0 := by
  rw [List.getD_eq_getElem?_getD, List.getElem?_replicate]
  split <;> rfl
theorem copy_L {G : List Int} {zf : zN} (hf : RN 256 zf G) : ∀ (T : List Int) (n : Nat) (A : List Int) (zk zm : zN), T.length < n → G = A ++ T → RN 256 zk A → RN 256 zm (List.replicate A.length 0) → ∃ zk' zm', X2_mergeAll_L74 F zf n (J A.length) zk zm = some (zk', zm') ∧ RN 256 zk' G ∧ RN 256 zm' (List.replicate G.length 0)
  | T, 0, A, zk, zm, h, _, _, _ => absurd h (Nat.not_lt_zero _)
  | [], n + 1, A, zk, zm, _, hG, hk, hm => by
    have hl := hf.len
    rw [List.append_nil] at hG
    subst hG
    refine ⟨zk, zm, ?_, hk, hm⟩
    rw [X2_mergeAll_L74, length_J hf]
    simp only [Option.bind_some]
    rw [if_pos (by exact Int32.le_refl _)]
  | x :: T, n + 1, A, zk, zm, h, hG, hk, hm => by
    have hl := hf.len
    have hlen : G.length = A.length + T.length + 1 := by rw [hG]; simp; omega
    have hx : G.getD A.length 0 = x := by rw [hG]; exact getD_mid A x T
    have hr := hf.2.2.2.2 A.length (by omega)
    simp only [List.length_cons] at h
    obtain ⟨zk1, e1, hk1⟩ := push_J (F := F) hk (by omega) hr
    obtain ⟨zm1, e2, hm1⟩ := push_J (F := F) hm (by simp; omega) (x := 0) (by omega)
    rw [← List.replicate_succ'] at hm1
    obtain ⟨zk', zm', s1, s2, s3⟩ := copy_L hf T n (A ++ [x]) zk1 zm1 (by omega) (by rw [hG]; simp) (by rw [← hx]; exact hk1) (by rw [List.length_append]; exact hm1)
    refine ⟨zk', zm', ?_, s2, s3⟩
    rw [X2_mergeAll_L74, length_J hf]
    simp only [Option.bind_some]
    rw [if_neg (by rw [J_leN (by omega) (by omega)]; omega), at_in hf (by omega)]
    simp only [Option.bind_some]
    rw [e1]
    simp only [Option.bind_some]
    rw [J_0, e2]
    simp only [Option.bind_some, bnd]
    rw [J_succ]
    rw [List.length_append] at s1
    exact s1
theorem allBuf_L (hF : 2000 ≤ F) {B : List Int} {bu : Nat → Int32} (hbu : RA 16 bu B) (hsB : Srt B) (hrB : KR B) : ∀ (d n t : Nat) (md : Nat → Int32) (G : List Int), d < n → t + d = B.length → RA 256 md G → Srt G → KR G → (∀ j, t ≤ j → j < B.length → ¬ B.getD j 0 ∈ G) → G.length + d ≤ 256 → ∃ md' G', X3_mergesAll_L110 bu (J B.length) F n (J t) md (J G.length) = some (md', J (G' : List Int).length) ∧ RA 256 md' G' ∧ Srt G' ∧ KR G' ∧ ∀ x, x ∈ G' ↔ x ∈ G ∨ BM B t B.length x
  | d, 0, t, md, G, h, _, _, _, _, _, _ => absurd h (Nat.not_lt_zero d)
  | 0, n + 1, t, md, G, _, hd, hG, hsG, hrG, hne, hcap => by
    have h1 := hbu.1
    refine ⟨md, G, ?_, hG, hsG, hrG, fun x => ⟨Or.inl, fun q => q.elim id (fun q => absurd q (BM_none (by omega)))⟩⟩
    rw [X3_mergesAll_L110, if_pos (by rw [J_leN (by omega) (by omega)]; omega)]
  | d + 1, n + 1, t, md, G, h, hd, hG, hsG, hrG, hne, hcap => by
    have h1 := hbu.1
    have hrt := hrB t (by omega)
    rw [X3_mergesAll_L110, if_neg (by rw [J_leN (by omega) (by omega)]; omega), if_pos (J_inN (by omega) (by omega)), J_ix (by omega), hbu.2 t (by omega)]
    have hnt := hne t (Nat.le_refl _) (by omega)
    have hc := cl_le G (B.getD t 0)
    have hlen := insAt_len G hc (B.getD t 0)
    obtain ⟨md1, e1, hG1⟩ := makes_J hF hG hsG (by omega) hrG hrt hnt
    rw [e1]
    simp only [Option.bind_some, bnd]
    rw [J_succ]
    obtain ⟨md', G', s1, s2, s3, s4, s5⟩ := allBuf_L hF hbu hsB hrB d n (t + 1) md1 (insAt G (cl G (B.getD t 0)) (B.getD t 0)) (by omega) (by omega) hG1 (insAt_Srt hsG hnt) (KR_mem.mpr (fun x hx => by
      rcases (insAt_mem hc).mp hx with q | q
      · rw [q]; exact hrt
      · exact KR_mem.mp hrG x q)) (fun j hj1 hj2 hx => by
      rcases (insAt_mem hc).mp hx with q | q
      · have := hsB t j (by omega) (by omega)
        omega
      · exact hne j (by omega) hj2 q) (by omega)
    refine ⟨md', G', s1, s2, s3, s4, fun x => ?_⟩
    rw [s5, insAt_mem hc, BM_step (lo := t) (by omega)]
    constructor
    · rintro ((q | q) | q)
      · exact Or.inr (Or.inl q.symm)
      · exact Or.inl q
      · exact Or.inr (Or.inr q)
    · rintro (q | q | q)
      · exact Or.inl (Or.inr q)
      · exact Or.inl (Or.inl q.symm)
      · exact Or.inr q
theorem allBufR_L (hF : 2000 ≤ F) {B : List Int} {bu : Nat → Int32} (hbu : RA 16 bu B) (hsB : Srt B) (hrB : KR B) : ∀ (d n t : Nat) (md : Nat → Int32) (G : List Int), d < n → t + d = B.length → RA 256 md G → Srt G → KR G → (∀ j, t ≤ j → j < B.length → ¬ B.getD j 0 ∈ G) → G.length + d ≤ 256 → ∃ md' G', X3_rebuild_L91 bu (J B.length) F n (J t) md (J G.length) = some (md', J (G' : List Int).length) ∧ RA 256 md' G' ∧ Srt G' ∧ KR G' ∧ ∀ x, x ∈ G' ↔ x ∈ G ∨ BM B t B.length x
  | d, 0, t, md, G, h, _, _, _, _, _, _ => absurd h (Nat.not_lt_zero d)
  | 0, n + 1, t, md, G, _, hd, hG, hsG, hrG, hne, hcap => by
    have h1 := hbu.1
    refine ⟨md, G, ?_, hG, hsG, hrG, fun x => ⟨Or.inl, fun q => q.elim id (fun q => absurd q (BM_none (by omega)))⟩⟩
    rw [X3_rebuild_L91, if_pos (by rw [J_leN (by omega) (by omega)]; omega)]
  | d + 1, n + 1, t, md, G, h, hd, hG, hsG, hrG, hne, hcap => by
    have h1 := hbu.1
    have hrt := hrB t (by omega)
    rw [X3_rebuild_L91, if_neg (by rw [J_leN (by omega) (by omega)]; omega), if_pos (J_inN (by omega) (by omega)), J_ix (by omega), hbu.2 t (by omega)]
    have hnt := hne t (Nat.le_refl _) (by omega)
    have hc := cl_le G (B.getD t 0)
    have hlen := insAt_len G hc (B.getD t 0)
    obtain ⟨md1, e1, hG1⟩ := makes_J hF hG hsG (by omega) hrG hrt hnt
    rw [e1]
    simp only [Option.bind_some, bnd]
    rw [J_succ]
    obtain ⟨md', G', s1, s2, s3, s4, s5⟩ := allBufR_L hF hbu hsB hrB d n (t + 1) md1 (insAt G (cl G (B.getD t 0)) (B.getD t 0)) (by omega) (by omega) hG1 (insAt_Srt hsG hnt) (KR_mem.mpr (fun x hx => by
      rcases (insAt_mem hc).mp hx with q | q
      · rw [q]; exact hrt
      · exact KR_mem.mp hrG x q)) (fun j hj1 hj2 hx => by
      rcases (insAt_mem hc).mp hx with q | q
      · have := hsB t j (by omega) (by omega)
        omega
      · exact hne j (by omega) hj2 q) (by omega)
    refine ⟨md', G', s1, s2, s3, s4, fun x => ?_⟩
    rw [s5, insAt_mem hc, BM_step (lo := t) (by omega)]
    constructor
    · rintro ((q | q) | q)
      · exact Or.inr (Or.inl q.symm)
      · exact Or.inl q
      · exact Or.inr (Or.inr q)
    · rintro (q | q | q)
      · exact Or.inl (Or.inr q)
      · exact Or.inl (Or.inl q.symm)
      · exact Or.inr q

theorem becomes20_L {G : List Int} {md : Nat → Int32} (hG : RA 256 md G) : ∀ (d n i : Nat) (row mq : Nat → Int32), d < n → i + d = G.length → (∀ j, j < i → row j = J (G.getD j 0)) → (∀ j, j < i → mq j = 0) → ∃ row' mq', X3_becomes_L20 md (J G.length) n (J i) row mq = some (row', mq') ∧ (∀ j, j < G.length → row' j = J (G.getD j 0)) ∧ ∀ j, j < G.length → mq' j = 0
  | d, 0, i, row, mq, h, _, _, _ => absurd h (Nat.not_lt_zero d)
  | 0, n + 1, i, row, mq, _, hd, h1, h2 => by
    have hl := hG.1
    refine ⟨row, mq, ?_, fun j hj => h1 j (by omega), fun j hj => h2 j (by omega)⟩
    rw [X3_becomes_L20, if_pos (by rw [J_leN (by omega) (by omega)]; omega)]
  | d + 1, n + 1, i, row, mq, h, hd, h1, h2 => by
    have hl := hG.1
    rw [X3_becomes_L20, if_neg (by rw [J_leN (by omega) (by omega)]; omega), if_pos (J_inN (by omega) (by omega)), if_pos (J_inN (by omega) (by omega)), if_pos (J_inN (by omega) (by omega)), J_ix (by omega), hG.2 i (by omega)]
    simp only [bnd]
    rw [J_succ]
    exact becomes20_L hG d n (i + 1) _ _ (by omega) (by omega) (fun j hj => by
      unfold upd
      by_cases c : j = i
      · rw [if_pos c, c]
      · rw [if_neg c]; exact h1 j (by omega)) (fun j hj => by
      unfold upd
      by_cases c : j = i
      · rw [if_pos c]
      · rw [if_neg c]; exact h2 j (by omega))
theorem becomes55_L {C : List Int} {bg : Nat → Int32} (hC : RA 257 bg C) : ∀ (d n i : Nat) (st : Nat → Int32), d < n → i + d = C.length → (∀ j, j < i → st j = J (C.getD j 0)) → ∃ st', X3_becomes_L55 (J C.length) bg n (J i) st = some st' ∧ ∀ j, j < C.length → st' j = J (C.getD j 0)
  | d, 0, i, st, h, _, _ => absurd h (Nat.not_lt_zero d)
  | 0, n + 1, i, st, _, hd, h1 => by
    have hl := hC.1
    refine ⟨st, ?_, fun j hj => h1 j (by omega)⟩
    rw [X3_becomes_L55, if_pos (by rw [J_leN (by omega) (by omega)]; omega)]
  | d + 1, n + 1, i, st, h, hd, h1 => by
    have hl := hC.1
    rw [X3_becomes_L55, if_neg (by rw [J_leN (by omega) (by omega)]; omega), if_pos (J_inN (by omega) (by omega)), if_pos (J_inN (by omega) (by omega)), J_ix (by omega), hC.2 i (by omega)]
    simp only [bnd]
    rw [J_succ]
    exact becomes55_L hC d n (i + 1) _ (by omega) (by omega) (fun j hj => by
      unfold upd
      by_cases c : j = i
      · rw [if_pos c, c]
      · rw [if_neg c]; exact h1 j (by omega))
theorem becomes_J (hF : 2000 ≤ F) {G C : List Int} {row mk st md bg : Nat → Int32} (rm pc bn : Int32) (hG : RA 256 md G) (hC : RA 257 bg C) : ∃ row' mk' st', X3_becomes F row mk rm st pc bn md bg (J G.length) (J C.length) = some (row', mk', J G.length, st', J C.length, 0) ∧ RA 256 row' G ∧ RA 256 mk' (List.replicate G.length 0) ∧ RA 257 st' C := by
  have h1 := hG.1
  have h2 := hC.1
  obtain ⟨row', mk', e1, q1, q2⟩ := becomes20_L hG G.length F 0 row mk (by omega) (by omega) (fun j hj => absurd hj (Nat.not_lt_zero j)) (fun j hj => absurd hj (Nat.not_lt_zero j))
  obtain ⟨st', e2, q3⟩ := becomes55_L hC C.length F 0 st (by omega) (by omega) (fun j hj => absurd hj (Nat.not_lt_zero j))
  refine ⟨row', mk', st', ?_, ⟨h1, q1⟩, ⟨by simpa using h1, fun j hj => ?_⟩, ⟨h2, q3⟩⟩
  · unfold X3_becomes
    rw [show (0 : Int32) = J ((0 : Nat) : Int) from J_0, e1]
    simp only [Option.bind_some]
    rw [e2]
    simp only [Option.bind_some]
  · rw [getD_rep, ← J_0]
    exact q2 j (by simpa using hj)
end MALL
