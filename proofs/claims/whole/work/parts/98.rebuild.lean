/-! the call rebuild -/
section MREB
variable {F : Nat}
theorem reb56_L (hF : 2000 ≤ F) {K M : List Int} {row mk : Nat → Int32} (hK : RA 256 row K) (hm : RA 256 mk M) (hM : M.length = K.length) (hM2 : ∀ j, j < M.length → M.getD j 0 = 0 ∨ M.getD j 0 = 1) (hs : Srt K) (hr : KR K) : ∀ (d n p : Nat) (md : Nat → Int32) (G : List Int), d < n → p + d = K.length → RA 256 md G → Srt G → KR G → (∀ j, p ≤ j → j < K.length → ¬ K.getD j 0 ∈ G) → G.length + d ≤ 256 → ∃ md' G', X3_rebuild_L56 row mk (J K.length) F n (J p) md (J G.length) = some (md', J (G' : List Int).length) ∧ RA 256 md' G' ∧ Srt G' ∧ KR G' ∧ (∀ x, x ∈ G' ↔ x ∈ G ∨ GM K M p K.length x) ∧ G'.length ≤ G.length + d
  | d, 0, p, md, G, h, _, _, _, _, _, _ => absurd h (Nat.not_lt_zero d)
  | 0, n + 1, p, md, G, _, hd, hG, hsG, hrG, hne, hcap => by
    have h1 := hK.1
    refine ⟨md, G, ?_, hG, hsG, hrG, fun x => ⟨Or.inl, fun q => q.elim id (fun q => absurd q (GM_none (by omega)))⟩, by omega⟩
    rw [X3_rebuild_L56, if_pos (by rw [J_leN (by omega) (by omega)]; omega)]
  | d + 1, n + 1, p, md, G, h, hd, hG, hsG, hrG, hne, hcap => by
    have h1 := hK.1
    have hrp := hr p (by omega)
    rw [X3_rebuild_L56, if_neg (by rw [J_leN (by omega) (by omega)]; omega), if_pos (J_inN (by omega) (by omega)), J_ix (by omega), hm.2 p (by omega), hK.2 p (by omega)]
    by_cases c : M.getD p 0 = 0
    · rw [c, if_pos J_0.symm, if_pos (J_inM (by omega) (by omega))]
      have hnp := hne p (Nat.le_refl _) (by omega)
      obtain ⟨md1, e1, hG1⟩ := makes_J hF hG hsG (by omega) hrG hrp hnp
      rw [e1]
      simp only [Option.bind_some, bnd]
      rw [J_succ]
      have hc := cl_le G (K.getD p 0)
      have hlen := insAt_len G hc (K.getD p 0)
      obtain ⟨md', G', s1, s2, s3, s4, s5, s6⟩ := reb56_L hF hK hm hM hM2 hs hr d n (p + 1) md1 (insAt G (cl G (K.getD p 0)) (K.getD p 0)) (by omega) (by omega) hG1 (insAt_Srt hsG hnp) (KR_mem.mpr (fun x hx => by
        rcases (insAt_mem hc).mp hx with q | q
        · rw [q]; exact hrp
        · exact KR_mem.mp hrG x q)) (fun j hj1 hj2 hx => by
        rcases (insAt_mem hc).mp hx with q | q
        · have := hs p j (by omega) (by omega)
          omega
        · exact hne j (by omega) hj2 q) (by omega)
      refine ⟨md', G', s1, s2, s3, s4, fun x => ?_, by omega⟩
      rw [s5, insAt_mem hc, GM_step (lo := p) (by omega)]
      constructor
      · rintro ((q | q) | q)
        · exact Or.inr (Or.inl ⟨q.symm, c⟩)
        · exact Or.inl q
        · exact Or.inr (Or.inr q)
      · rintro (q | q | q)
        · exact Or.inl (Or.inr q)
        · exact Or.inl (Or.inl q.1.symm)
        · exact Or.inr q
    · have hm2 := hM2 p (by omega)
      rw [if_neg (by rw [J_0, J_eq (by omega) (by omega)]; exact c)]
      simp only [bnd]
      rw [J_succ]
      obtain ⟨md', G', s1, s2, s3, s4, s5, s6⟩ := reb56_L hF hK hm hM hM2 hs hr d n (p + 1) md G (by omega) (by omega) hG hsG hrG (fun j hj1 hj2 => hne j (by omega) hj2) (by omega)
      refine ⟨md', G', s1, s2, s3, s4, fun x => ?_, by omega⟩
      rw [s5, GM_step (lo := p) (by omega)]
      constructor
      · rintro (q | q)
        · exact Or.inl q
        · exact Or.inr (Or.inr q)
      · rintro (q | q | q)
        · exact Or.inl q
        · exact absurd q.2 c
        · exact Or.inr q
theorem Srt_prefix {a b : List Int} (h : Srt (a ++ b)) : Srt a := fun i j hij hj => by
  have := h i j hij (by rw [List.length_append]; omega)
  rw [getD_app_l (by omega), getD_app_l hj] at this
  exact this
theorem cutS_cong {bd : Int} {G G' C : List Int} {p : Nat} (h : ∀ j, j ≤ p → gd G j = gd G' j) (hS : SOK C p) : cutS bd G C 0 p = cutS bd G' C 0 p := by
  unfold cutS
  by_cases c : C.length = 0
  · rw [if_pos (Or.inl c), if_pos (Or.inl c)]
  · have hlt := lastS_lt hS (by omega)
    rw [rng_cong (f := gd G) (g := gd G') (p - lastS C) (fun i _ h2 => h i (by omega))]
theorem reb51_L (hF : 2000 ≤ F) {b : Int} {G : List Int} {zf : zN} (hb : 0 ≤ b ∧ b ≤ 20) (hf : RN 256 zf G) (hs : Srt G) (hr : KR G) : ∀ (T : List Int) (n : Nat) (A S : List Int) (zk zm zs zr zu : zN) (zt : zT), T.length < n → G = A ++ T → RN 256 zk A → RN 256 zm (List.replicate A.length 0) → PI b A S A.length zs zr zu zt → ∃ zk' zm' zs' zr' zu' zt', X2_rebuild_L51 (J b) F zf n (J A.length) zk zm zs zr zu zt = some (zk', zm', zs', zr', zu', zt') ∧ RN 256 zk' G ∧ RN 256 zm' (List.replicate G.length 0) ∧ PI b G (cutF b G 0 S A.length T.length) G.length zs' zr' zu' zt'
  | T, 0, A, S, zk, zm, zs, zr, zu, zt, h, _, _, _, _ => absurd h (Nat.not_lt_zero _)
  | [], n + 1, A, S, zk, zm, zs, zr, zu, zt, _, hG, hk, hm, p => by
    have hl := hf.len
    rw [List.append_nil] at hG
    subst hG
    refine ⟨zk, zm, zs, zr, zu, zt, ?_, hk, hm, p⟩
    rw [X2_rebuild_L51, length_J hf]
    simp only [Option.bind_some]
    rw [if_pos (by exact Int32.le_refl _)]
  | x :: T, n + 1, A, S, zk, zm, zs, zr, zu, zt, h, hG, hk, hm, p => by
    have hl := hf.len
    have hlen : G.length = A.length + T.length + 1 := by rw [hG]; simp; omega
    have hx : G.getD A.length 0 = x := by rw [hG]; exact getD_mid A x T
    have hG2 : G = (A ++ [x]) ++ T := by rw [hG]; simp
    simp only [List.length_cons] at h
    have hs1 : Srt (A ++ [x]) := Srt_prefix (b := T) (by rw [← hG2]; exact hs)
    have hr1 : KR (A ++ [x]) := KR_mem.mpr (fun y hy => KR_mem.mp hr y (by rw [hG2]; exact List.mem_append_left _ hy))
    obtain ⟨zk1, zm1, zs1, zr1, zu1, zt1, e1, e2, e3, e4⟩ := addLast_J hF hk hm (by simp) hs1 hr1 hb (by omega) p
    rw [← List.replicate_succ'] at e3
    have hcong : cutS b (A ++ [x]) S 0 A.length = cutS b G S 0 A.length := cutS_cong (fun j hj => by
      have q := getD_app_l (l := A ++ [x]) (l2 := T) (i := j) (d := (0 : Int)) (by rw [List.length_append]; simp only [List.length_cons, List.length_nil]; omega)
      unfold gd
      rw [hG2, q]) p.2.1
    rw [hcong] at e4
    have hlA : (A ++ [x]).length = A.length + 1 := by simp
    obtain ⟨zk', zm', zs', zr', zu', zt', s1, s2, s3, s4⟩ := reb51_L hF hb hf hs hr T n (A ++ [x]) (cutS b G S 0 A.length) zk1 zm1 zs1 zr1 zu1 zt1 (by omega) hG2 e2 (by rw [hlA]; exact e3) (by rw [hlA]; exact e4)
    refine ⟨zk', zm', zs', zr', zu', zt', ?_, s2, s3, ?_⟩
    · rw [X2_rebuild_L51, length_J hf]
      simp only [Option.bind_some]
      rw [if_neg (by rw [J_leN (by omega) (by omega)]; omega), at_in hf (by omega), hx]
      simp only [Option.bind_some]
      rw [e1]
      simp only [Option.bind_some, bnd]
      rw [J_succ]
      rw [hlA] at s1
      exact s1
    · rw [hlA] at s4
      exact s4
theorem PI_nil {bd : Int} {zs zr zu : zN} (zt : zT) (h1 : RN 256 zs []) (h2 : RN 256 zr []) (h3 : RN 256 zu []) : PI bd [] [] 0 zs zr zu zt := ⟨h1, ⟨fun i j _ h => by simp at h, fun i h => by simp at h, fun h => by simp at h, fun h => absurd h (Nat.lt_irrefl 0)⟩, fun i h => by simp at h, fun h => by simp at h, [], [], h2, h3, rfl, rfl, fun i h => by simp at h⟩
theorem op_rebuild (hF : 2000 ≤ F) {K M B S : List Int} {bd ro : Int} {zk zm zb zs zr zu zf : zN} {zt : zT} {zmc mm : Int32} {yrow ymk yst ybu : Nat → Int32} {yrm ypc ybn : Int32} (yth : Int32) (md bg : Nat → Int32) (up un : Int64) (h : ST K M B S bd ro) (hX : XS K M B S bd zk zm zb zs zr zu zt zmc) (hY : YS K M B S yrow ymk yrm yst ypc ybu ybn) (p1 p2 : Int32) : (X2_rebuild F zk zm zb zs zr zu zt zf (J bd) (J ro) zmc p1 p2 = some (Sum.inl 1) ∧ X3_rebuild F yth (J bd) (J ro) yrow ymk yrm yst ypc ybu ybn md bg mm up un p1 p2 = some (0, 1, J bd, J ro, yrow, ymk, yrm, yst, ypc, ybn, md, bg, mm, up, un)) ∨ (∃ v K' M' S' b r zk' zm' zb' zs' zr' zu' zt' zf' zmc' yrow' ymk' yrm' yst' ypc' ybn' md' bg' mm' up' un', X2_rebuild F zk zm zb zs zr zu zt zf (J bd) (J ro) zmc p1 p2 = some (Sum.inr (v, zk', zm', zb', zs', zr', zu', zt', zf', J b, J r, zmc')) ∧ X3_rebuild F yth (J bd) (J ro) yrow ymk yrm yst ypc ybu ybn md bg mm up un p1 p2 = some (v, 0, J b, J r, yrow', ymk', yrm', yst', ypc', ybn', md', bg', mm', up', un') ∧ ST K' M' [] S' b r ∧ XS K' M' [] S' b zk' zm' zb' zs' zr' zu' zt' zmc' ∧ YS K' M' [] S' yrow' ymk' yrm' yst' ypc' ybu ybn') := by
  have hx := int_rng p1
  have ep := J_of p1
  generalize p1.toInt = b at hx ep
  subst ep
  have hz := int_rng p2
  have ep := J_of p2
  generalize p2.toInt = r at hz ep
  subst ep
  obtain ⟨x1, x2, x3, x4, x5⟩ := hX
  obtain ⟨y1, y2, y3, y4, y5, y6, y7⟩ := hY
  subst y5 y6 y7
  obtain ⟨hLK, b1, b2, b3⟩ := h
  have hl := y1.1
  have hbl := y4.1
  have h256 := hLK.2.2.2.2.2.2.2.1
  have c1 : J b < 0 ↔ b < 0 := by rw [J_0, J_lt (by omega) (by omega)]
  have c2 : 20 < J b ↔ 20 < b := by rw [J_20, J_lt (by omega) (by omega)]
  have c3 : J r < 1 ↔ r < 1 := by rw [J_1, J_lt (by omega) (by omega)]
  have c4 : J r ≤ 16 ↔ r ≤ 16 := by rw [J_16, J_le (by omega) (by omega)]
  have y27 : (if J b < 0 then (1 : Int32) else (if 20 < J b then 1 else (if J r < 1 then 1 else (if J r ≤ 16 then 0 else 1)))) = if (0 ≤ b ∧ b ≤ 20) ∧ 1 ≤ r ∧ r ≤ 16 then 0 else 1 := by
    by_cases d1 : b < 0
    · rw [if_pos (c1.mpr d1), if_neg (by omega)]
    · rw [if_neg (fun q => d1 (c1.mp q))]
      by_cases d2 : 20 < b
      · rw [if_pos (c2.mpr d2), if_neg (by omega)]
      · rw [if_neg (fun q => d2 (c2.mp q))]
        by_cases d3 : r < 1
        · rw [if_pos (c3.mpr d3), if_neg (by omega)]
        · rw [if_neg (fun q => d3 (c3.mp q))]
          by_cases d4 : r ≤ 16
          · rw [if_pos (c4.mpr d4), if_pos ⟨by omega, by omega⟩]
          · rw [if_neg (fun q => d4 (c4.mp q)), if_neg (by omega)]
  by_cases R : (0 ≤ b ∧ b ≤ 20) ∧ 1 ≤ r ∧ r ≤ 16
  · obtain ⟨zf', T, t1, t2, t3, t4⟩ := gatherAll_J hF zf hLK x1 x2 x3
    have hTl := t2.len
    have hTr : KR T := KR_mem.mpr (fun x hx => by
      rcases (t4 x).mp hx with ⟨j, q1, q2, q3, q4⟩ | ⟨j, q1, q2, q3⟩
      · rw [← q3]
        exact hLK.2.1 j q2
      · rw [← q3]
        exact hLK.2.2.2.2.2.1 j q2)
    have n1 := RN_nil (N := 256) (Nat.le_refl _) zs.1
    have n2 := RN_nil (N := 256) (Nat.le_refl _) zr.1
    have n3 := RN_nil (N := 256) (Nat.le_refl _) zu.1
    have n4 := RN_nil (N := 256) (Nat.le_refl _) zk.1
    have n5 := RN_nil (N := 256) (Nat.le_refl _) zm.1
    have n6 := RN_nil (N := 16) (by omega) zb.1
    obtain ⟨zk', zm', zs', zr', zu', zt', e1, e2, e3, e4⟩ := reb51_L hF R.1 t2 t3 hTr T F [] [] (zk.1, 0) (zm.1, 0) (zs.1, 0) (zr.1, 0) (zu.1, 0) zt (by omega) rfl n4 n5 (PI_nil zt n1 n2 n3)
    obtain ⟨md1, G1, f1, f2, f3, f4, f5, f6⟩ := reb56_L hF y1 y2 hLK.2.2.1 hLK.2.2.2.1 hLK.1 hLK.2.1 K.length F 0 md [] (by omega) (by omega) ⟨by simp, fun i hi => by simp at hi⟩ Srt_nil (fun i hi => by simp at hi) (fun j _ _ hx => by simp at hx) (by simp; omega)
    obtain ⟨md2, G2, g1, g2, g3, g4, g5⟩ := allBufR_L hF y4 hLK.2.2.2.2.1 hLK.2.2.2.2.2.1 B.length F 0 md1 G1 (by omega) (by omega) f2 f3 f4 (fun j _ hj hx => by
      rcases (f5 _).mp hx with q | ⟨a, q1, q2, q3, q4⟩
      · simp at q
      · exact hLK.2.2.2.2.2.2.1 a j q2 hj q3) (by simp at f6; omega)
    have hG : G2 = T := Srt_ext g3 t3 (fun x => by
      rw [g5, f5, t4]
      constructor
      · rintro ((q | q) | q)
        · simp at q
        · exact Or.inl q
        · exact Or.inr q
      · rintro (q | q)
        · exact Or.inl (Or.inr q)
        · exact Or.inr q)
    subst hG
    have s0 : SOK [] 0 := ⟨Srt_nil, fun i h => by simp at h, fun h => by simp at h, fun h => absurd h (Nat.lt_irrefl 0)⟩
    obtain ⟨bg1, up1, un1, k1, k2⟩ := cuts_J (C := []) (ybg := bg) (b := 0) hF up un g2 g3 g4 R.1 (Nat.zero_le _) ⟨by simp, fun i hi => by simp at hi⟩ s0 (fun i hi => by simp at hi)
    rw [Nat.sub_zero] at k1 k2
    obtain ⟨row2, mk2, st2, v1, v2, v3, v4⟩ := becomes_J (row := yrow) (mk := ymk) (st := yst) hF (J K.length) (J S.length) (J B.length) g2 k2
    have e1' : X2_rebuild_L51 (J b) F zf' F 0 (zk.1, 0) (zm.1, 0) (zs.1, 0) (zr.1, 0) (zu.1, 0) zt = some (zk', zm', zs', zr', zu', zt') := by
      have := e1
      rw [show (([] : List Int).length : Int) = ((0 : Nat) : Int) from rfl, J_00] at this
      exact this
    have f1' : X3_rebuild_L56 yrow ymk (J K.length) F F 0 md 0 = some (md1, J G1.length) := by
      have := f1
      rw [show (([] : List Int).length : Int) = ((0 : Nat) : Int) from rfl, J_00] at this
      exact this
    have g1' : X3_rebuild_L91 ybu (J B.length) F F 0 md1 (J G1.length) = some (md2, J G2.length) := by
      have := g1
      rw [J_00] at this
      exact this
    have k1' : X3_cuts F (J b) md2 bg (J G2.length) up un 0 0 = some (J (cutF b G2 ([] : List Int).length [] 0 G2.length).length, bg1, up1, un1) := by
      have := k1
      rw [show (([] : List Int).length : Int) = ((0 : Nat) : Int) from rfl, J_00] at this
      exact this
    refine Or.inr ⟨J (cutF b G2 0 [] 0 G2.length).length, G2, List.replicate G2.length 0, cutF b G2 0 [] 0 G2.length, b, r, zk', zm', (zb.1, 0), zs', zr', zu', zt', zf', 0, row2, mk2, J G2.length, st2, J (cutF b G2 0 [] 0 G2.length).length, 0, md2, bg1, J G2.length, up1, un1, ?_, ?_, ⟨LK_new g3 g4 hTl e4.2.1 e4.2.2.1 R.1, R.2.1, R.2.2, by simp; omega⟩, ⟨e2, e3, n6, e4, ?_⟩, ⟨v2, v3, v4, ⟨by simp, fun i hi => by simp at hi⟩, rfl, rfl, J_0⟩⟩
    · unfold X2_rebuild X2_clearRow X2_clearPieces X0_clear
      rw [if_neg (fun q => by have := c1.mp q; omega), if_neg (fun q => by have := c2.mp q; omega), if_neg (fun q => by have := c3.mp q; omega), if_pos (c4.mpr R.2.2), t1]
      simp only [Option.bind_some]
      rw [e1']
      simp only [Option.bind_some]
      rw [length_J e4.1]
      rfl
    · unfold X3_rebuild
      simp only [bnd]
      rw [y27, if_pos R, if_pos (by decide), f1']
      simp only [Option.bind_some]
      rw [g1']
      simp only [Option.bind_some]
      rw [k1']
      simp only [Option.bind_some]
      rw [v1]
      rfl
    · rw [cU_rep, show (G2.length : Int) - (G2.length : Int) = 0 by omega]
      exact J_0
  · refine Or.inl ⟨?_, ?_⟩
    · unfold X2_rebuild
      by_cases d1 : b < 0
      · rw [if_pos (c1.mpr d1)]
      · rw [if_neg (fun q => d1 (c1.mp q))]
        by_cases d2 : 20 < b
        · rw [if_pos (c2.mpr d2)]
        · rw [if_neg (fun q => d2 (c2.mp q))]
          by_cases d3 : r < 1
          · rw [if_pos (c3.mpr d3)]
          · rw [if_neg (fun q => d3 (c3.mp q)), if_neg (fun q => by have := c4.mp q; omega)]
    · unfold X3_rebuild
      simp only [bnd]
      rw [y27, if_neg R, if_neg (by decide)]
end MREB
