/-! merging: the class and the reference answer alike -/
section MJNT
variable {F : Nat}
theorem LK_nil {K M B S : List Int} {bd : Int} (h : LK K M B S bd) (h0 : S.length = 0) : K.length = 0 := by
  rcases Nat.eq_zero_or_pos K.length with q | q
  · exact q
  · have := h.2.2.2.2.2.2.2.2.1.2.2.2 q
    omega
theorem mergeAll_JJ (hF : 2000 ≤ F) {K M B S Lf Lg : List Int} {bd : Int} {zk zm zb zs zr zu zf zg : zN} {row mk bu st : Nat → Int32} (zt : zT) (mc mg sp jc mm : Int32) (md bg : Nat → Int32) (up un : Int64) (h : LK K M B S bd) (hk : RN 256 zk K) (hm : RN 256 zm M) (hb : RN 16 zb B) (hsr : RN 256 zs S) (hK : RA 256 row K) (hMk : RA 256 mk M) (hbu : RA 16 bu B) (hst : RA 257 st S) : ∃ G T, (Srt G ∧ KR G ∧ ∀ x, x ∈ G ↔ GM K M 0 K.length x ∨ BM B 0 B.length x) ∧ ∃ sp' jc', (∃ zk' zm' zb' zs' zr' zu' zt' zf' zg', X2_mergeAll F zk zm zb zs zr zu zt zf zg (J bd) mc mg sp jc = some (zk', zm', zb', zs', zr', zu', zt', zf', zg', 0, mg + 1, sp', jc') ∧ RN 256 zk' G ∧ RN 256 zm' (List.replicate G.length 0) ∧ RN 16 zb' [] ∧ PI bd G T G.length zs' zr' zu' zt') ∧ ∃ row' mk' st' md' bg' mm' up' un', X3_mergesAll F (J bd) row mk (J K.length) st (J S.length) bu (J B.length) mg sp jc md bg mm up un = some (row', mk', J G.length, st', J T.length, 0, mg + 1, sp', jc', md', bg', mm', up', un') ∧ RA 256 row' G ∧ RA 256 mk' (List.replicate G.length 0) ∧ RA 257 st' T := by
  obtain ⟨h1, h2, h3, h4, h5, h6, h7, h8, h9, h10, h11⟩ := id h
  have hsl := hsr.len
  have hbl := hb.1
  have hb2 := hb.len
  -- what the loops over the pieces leave
  have key : ∃ G C sp' zt1 zf1 zg1 md1 bg1 up1 un1, (Srt G ∧ KR G ∧ SOK C G.length ∧ PF bd G C G.length ∧ ∀ x, x ∈ G ↔ GM K M 0 K.length x ∨ BM B 0 B.length x) ∧ RN 256 zf1 G ∧ RN 256 zg1 C ∧ RA 256 md1 G ∧ RA 257 bg1 C ∧ (Option.bind (α := zT × zN × zN × Int32) (if J S.length = 0 then Option.bind (X0_length F zb) fun r32 => Option.bind (X2_gather F zk zm zb (zf.1, 0) 0 0 0 r32) fun x => Option.bind (X2_cutFresh F zt x.2 (zg.1, 0) (J bd) sp 0) fun y => some (y.1, x.2, y.2.1, y.2.2) else some (zt, (zf.1, 0), (zg.1, 0), sp)) fun x => X2_mergeAll_L46 zk zm zb zs (J bd) F F 0 x.1 x.2.1 x.2.2.1 x.2.2.2) = some (zt1, zf1, zg1, sp') ∧ (Option.bind (X3_mergesAll_L9 (J bd) row mk (J K.length) st (J S.length) bu (J B.length) F F 0 0 sp md bg 0 up un) fun x => (if J S.length = 0 then (if J B.length ≤ 0 then some (x.1, x.2.1, x.2.2.1, x.2.2.2.1, x.2.2.2.2.1, x.2.2.2.2.2.1, x.2.2.2.2.2.2) else Option.bind (X3_mergesAll_L110 bu (J B.length) F F 0 x.2.2.1 x.2.2.2.2.1) fun y => Option.bind (X3_cuts F (J bd) y.1 x.2.2.2.1 y.2 x.2.2.2.2.2.1 x.2.2.2.2.2.2 0 0) fun w => some (w.1, (x.2.1 + (w.1 - 1)), y.1, w.2.1, y.2, w.2.2.1, w.2.2.2)) else some (x.1, x.2.1, x.2.2.1, x.2.2.2.1, x.2.2.2.2.1, x.2.2.2.2.2.1, x.2.2.2.2.2.2))) = some (J C.length, sp', md1, bg1, J G.length, up1, un1) := by
    have z1 : RN 256 (zf.1, 0) [] := ⟨by simp, by omega, by simp [J_0], fun i hi => by simp at hi, fun i hi => by simp at hi⟩
    have z2 : RN 256 (zg.1, 0) [] := ⟨by simp, by omega, by simp [J_0], fun i hi => by simp at hi, fun i hi => by simp at hi⟩
    have z3 : RA 256 md [] := ⟨by simp, fun i hi => by simp at hi⟩
    have z4 : RA 257 bg [] := ⟨by simp, fun i hi => by simp at hi⟩
    have s0 : SOK [] 0 := ⟨Srt_nil, fun i h => by simp at h, fun h => by simp at h, fun h => absurd h (Nat.lt_irrefl 0)⟩
    by_cases c : S.length = 0
    · have hK0 := LK_nil h c
      obtain ⟨n, hn⟩ : ∃ n, F = n + 1 := ⟨F - 1, by omega⟩
      have hloop : ∀ a b c' d, X2_mergeAll_L46 zk zm zb zs (J bd) F F 0 a b c' d = some (a, b, c', d) := by
        intro a b c' d
        rw [show X2_mergeAll_L46 zk zm zb zs (J bd) F F = X2_mergeAll_L46 zk zm zb zs (J bd) F (n + 1) by rw [← hn], X2_mergeAll_L46, length_J hsr]
        simp only [Option.bind_some]
        rw [if_pos (by rw [c]; exact Int32.le_refl _)]
      have hloop2 : X3_mergesAll_L9 (J bd) row mk (J K.length) st (J S.length) bu (J B.length) F F 0 0 sp md bg 0 up un = some (0, sp, md, bg, 0, up, un) := by
        rw [show X3_mergesAll_L9 (J bd) row mk (J K.length) st (J S.length) bu (J B.length) F F = X3_mergesAll_L9 (J bd) row mk (J K.length) st (J S.length) bu (J B.length) F (n + 1) by rw [← hn], X3_mergesAll_L9]
        rw [if_pos (by rw [c]; exact Int32.le_refl _)]
      obtain ⟨lost, zf1, G, a1, a2, a3, a4, a5, a6⟩ := gather_J hF (p := 0) (to := 0) (l := 0) (t := B.length) hk hm hb h1 h2 h5 h6 h3 (Nat.le_refl _) (Nat.zero_le _) h7 (Nat.le_refl _) (Nat.zero_le _) z1 Srt_nil (fun i hi => by simp at hi) (fun i hi => by simp at hi) (by simp; omega)
      have hmem : ∀ x, x ∈ G ↔ BM B 0 B.length x := fun x => by
        rw [a4]
        exact ⟨fun q => q.elim (fun q => by simp at q) (fun q => q.elim (fun q => absurd q (GM_none (Nat.le_refl _))) id), fun q => Or.inr (Or.inr q)⟩
      have hKR : KR G := KR_mem.mpr (fun x hx => by
        obtain ⟨j, q1, q2, q3⟩ := (hmem x).mp hx
        rw [← q3]
        exact h6 j q2)
      have hGl := a2.len
      obtain ⟨zt1, zg1, d1, d2⟩ := cutFresh_J (zt := zt) (b := 0) hF sp a2 a3 hKR h11 (Nat.zero_le _) z2 s0 (fun i hi => by simp at hi)
      have hcf := cutF_ok (bd := bd) (G := G) (c0 := ([] : List Int).length) (G.length - 0) 0 [] s0 (fun i hi => by simp at hi) (Nat.le_refl _) (Or.inr rfl)
      rw [Nat.zero_add, Nat.sub_zero] at hcf
      rw [Nat.sub_zero] at d1 d2
      have hfin : ∀ x, x ∈ G ↔ GM K M 0 K.length x ∨ BM B 0 B.length x := fun x => by
        rw [hmem]
        exact ⟨Or.inr, fun q => q.elim (fun q => absurd q (GM_none (by omega))) id⟩
      have hcls : (Option.bind (α := zT × zN × zN × Int32) (if J S.length = 0 then Option.bind (X0_length F zb) fun r32 => Option.bind (X2_gather F zk zm zb (zf.1, 0) 0 0 0 r32) fun x => Option.bind (X2_cutFresh F zt x.2 (zg.1, 0) (J bd) sp 0) fun y => some (y.1, x.2, y.2.1, y.2.2) else some (zt, (zf.1, 0), (zg.1, 0), sp)) fun x => X2_mergeAll_L46 zk zm zb zs (J bd) F F 0 x.1 x.2.1 x.2.2.1 x.2.2.2) = some (zt1, zf1, zg1, sp + J ((cutF bd G ([] : List Int).length [] 0 G.length).length - ([] : List Int).length - 1 : Nat)) := by
        rw [if_pos (by rw [c]; exact J_0.symm), length_J hb]
        simp only [Option.bind_some]
        have a1' : X2_gather F zk zm zb (zf.1, 0) 0 0 0 (J B.length) = some (lost, zf1) := a1
        rw [a1']
        simp only [Option.bind_some]
        have d1' : X2_cutFresh F zt zf1 (zg.1, 0) (J bd) sp 0 = some (zt1, zg1, sp + J ((cutF bd G ([] : List Int).length [] 0 G.length).length - ([] : List Int).length - 1 : Nat)) := d1
        rw [d1']
        simp only [Option.bind_some]
        rw [hloop]
      by_cases c2 : B.length = 0
      · have hG0 : G = [] := by
          cases G with
          | nil => rfl
          | cons y G =>
            obtain ⟨j, q1, q2, q3⟩ := (hmem y).mp (by simp)
            omega
        subst hG0
        refine ⟨[], [], sp, zt1, zf1, zg1, md, bg, up, un, ⟨Srt_nil, hKR, s0, fun i hi => by simp at hi, hfin⟩, a2, d2, z3, z4, ?_, ?_⟩
        · rw [hcls]
          have : sp + J ((0 : Nat) : Int) = sp := Int32.add_zero sp
          exact congrArg (fun q => some (zt1, zf1, zg1, q)) this
        · rw [hloop2]
          simp only [Option.bind_some]
          rw [if_pos (by rw [c]; exact J_0.symm), if_pos (by rw [c2]; exact Int32.le_refl _)]
          rfl
      · obtain ⟨md1, G2, e1, e2, e3, e4, e5⟩ := allBuf_L hF hbu h5 h6 B.length F 0 md [] (by omega) (by omega) z3 Srt_nil (fun i hi => by simp at hi) (fun j _ _ hx => by simp at hx) (by simp; omega)
        have hGG : G2 = G := Srt_ext e3 a3 (fun x => by
          rw [e5, hmem]
          exact ⟨fun q => q.elim (fun q => by simp at q) id, Or.inr⟩)
        subst hGG
        obtain ⟨bg1, up1, un1, g1, g2⟩ := cuts_J (b := 0) hF up un e2 e3 e4 h11 (Nat.zero_le _) z4 s0 (fun i hi => by simp at hi)
        rw [Nat.sub_zero] at g1 g2
        have hpos : 0 < G2.length := List.length_pos_of_mem ((hmem (B.getD 0 0)).mpr ⟨0, Nat.le_refl _, by omega, rfl⟩)
        have hCpos := hcf.1.2.2.2 hpos
        refine ⟨G2, _, _, zt1, zf1, zg1, md1, bg1, up1, un1, ⟨a3, hKR, hcf.1, hcf.2.1, hfin⟩, a2, d2, e2, g2, hcls, ?_⟩
        rw [hloop2]
        simp only [Option.bind_some]
        rw [if_pos (by rw [c]; exact J_0.symm), if_neg (by rw [J_0, J_le (by omega) (by omega)]; omega)]
        have e1' : X3_mergesAll_L110 bu (J B.length) F F 0 md 0 = some (md1, J G2.length) := e1
        rw [e1']
        simp only [Option.bind_some]
        have g1' : X3_cuts F (J bd) md1 bg (J G2.length) up un 0 0 = some (J (cutF bd G2 ([] : List Int).length [] 0 G2.length).length, bg1, up1, un1) := g1
        rw [g1']
        simp only [Option.bind_some]
        rw [J_pred hCpos]
        rfl
    · have hMI : MI K M B S bd 0 [] [] := by
        refine ⟨Srt_nil, fun i hi => by simp at hi, s0, fun i hi => by simp at hi, fun x => ?_⟩
        have e1 : posK S K.length 0 = 0 := by
          unfold posK
          rw [if_pos (by omega)]
          have := h9.2.2.1 (by omega)
          omega
        have e2 : posB K S B 0 = 0 := rfl
        rw [e1, e2]
        exact ⟨fun q => by simp at q, fun q => q.elim (fun q => absurd q (GM_none (Nat.le_refl _))) (fun q => absurd q (BM_none (Nat.le_refl _)))⟩
      obtain ⟨G, C, sp', zt1, zf1, zg1, md1, bg1, up1, un1, q1, q2, q3, q4, q5, q6, q7⟩ := mloop hF h hk hm hb hsr hK hMk hbu hst S.length F F 0 zt (zf.1, 0) (zg.1, 0) sp md bg [] [] up un (by omega) (by omega) (by omega) hMI z1 z2 z3 z4
      obtain ⟨p1, p2, p3, p4, p5⟩ := q3
      have e1 : posK S K.length S.length = K.length := by unfold posK; rw [if_neg (Nat.lt_irrefl _)]
      have e2 : posB K S B S.length = B.length := by unfold posB; rw [if_neg c, if_neg (Nat.lt_irrefl _)]
      rw [e1, e2] at p5
      refine ⟨G, C, sp', zt1, zf1, zg1, md1, bg1, up1, un1, ⟨p1, p2, p3, p4, p5⟩, q4, q5, q6, q7, ?_, ?_⟩
      · rw [if_neg (by rw [J_0, J_eq (by omega) (by omega)]; omega)]
        exact q1
      · have q2' : X3_mergesAll_L9 (J bd) row mk (J K.length) st (J S.length) bu (J B.length) F F 0 0 sp md bg 0 up un = some (J C.length, sp', md1, bg1, J G.length, up1, un1) := q2
        rw [q2']
        simp only [Option.bind_some]
        rw [if_neg (by rw [J_0, J_eq (by omega) (by omega)]; omega)]
  obtain ⟨G, C, sp', zt1, zf1, zg1, md1, bg1, up1, un1, ⟨p1, p2, p3, p4, p5⟩, q4, q5, q6, q7, kx, ky⟩ := key
  have hGl := q4.len
  obtain ⟨zk2, zm2, t1, t2, t3⟩ := copy_L (F := F) q4 G F [] (zk.1, 0) (zm.1, 0) (by omega) rfl ⟨by simp, by omega, by simp [J_0], fun i hi => by simp at hi, fun i hi => by simp at hi⟩ ⟨by simp, by omega, by simp [J_0], fun i hi => by simp at hi, fun i hi => by simp at hi⟩
  obtain ⟨zs3, zr3, zu3, zt3, u1, u2⟩ := joinFresh_J (zs := (zs.1, 0)) (zr := (zr.1, 0)) (zu := (zu.1, 0)) (zt := zt1) hF jc t2 q5 p1 p2 h11 p3 p4 ⟨by simp, by omega, by simp [J_0], fun i hi => by simp at hi, fun i hi => by simp at hi⟩ ⟨by simp, by omega, by simp [J_0], fun i hi => by simp at hi, fun i hi => by simp at hi⟩ ⟨by simp, by omega, by simp [J_0], fun i hi => by simp at hi, fun i hi => by simp at hi⟩
  obtain ⟨row2, mk2, st2, v1, v2, v3, v4⟩ := becomes_J (row := row) (mk := mk) (st := st) hF (J K.length) (J S.length) (J B.length) q6 q7
  obtain ⟨st3, up3, un3, w1, w2⟩ := joinsPieces_J hF jc up1 un1 v2 p1 p2 h11 v4 p3
  refine ⟨G, (jnAll bd G C).1, ⟨p1, p2, p5⟩, sp', jc + J (jnAll bd G C).2, ⟨zk2, zm2, (zb.1, 0), zs3, zr3, zu3, zt3, zf1, zg1, ?_, t2, t3, ⟨by simp, by omega, by simp [J_0], fun i hi => by simp at hi, fun i hi => by simp at hi⟩, u2⟩, row2, mk2, st3, md1, bg1, J G.length, up3, un3, ?_, v2, v3, w2⟩
  · unfold X2_mergeAll X2_clearRow X2_clearPieces X0_clear
    simp only [Option.bind_some]
    rw [length_J hsr]
    simp only [Option.bind_some]
    obtain ⟨y, ey, ey2⟩ := Option.bind_eq_some_iff.mp kx
    rw [ey]
    simp only [Option.bind_some]
    rw [ey2]
    simp only [Option.bind_some]
    have t1' : X2_mergeAll_L74 F zf1 F 0 (zk.1, 0) (zm.1, 0) = some (zk2, zm2) := t1
    rw [t1']
    simp only [Option.bind_some]
    rw [u1]
    rfl
  · unfold X3_mergesAll
    obtain ⟨y, ey, ey2⟩ := Option.bind_eq_some_iff.mp ky
    rw [ey]
    simp only [Option.bind_some]
    rw [ey2]
    simp only [Option.bind_some]
    rw [v1]
    simp only [Option.bind_some]
    rw [w1]
    rfl
end MJNT
