/-! merging: the class and the law come to the same -/
section LMJ
variable {F : Nat}
theorem zN0 (f : Nat → Int32) {N : Nat} (hN : N ≤ 256) : RN N (f, 0) [] := RN_nil hN f
theorem lmerge_JJ (hF : 2000 ≤ F) {K M B B' S : List Int} {bd : Int} {zk zm zb zs zr zu zf zg : zN} {vr vm vh vl vq : Nat → Int32} (zt : zT) (mc mg sp jc : Int32) (h : LK K M B S bd) (hk : RN 256 zk K) (hm : RN 256 zm M) (hb : RN 16 zb B) (hsr : RN 256 zs S) (hK : RA 64 vr K) (hMk : RA 64 vm M) (hH : HD vh S K.length) (hB : RA 16 vl B') (hp : B'.Perm B) (hc : K.length + B.length ≤ 60) (hq0 : vq 0 = J K.length) (hq1 : vq 1 = J B'.length) (hq2 : vq 2 = J bd) (hq5 : vq 5 = sp) (hq6 : vq 6 = jc) : ∃ G T, (Srt G ∧ KR G ∧ ∀ x, x ∈ G ↔ GM K M 0 K.length x ∨ BM B 0 B.length x) ∧ ∃ sp' jc', (∃ zk' zm' zb' zs' zr' zu' zt' zf' zg', X2_mergeAll F zk zm zb zs zr zu zt zf zg (J bd) mc mg sp jc = some (zk', zm', zb', zs', zr', zu', zt', zf', zg', 0, mg + 1, sp', jc') ∧ RN 256 zk' G ∧ RN 256 zm' (List.replicate G.length 0) ∧ RN 16 zb' [] ∧ PI bd G T G.length zs' zr' zu' zt') ∧ ∃ vm' vr' vh' vq', L_merge F vm vr vh vl vq = some (vm', vr', vh', vq') ∧ RA 64 vr' G ∧ RA 64 vm' (List.replicate G.length 0) ∧ HD vh' T G.length ∧ vq' 0 = J G.length ∧ vq' 1 = 0 ∧ vq' 2 = vq 2 ∧ vq' 3 = vq 3 ∧ vq' 4 = vq 4 + 1 ∧ vq' 5 = sp' ∧ vq' 6 = jc' := by
  obtain ⟨h1, h2, h3, h4, h5, h6, h7, h8, h9, h10, h11⟩ := id h
  have hsl := hsr.len
  have hbl := hb.1
  have hb2 := hb.len
  have hpl : B'.length = B.length := hp.length_eq
  -- what the loops over the pieces leave
  have key : ∃ G C sp' zt1 zf1 zg1 vq1 vx1 vy1, (Srt G ∧ KR G ∧ SOK C G.length ∧ PF bd G C G.length ∧ ∀ x, x ∈ G ↔ GM K M 0 K.length x ∨ BM B 0 B.length x) ∧ RN 256 zf1 G ∧ RN 256 zg1 C ∧ RA 64 vx1 G ∧ HD vy1 C 64 ∧ (Option.bind (α := zT × zN × zN × Int32) (if J S.length = 0 then Option.bind (X0_length F zb) fun r32 => Option.bind (X2_gather F zk zm zb (zf.1, 0) 0 0 0 r32) fun x => Option.bind (X2_cutFresh F zt x.2 (zg.1, 0) (J bd) sp 0) fun y => some (y.1, x.2, y.2.1, y.2.2) else some (zt, (zf.1, 0), (zg.1, 0), sp)) fun x => X2_mergeAll_L46 zk zm zb zs (J bd) F F 0 x.1 x.2.1 x.2.2.1 x.2.2.2) = some (zt1, zf1, zg1, sp') ∧ L_merge_L18 vm vr vh vl F F 0 0 vq (fun _ => 0) (fun _ => 0) = some (J G.length, vq1, vx1, vy1) ∧ (∀ j, j ≠ 5 → vq1 j = vq j) ∧ vq1 5 = sp' := by
    have z1 : RN 256 (zf.1, 0) [] := zN0 _ (by omega)
    have z2 : RN 256 (zg.1, 0) [] := zN0 _ (by omega)
    have s0 : SOK [] 0 := ⟨Srt_nil, fun i h => by simp at h, fun h => by simp at h, fun h => absurd h (Nat.lt_irrefl 0)⟩
    by_cases c : S.length = 0
    · have hK0 := LK_nil h c
      obtain ⟨n, hn⟩ : ∃ n, F = n + 1 := ⟨F - 1, by omega⟩
      have hloop : ∀ a b c' d, X2_mergeAll_L46 zk zm zb zs (J bd) F F 0 a b c' d = some (a, b, c', d) := by
        intro a b c' d
        rw [show X2_mergeAll_L46 zk zm zb zs (J bd) F F = X2_mergeAll_L46 zk zm zb zs (J bd) F (n + 1) by rw [← hn], X2_mergeAll_L46, length_J hsr]
        simp only [Option.bind_some]
        rw [if_pos (by rw [c]; exact Int32.le_refl _)]
      obtain ⟨lost, zf1, G, a1, a2, a3, a4, a5, a6⟩ := gather_J hF (p := 0) (to := 0) (l := 0) (t := B.length) hk hm hb h1 h2 h5 h6 h3 (Nat.le_refl _) (Nat.zero_le _) h7 (Nat.le_refl _) (Nat.zero_le _) z1 Srt_nil (fun i hi => by simp at hi) (fun i hi => by simp at hi) (by simp; omega)
      have hmem : ∀ x, x ∈ G ↔ BM B 0 B.length x := fun x => by
        rw [a4]
        exact ⟨fun q => q.elim (fun q => by simp at q) (fun q => q.elim (fun q => absurd q (GM_none (Nat.le_refl _))) id), fun q => Or.inr (Or.inr q)⟩
      have hKR : KR G := KR_mem.mpr (fun x hx => by
        obtain ⟨j, q1, q2, q3⟩ := (hmem x).mp hx
        rw [← q3]
        exact h6 j q2)
      have hGl := a2.len
      obtain ⟨zt1, zg1, d1, d2⟩ := cutFresh_J (zt := zt) (b := 0) hF sp a2 a3 hKR h11 (Nat.zero_le _) z2 s0 (fun i hi => by simp at hi)
      have hcf := cutF_ok (bd := bd) (G := G) (c0 := ([] : List Int).length) (G.length - 0) 0 [] s0 (fun i hi => by simp at hi) (Nat.le_refl _) (Or.inr rfl)
      rw [Nat.zero_add, Nat.sub_zero] at hcf
      rw [Nat.sub_zero] at d1 d2
      have hfin : ∀ x, x ∈ G ↔ GM K M 0 K.length x ∨ BM B 0 B.length x := fun x => by
        rw [hmem]
        exact ⟨Or.inr, fun q => q.elim (fun q => absurd q (GM_none (by omega))) id⟩
      have hcls : (Option.bind (α := zT × zN × zN × Int32) (if J S.length = 0 then Option.bind (X0_length F zb) fun r32 => Option.bind (X2_gather F zk zm zb (zf.1, 0) 0 0 0 r32) fun x => Option.bind (X2_cutFresh F zt x.2 (zg.1, 0) (J bd) sp 0) fun y => some (y.1, x.2, y.2.1, y.2.2) else some (zt, (zf.1, 0), (zg.1, 0), sp)) fun x => X2_mergeAll_L46 zk zm zb zs (J bd) F F 0 x.1 x.2.1 x.2.2.1 x.2.2.2) = some (zt1, zf1, zg1, sp + J ((cutF bd G ([] : List Int).length [] 0 G.length).length - ([] : List Int).length - 1 : Nat)) := by
        rw [if_pos (by rw [c]; exact J_0.symm), length_J hb]
        simp only [Option.bind_some]
        have a1' : X2_gather F zk zm zb (zf.1, 0) 0 0 0 (J B.length) = some (lost, zf1) := a1
        rw [a1']
        simp only [Option.bind_some]
        have d1' : X2_cutFresh F zt zf1 (zg.1, 0) (J bd) sp 0 = some (zt1, zg1, sp + J ((cutF bd G ([] : List Int).length [] 0 G.length).length - ([] : List Int).length - 1 : Nat)) := d1
        rw [d1']
        simp only [Option.bind_some]
        rw [hloop]
      obtain ⟨vq1, vx1, vy1, l1, l2, l3, l4, l5⟩ := lm_empty (F := F) (vr := vr) (vm := vm) (vh := vh) (vl := vl) (vq := vq) hF hB hp h5 h6 (by omega) a3 hKR hmem h11 (by rw [hq0, hK0]; rfl) hq1 hq2
      refine ⟨G, _, _, zt1, zf1, zg1, vq1, vx1, vy1, ⟨a3, hKR, hcf.1, hcf.2.1, hfin⟩, a2, d2, l2, l3, hcls, l1, l4, ?_⟩
      rw [l5, hq5]
      rfl
    · have hK0 : 0 < K.length := by
        rcases Nat.eq_zero_or_pos K.length with q | q
        · exfalso
          have := h9.2.1 0 (by omega)
          omega
        · exact q
      have hMI : MI K M B S bd 0 [] [] := by
        refine ⟨Srt_nil, fun i hi => by simp at hi, s0, fun i hi => by simp at hi, fun x => ?_⟩
        have e1 : posK S K.length 0 = 0 := by
          unfold posK
          rw [if_pos (by omega)]
          have := h9.2.2.1 (by omega)
          omega
        have e2 : posB K S B 0 = 0 := rfl
        rw [e1, e2]
        exact ⟨fun q => by simp at q, fun q => q.elim (fun q => absurd q (GM_none (Nat.le_refl _))) (fun q => absurd q (BM_none (Nat.le_refl _)))⟩
      obtain ⟨G, C, sp', zt1, zf1, zg1, vq1, vx1, vy1, q1, q2, q3, q4, q5, q6, q7, q8, q9⟩ := lmloop hF h hk hm hb hsr hK hMk hH hB hp hc hK0 S.length F F 0 zt (zf.1, 0) (zg.1, 0) sp vq (fun _ => 0) (fun _ => 0) [] [] (by omega) (by omega) (by omega) hMI z1 z2 ⟨by simp, fun i hi => by simp at hi⟩ (fun i hi => by simp) hq0 hq1 hq2 hq5
      obtain ⟨p1, p2, p3, p4, p5⟩ := q3
      have e1 : posK S K.length S.length = K.length := by unfold posK; rw [if_neg (Nat.lt_irrefl _)]
      have e2 : posB K S B S.length = B.length := by unfold posB; rw [if_neg c, if_neg (Nat.lt_irrefl _)]
      rw [e1, e2] at p5
      have e3 : posK S K.length 0 = 0 := by
        unfold posK
        rw [if_pos (by omega)]
        have := h9.2.2.1 (by omega)
        omega
      rw [e3] at q2
      refine ⟨G, C, sp', zt1, zf1, zg1, vq1, vx1, vy1, ⟨p1, p2, p3, p4, p5⟩, q4, q5, q6, q7, ?_, q2, q8, q9⟩
      rw [if_neg (by rw [J_0, J_eq (by omega) (by omega)]; omega)]
      exact q1
  obtain ⟨G, C, sp', zt1, zf1, zg1, vq1, vx1, vy1, ⟨p1, p2, p3, p4, p5⟩, q4, q5, q6, q7, kx, ky, k8, k9⟩ := key
  have hGl := q4.len
  have hG64 := q6.1
  obtain ⟨zk2, zm2, t1, t2, t3⟩ := copy_L (F := F) q4 G F [] (zk.1, 0) (zm.1, 0) (by omega) rfl (zN0 _ (by omega)) (zN0 _ (by omega))
  obtain ⟨zs3, zr3, zu3, zt3, u1, u2⟩ := joinFresh_J (zs := (zs.1, 0)) (zr := (zr.1, 0)) (zu := (zu.1, 0)) (zt := zt1) hF jc t2 q5 p1 p2 h11 p3 p4 (zN0 _ (by omega)) (zN0 _ (by omega)) (zN0 _ (by omega))
  obtain ⟨vm2, vr2, vh2, w1, w2⟩ := l291_L (vx := vx1) (vy := vy1) 64 F 0 vm vr vh (by omega) (by omega) (fun j hj => absurd hj (Nat.not_lt_zero j))
  have hr2 : RA 64 vr2 G := ⟨hG64, fun i hi => by rw [(w2 i (by omega)).2.1, q6.2 i hi]⟩
  have hh2 : HD vh2 C G.length := fun i hi => by rw [(w2 i (by omega)).2.2, q7 i (by omega)]
  have hU : ∀ j, j ≠ 0 → j ≠ 1 → (upd (upd vq1 0 (J G.length)) 1 0) j = vq1 j := fun j a b => by
    unfold upd
    rw [if_neg b, if_neg a]
  obtain ⟨vh3, vq3, y1, y2, y3, y4⟩ := ljoins_J (F := F) (vq := upd (upd vq1 0 (J G.length)) 1 0) hF hr2 p1 p2 h11 hh2 p3 (by rw [hU 2 (by omega) (by omega), k8 2 (by omega), hq2])
  refine ⟨G, (jnAll bd G C).1, ⟨p1, p2, p5⟩, sp', jc + J (jnAll bd G C).2, ⟨zk2, zm2, (zb.1, 0), zs3, zr3, zu3, zt3, zf1, zg1, ?_, t2, t3, zN0 _ (by omega), u2⟩, vm2, vr2, vh3, upd vq3 4 (vq3 4 + 1), ?_, hr2, RA_zero (fun j hj => (w2 j hj).1) hG64, y2, ?_, ?_, ?_, ?_, ?_, ?_, ?_⟩
  · unfold X2_mergeAll X2_clearRow X2_clearPieces X0_clear
    simp only [Option.bind_some]
    rw [length_J hsr]
    simp only [Option.bind_some]
    obtain ⟨y, ey, ey2⟩ := Option.bind_eq_some_iff.mp kx
    rw [ey]
    simp only [Option.bind_some]
    rw [ey2]
    simp only [Option.bind_some]
    have t1' : X2_mergeAll_L74 F zf1 F 0 (zk.1, 0) (zm.1, 0) = some (zk2, zm2) := t1
    rw [t1']
    simp only [Option.bind_some]
    rw [u1]
    rfl
  · unfold L_merge
    rw [ky]
    simp only [Option.bind_some, i7_0, i7_1, i7_4, if_true, n7_0, n7_1, n7_4]
    have w1' : L_merge_L291 vx1 vy1 F 0 vm vr vh = some (vm2, vr2, vh2) := w1
    rw [w1']
    simp only [Option.bind_some]
    rw [y1]
    rfl
  · show (upd vq3 4 (vq3 4 + 1)) 0 = _
    rw [show (upd vq3 4 (vq3 4 + 1)) 0 = vq3 0 from if_neg (by decide), y3 0 (by omega)]
    rfl
  · rw [show (upd vq3 4 (vq3 4 + 1)) 1 = vq3 1 from if_neg (by decide), y3 1 (by omega)]
    rfl
  · rw [show (upd vq3 4 (vq3 4 + 1)) 2 = vq3 2 from if_neg (by decide), y3 2 (by omega), hU 2 (by omega) (by omega), k8 2 (by omega)]
  · rw [show (upd vq3 4 (vq3 4 + 1)) 3 = vq3 3 from if_neg (by decide), y3 3 (by omega), hU 3 (by omega) (by omega), k8 3 (by omega)]
  · rw [show (upd vq3 4 (vq3 4 + 1)) 4 = vq3 4 + 1 from if_pos rfl, y3 4 (by omega), hU 4 (by omega) (by omega), k8 4 (by omega)]
  · rw [show (upd vq3 4 (vq3 4 + 1)) 5 = vq3 5 from if_neg (by decide), y3 5 (by omega), hU 5 (by omega) (by omega), k9]
  · rw [show (upd vq3 4 (vq3 4 + 1)) 6 = vq3 6 from if_neg (by decide), y4, hU 6 (by omega) (by omega), k8 6 (by omega), hq6]
end LMJ
