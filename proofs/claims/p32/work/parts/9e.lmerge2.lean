/-! the law's merging beside the class's -/
section LMH
variable {F : Nat}
/-- what follows when the keys of a piece have been put together -/
def lmTail (vm vr vh vl : Nat → Int32) (F m : Nat) (vq vy : Nat → Int32) (g now : Int32) (e : Int32) (x11 : Int32) (vx : Nat → Int32) : Option (Int32 × (Nat → Int32) × (Nat → Int32) × (Nat → Int32)) :=
  Option.bind (α := (Nat → Int32) × (Nat → Int32)) (
    (if x11 = 0 then
      (if now ≤ g then some (vq, vy) else (if ¬ (g < 0 ∨ 64 ≤ (Int32.toNatClampNeg g)) then some (vq, (upd vy (Int32.toNatClampNeg g) 1)) else none))
    else
      Option.bind (L_cuts F vx vy g now (vq 2)) fun z => (if z.1 ≤ 1 then some ((upd vq 5 ((vq 5) + 0)), z.2) else some ((upd vq 5 ((vq 5) + (z.1 - 1))), z.2)))) fun z =>
  (if z.1 0 = 0 then L_merge_L18 vm vr vh vl F m 1 now z.1 vx z.2 else L_merge_L18 vm vr vh vl F m e now z.1 vx z.2)
theorem lm_body (hF : 2000 ≤ F) {K M B' G T : List Int} {vr vm vh vl vq vx vy : Nat → Int32} {s e : Nat} (hK : RA 64 vr K) (hm : RA 64 vm M) (hB : RA 16 vl B') (hs : Srt K) (hr : KR K) (hrB : KR B') (hM : M.length = K.length) (hM2 : ∀ j, j < M.length → M.getD j 0 = 0 ∨ M.getD j 0 = 1) (hq0 : vq 0 = J K.length) (hq1 : vq 1 = J B'.length) (hse : s = 0 ∨ s < K.length) (hse2 : s ≤ e) (he : e ≤ K.length) (hnd : ∀ i j, i < j → j < B'.length → B'.getD i 0 ≠ B'.getD j 0) (hdis : ∀ i j, i < K.length → j < B'.length → K.getD i 0 ≠ B'.getD j 0) (hE : (Option.bind (α := Int32) (if vq 0 = 0 then some 0 else Option.bind (L_behind F 64 vh (J s) (vq 0)) fun r => some r) fun r => some r) = some (J e)) (hv : RA 64 vx G) (hc : G.length + (e - s) ≤ 60) (hT : G.length + T.length ≤ 60) (hT1 : ∀ y, GM K M s e y → y ∈ T) (hT2 : ∀ j, j < B'.length → BB K s e (B'.getD j 0) → B'.getD j 0 ∈ T) (m : Nat) : ∃ R x11 vx', L_merge_L18 vm vr vh vl F (m + 1) (J s) (J G.length) vq vx vy = lmTail vm vr vh vl F m vq vy (J G.length) (J (G.length + (R : List Int).length : Nat)) (J e) x11 vx' ∧ RA 64 vx' (G ++ R) ∧ Srt R ∧ KR R ∧ (∀ y, y ∈ R ↔ GM K M s e y ∨ BI K B' s e 0 y) ∧ (x11 = 0 ∨ x11 = 1) ∧ (x11 = 0 ↔ (∀ j, s ≤ j → j < e → M.getD j 0 = 0) ∧ ∀ y, ¬ BI K B' s e 0 y) := by
  have hl := hK.1
  have hlB := hB.1
  obtain ⟨R1, x1, vx1, a1, a2, a3, a4, a5, a6, a7⟩ := lm66 (G := G) hK hm hs hM hM2 he (e - s) F s [] 0 vx (by omega) (by omega) (by rw [List.append_nil]; exact hv) (Or.inl rfl) Srt_nil (fun y hy => by simp at hy) (by simp; omega)
  simp only [List.length_nil, Nat.add_zero, Nat.zero_add] at a1 a7
  have hmem1 : ∀ y, y ∈ R1 ↔ GM K M s e y := fun y => by
    rw [a4]
    exact ⟨fun q => q.elim (fun q => by simp at q) id, Or.inr⟩
  have hR1 : KR R1 := KR_mem.mpr (fun y hy => by
    obtain ⟨j, h1, h2, h3, -⟩ := (hmem1 y).mp hy
    rw [← h3]
    exact hr j (by omega))
  obtain ⟨R, x2, vx2, b1, b2, b3, b3b, b4, b5, b6⟩ := lm127 (G := G) (s := s) (e := e) hF hK hB hr hrB hq0 hq1 hse he hnd hT hT2 B'.length F 0 R1 x1 vx1 (by omega) (by omega) a2 a5 a3 hR1 (fun j _ h2 q => by
    obtain ⟨i, h3, h4, h5, -⟩ := (hmem1 _).mp q
    exact hdis i j (by omega) h2 h5) (fun y hy => hT1 y ((hmem1 y).mp hy))
  rw [J_00] at b1
  have hE' : ∀ {α : Type} (k : Int32 → Option α), (Option.bind (α := Int32) (if vq 0 = 0 then some 0 else Option.bind (L_behind F 64 vh (J s) (vq 0)) fun r => some r) k) = k (J e) := by
    intro α k
    obtain ⟨y, e1, e2⟩ := Option.bind_eq_some_iff.mp hE
    rw [e1]
    rw [Option.some.inj e2]
    rfl
  refine ⟨R, x2, vx2, ?_, b2, b3, b3b, fun y => by rw [b4, hmem1], b5, ?_⟩
  · have hcase : J (s : Int) < vq 0 ∨ (¬ J (s : Int) < vq 0 ∧ J (s : Int) = 0) := by
      rw [hq0, J_ltN (by omega) (by omega)]
      rcases hse with q | q
      · rcases Nat.lt_or_ge s K.length with q2 | q2
        · exact Or.inl q2
        · exact Or.inr ⟨by omega, by rw [q]; decide⟩
      · exact Or.inl q
    rw [L_merge_L18]
    simp only [i7_0, i7_2, i7_5, if_true, n7_0, n7_2, n7_5]
    unfold lmTail
    rcases hcase with q | ⟨q, q2⟩
    · rw [if_pos q, hE', a1]
      simp only [Option.bind_some]
      rw [b1]
      rfl
    · rw [if_neg q, if_pos q2, hE', a1]
      simp only [Option.bind_some]
      rw [b1]
      rfl
  · rw [b6, a6]
    exact ⟨fun q => ⟨q.1.2, q.2⟩, fun q => ⟨⟨rfl, q.1⟩, q.2⟩⟩
/-- heads over the whole array: nothing behind -/
theorem HD64 {v : Nat → Int32} {C : List Int} {n : Nat} (h : HD v C n) (hS : SOK C n) (hz : ∀ t, n ≤ t → t < 64 → v t = 0) : HD v C 64 := by
  intro i hi
  rcases Nat.lt_or_ge i n with q | q
  · exact h i q
  · rw [hz i q hi, if_neg (fun q2 => ?_)]
    obtain ⟨j, hj, e⟩ := mem_getD.mp q2
    have := hS.2.1 j hj
    omega
theorem HD64_z {v : Nat → Int32} {C : List Int} {n t : Nat} (h : HD v C 64) (hS : SOK C n) (h1 : n ≤ t) (h2 : t < 64) : v t = 0 := by
  refine HD_out h h2 (fun q2 => ?_)
  obtain ⟨j, hj, e⟩ := mem_getD.mp q2
  have := hS.2.1 j hj
  omega
theorem lmTail_keep {vm vr vh vl vq vy vx : Nat → Int32} {m g now e : Nat} (hg : g < now) (hnow : now < 64) (h0 : ¬ vq 0 = 0) : lmTail vm vr vh vl F m vq vy (J g) (J now) (J e) 0 vx = L_merge_L18 vm vr vh vl F m (J e) (J now) vq vx (upd vy g 1) := by
  unfold lmTail
  rw [if_pos rfl, if_neg (by rw [J_leN (by omega) (by omega)]; omega), if_pos (J_inN (by omega) (by omega)), J_ix (by omega)]
  simp only [Option.bind_some]
  rw [if_neg h0]
theorem lmTail_cut {vm vr vh vl vq vy vx vy2 : Nat → Int32} {m g now : Nat} {x11 e : Int32} {c : Nat} (hx : ¬ x11 = 0) (hc : c ≤ 1000) (hcut : L_cuts F vx vy (J g) (J now) (vq 2) = some (J c, vy2)) : lmTail vm vr vh vl F m vq vy (J g) (J now) e x11 vx = (if vq 0 = 0 then L_merge_L18 vm vr vh vl F m 1 (J now) (upd vq 5 (vq 5 + J (c - 1 : Nat))) vx vy2 else L_merge_L18 vm vr vh vl F m e (J now) (upd vq 5 (vq 5 + J (c - 1 : Nat))) vx vy2) := by
  unfold lmTail
  rw [if_neg hx, hcut]
  simp only [Option.bind_some]
  have e5 : ∀ w : Int32, (upd vq 5 w) 0 = vq 0 := fun w => if_neg (by decide)
  by_cases c1 : c ≤ 1
  · rw [if_pos (by rw [J_1, J_le (by omega) (by omega)]; omega), show c - 1 = 0 by omega]
    simp only [Option.bind_some]
    rw [e5, J_00]
  · rw [if_neg (by rw [J_1, J_le (by omega) (by omega)]; omega), J_pred (by omega)]
    simp only [Option.bind_some]
    rw [e5]
/-- one piece, in the class and in the law -/
theorem lmloop (hF : 2000 ≤ F) {K M B B' S : List Int} {bd : Int} {zk zm zb zs : zN} {vr vm vh vl : Nat → Int32} (h : LK K M B S bd) (hk : RN 256 zk K) (hm : RN 256 zm M) (hb : RN 16 zb B) (hsr : RN 256 zs S) (hK : RA 64 vr K) (hMk : RA 64 vm M) (hH : HD vh S K.length) (hB : RA 16 vl B') (hp : B'.Perm B) (hc : K.length + B.length ≤ 60) (h0 : 0 < K.length) : ∀ (d n m i : Nat) (zt : zT) (zf zg : zN) (sp : Int32) (vq vx vy : Nat → Int32) (G C : List Int), d < n → d < m → i + d = S.length → MI K M B S bd i G C → RN 256 zf G → RN 256 zg C → RA 64 vx G → HD vy C 64 → vq 0 = J K.length → vq 1 = J B'.length → vq 2 = J bd → vq 5 = sp → ∃ G' C' sp' zt' zf' zg' vq' vx' vy', X2_mergeAll_L46 zk zm zb zs (J bd) F n (J i) zt zf zg sp = some (zt', zf', zg', sp') ∧ L_merge_L18 vm vr vh vl F m (J (posK S K.length i)) (J G.length) vq vx vy = some (J (G' : List Int).length, vq', vx', vy') ∧ MI K M B S bd S.length G' C' ∧ RN 256 zf' G' ∧ RN 256 zg' C' ∧ RA 64 vx' G' ∧ HD vy' C' 64 ∧ (∀ j, j ≠ 5 → vq' j = vq j) ∧ vq' 5 = sp'
  | d, 0, m, i, zt, zf, zg, sp, vq, vx, vy, G, C, hn, _, _, _, _, _, _, _, _, _, _, _ => absurd hn (Nat.not_lt_zero d)
  | d, n, 0, i, zt, zf, zg, sp, vq, vx, vy, G, C, _, hn, _, _, _, _, _, _, _, _, _, _ => absurd hn (Nat.not_lt_zero d)
  | 0, n + 1, m + 1, i, zt, zf, zg, sp, vq, vx, vy, G, C, _, _, hd, hI, h1, h2, h3, h4, hq0, hq1, hq2, hq5 => by
    have hl := hsr.len
    have hlK := hK.1
    have e : i = S.length := by omega
    subst e
    refine ⟨G, C, sp, zt, zf, zg, vq, vx, vy, ?_, ?_, hI, h1, h2, h3, h4, fun _ _ => rfl, hq5⟩
    · rw [X2_mergeAll_L46, length_J hsr]
      simp only [Option.bind_some]
      rw [if_pos (by exact Int32.le_refl _)]
    · have e1 : posK S K.length S.length = K.length := by unfold posK; rw [if_neg (Nat.lt_irrefl _)]
      rw [e1, L_merge_L18]
      simp only [i7_0, if_true, n7_0, hq0]
      rw [if_neg (by rw [J_ltN (by omega) (by omega)]; omega), if_neg (by rw [J_0, J_eq (by omega) (by omega)]; omega)]
  | d + 1, n + 1, m + 1, i, zt, zf, zg, sp, vq, vx, vy, G, C, hn, hm', hd, hI, h1, h2, h3, h4, hq0, hq1, hq2, hq5 => by
    have hl := hsr.len
    have hlK := hK.1
    have hi : i < S.length := by omega
    have hLK := id h
    obtain ⟨g1, g2, g3, g4, g5, g6, g7, g8, g9, g10, g11⟩ := hLK
    obtain ⟨f1, f2, f3, f4, f5, f6, f7⟩ := pos_facts h hi
    have hse := SOK_lt g9 hi
    have hsi := g9.2.1 i hi
    rw [← f1, ← f2] at hse
    have hpl : B'.length = B.length := hp.length_eq
    have hndB : B.Nodup := Srt_nodup g5
    have hnd := Nodup_getD (hp.nodup_iff.mpr hndB)
    have hrB : KR B' := KR_mem.mpr (fun y hy => KR_mem.mp g6 y (hp.mem_iff.mp hy))
    obtain ⟨G1, C1, i1, ⟨zt1, zf1, zg1, e1, i2, i3⟩, i4, i5, i6, i7, i8, i9, i10, i11⟩ := mstep hF zt sp h hk hm hb hsr hi hI h1 h2
    have hI' := hI
    obtain ⟨p1, p2, p3, p4, p5⟩ := hI'
    obtain ⟨t1, t2, t3, t4, t5⟩ := id i1
    have hcap : G.length ≤ posK S K.length i + posB K S B i := by
      have := Srt_sub_len (L := sl K 0 (posK S K.length i) ++ sl B 0 (posB K S B i)) p1 (fun x hx => by
        rw [List.mem_append, sl_mem, sl_mem]
        rcases (p5 x).mp hx with ⟨a, q1, q2, q3, q4⟩ | ⟨a, q1, q2, q3⟩
        · exact Or.inl ⟨a, q1, by omega, q3⟩
        · exact Or.inr ⟨a, q1, by omega, q3⟩)
      rw [List.length_append, sl_len, sl_len] at this
      exact this
    have hE : (Option.bind (α := Int32) (if vq 0 = 0 then some 0 else Option.bind (L_behind F 64 vh (J (posK S K.length i)) (vq 0)) fun r => some r) fun r => some r) = some (J (posK S K.length (i + 1))) := by
      rw [hq0, if_neg (by rw [J_0, J_eq (by omega) (by omega)]; omega)]
      have := lbehind_H (F := F) hF (by omega) hH g9 hi
      rw [show S.getD i 0 = (posK S K.length i : Nat) by omega, ← f2] at this
      rw [this]
      rfl
    obtain ⟨R, x11, vx1, r1, r2, r3, r4, r5, r6, r7⟩ := lm_body (T := sl K (posK S K.length i) (posK S K.length (i + 1) - posK S K.length i) ++ sl B (posB K S B i) (posB K S B (i + 1) - posB K S B i)) (vy := vy) hF hK hMk hB g1 g2 hrB g3 g4 hq0 hq1 (Or.inr (by omega)) (by omega) hse.2 hnd (fun a b h1 h2 q => by
      have hm1 : B'.getD b 0 ∈ B := hp.mem_iff.mp (getD_mem h2)
      obtain ⟨t, ht, e⟩ := mem_getD.mp hm1
      exact g7 a t h1 ht (by rw [q, e])) hE h3 (by omega) (by rw [List.length_append, sl_len, sl_len]; omega) (fun y ⟨j, q1, q2, q3, q4⟩ => by
      rw [List.mem_append, sl_mem]
      exact Or.inl ⟨j, q1, by omega, q3⟩) (fun j hj q => by
      rw [List.mem_append, sl_mem, sl_mem]
      have hm1 : B'.getD j 0 ∈ B := hp.mem_iff.mp (getD_mem hj)
      obtain ⟨t, ht, e⟩ := mem_getD.mp hm1
      rw [← e, BB_iff h hi ht] at q
      exact Or.inr ⟨t, q.1, by omega, e⟩) m
    have hGR : G ++ R = G1 := by
      refine Srt_ext (Srt_append p1 r3 (fun x hx y hy => ?_)) t1 (fun x => ?_)
      · rcases (r5 y).mp hy with ⟨j, q1, q2, q3, q4⟩ | q
        · rw [← q3]
          exact i7 x hx j q1 (by omega)
        · obtain ⟨j, q1, q2, q3⟩ := (BI_BM h hp hi y).mp q
          rw [← q3]
          exact i8 x hx j q1 (by omega)
      · rw [List.mem_append, r5, BI_BM h hp hi, i6]
    have hlen : G.length + R.length = G1.length := by rw [← hGR, List.length_append]
    rw [hGR] at r2
    rw [hlen] at r1
    have hG60 : G1.length ≤ 60 := by
      have := Srt_sub_len (L := sl K 0 K.length ++ sl B 0 B.length) t1 (fun x hx => by
        rw [List.mem_append, sl_mem, sl_mem]
        rcases (t5 x).mp hx with ⟨a, q1, q2, q3, q4⟩ | ⟨a, q1, q2, q3⟩
        · refine Or.inl ⟨a, q1, ?_, q3⟩
          have : posK S K.length (i + 1) ≤ K.length := hse.2
          omega
        · exact Or.inr ⟨a, q1, by omega, q3⟩)
      rw [List.length_append, sl_len, sl_len] at this
      omega
    have hQ : x11 = 0 ↔ QU K M B S i := by
      rw [r7]
      unfold QU
      constructor
      · rintro ⟨q1, q2⟩
        refine ⟨q1, fun q3 => ?_⟩
        exact q2 (B.getD (posB K S B i) 0) ((BI_BM h hp hi _).mpr ⟨posB K S B i, Nat.le_refl _, q3, rfl⟩)
      · rintro ⟨q1, q2⟩
        refine ⟨q1, fun y q3 => ?_⟩
        obtain ⟨j, q4, q5, _⟩ := (BI_BM h hp hi y).mp q3
        omega
    have hz0 : ¬ vq 0 = 0 := by rw [hq0, J_0, J_eq (by omega) (by omega)]; omega
    -- how it goes on
    have key : ∃ vq1 vy1, L_merge_L18 vm vr vh vl F (m + 1) (J (posK S K.length i)) (J G.length) vq vx vy = L_merge_L18 vm vr vh vl F m (J (posK S K.length (i + 1))) (J G1.length) vq1 vx1 vy1 ∧ HD vy1 C1 64 ∧ (∀ j, j ≠ 5 → vq1 j = vq j) ∧ vq1 5 = vq 5 + J (C1.length - C.length - 1 : Nat) := by
      rw [r1]
      by_cases q : QU K M B S i
      · obtain ⟨q1, q2⟩ := i10 q
        rw [hQ.mpr q, lmTail_keep q1 (by omega) hz0]
        refine ⟨vq, upd vy G.length 1, rfl, ?_, fun _ _ => rfl, ?_⟩
        · rw [q2]
          intro a ha
          unfold upd
          by_cases c : a = G.length
          · rw [if_pos c, if_pos (by rw [c]; simp)]
          · rw [if_neg c, h4 a ha]
            by_cases c2 : (a : Int) ∈ C
            · rw [if_pos c2, if_pos (by simp [c2])]
            · rw [if_neg c2, if_neg (by simp only [List.mem_append, List.mem_singleton]; rintro (q3 | q3); exact c2 q3; omega)]
        · rw [q2, List.length_append, List.length_singleton, show C.length + 1 - C.length - 1 = 0 by omega, J_00, Int32.add_zero]
      · have hC := i11 q
        have hx11 : ¬ x11 = 0 := fun q2 => q (hQ.mp q2)
        obtain ⟨vy1, c1, c2, c3⟩ := lcuts_J (F := F) (v2 := vy) hF r2 t1 t2 g11 i5 p3 i9 (fun a ha => h4 a (by omega))
        rw [← hq2, ← hC] at c1
        rw [← hC] at c2
        have hCl := SOK_len t3
        rw [lmTail_cut hx11 (by omega) c1, if_neg hz0]
        refine ⟨_, vy1, rfl, HD64 c2 t3 (fun t h1 h2 => ?_), fun j hj => if_neg hj, if_pos rfl⟩
        rw [c3 t h1]
        exact HD64_z h4 p3 (by omega) h2
    obtain ⟨vq1, vy1, k1, k2, k3, k4⟩ := key
    obtain ⟨G', C', sp', zt', zf', zg', vq', vx', vy', s1, s2, s3, s4, s5, s6, s7, s8, s9⟩ := lmloop hF h hk hm hb hsr hK hMk hH hB hp hc h0 d n m (i + 1) zt1 zf1 zg1 (sp + J (C1.length - C.length - 1 : Nat)) vq1 vx1 vy1 G1 C1 (by omega) (by omega) (by omega) i1 i2 i3 r2 k2 (by rw [k3 0 (by omega), hq0]) (by rw [k3 1 (by omega), hq1]) (by rw [k3 2 (by omega), hq2]) (by rw [k4, hq5])
    refine ⟨G', C', sp', zt', zf', zg', vq', vx', vy', ?_, by rw [k1]; exact s2, s3, s4, s5, s6, s7, fun j hj => by rw [s8 j hj, k3 j hj], s9⟩
    rw [X2_mergeAll_L46, length_J hsr]
    simp only [Option.bind_some]
    rw [if_neg (by rw [J_leN (by omega) (by omega)]; omega), e1]
    simp only [Option.bind_some, bnd]
    rw [J_succ]
    exact s1
end LMH
