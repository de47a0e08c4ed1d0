/-! building anew, at a turn -/
section SE7
variable {F : Nat}
variable {vm vr vh vl vq : Nat → Int32} {zk zm zb zs zr zu : zN} {zt : zT} {zbd zro zmc zmg zsp zjn : Int32}
theorem l863 {K M : List Int} (hm : RA 64 vm M) (hq0 : vq 0 = J K.length) (hl : K.length ≤ 64) (hM : M.length = K.length) (hM2 : ∀ j, j < M.length → M.getD j 0 = 0 ∨ M.getD j 0 = 1) : ∀ (d n p : Nat) (v : Nat → Int32), d < n → p + d = K.length → (∀ j, j < (cU K M p).length → v j = J ((cU K M p).getD j 0)) → (∀ j, p ≤ j → j < K.length → v j = J (K.getD j 0)) → ∃ v', L_seg812_L863 vm vq n (J p) (J (cU K M p).length) v = some (J (cU K M K.length).length, v') ∧ RA 64 v' (cU K M K.length)
  | d, 0, _, _, hn, _, _, _ => absurd hn (Nat.not_lt_zero d)
  | 0, n + 1, p, v, _, hd, h1, h2 => by
    have e : p = K.length := by omega
    have hc := cU_len K M K.length
    rw [e] at h1
    refine ⟨v, ?_, by omega, h1⟩
    rw [L_seg812_L863]
    simp only [i7_0, if_true, n7_0, hq0]
    rw [e, if_pos (by exact Int32.le_refl _)]
  | d + 1, n + 1, p, v, hn, hd, h1, h2 => by
    have hc := cU_len K M p
    have hmp := hM2 p (by omega)
    rw [L_seg812_L863]
    simp only [i7_0, if_true, n7_0, hq0]
    rw [if_neg (by rw [J_leN (by omega) (by omega)]; omega), if_pos (J_inN (by omega) (by omega)), J_ix (by omega), hm.2 p (by omega)]
    by_cases c : M.getD p 0 = 0
    · have e : cU K M (p + 1) = cU K M p ++ [K.getD p 0] := by rw [cU, if_pos c]
      obtain ⟨v', r1, r2⟩ := l863 hm hq0 hl hM hM2 d n (p + 1) (upd v (cU K M p).length (J (K.getD p 0))) (by omega) (by omega) (fun j hj => by
        rw [e, List.length_append, List.length_singleton] at hj
        rw [e, getD_snoc]
        by_cases q : j = (cU K M p).length
        · rw [q, upd_at, if_neg (Nat.lt_irrefl _), if_pos rfl]
        · rw [upd_ne q, if_pos (by omega)]
          exact h1 j (by omega)) (fun j a b => by
        rw [upd_ne (by omega)]
        exact h2 j (by omega) b)
      refine ⟨v', ?_, r2⟩
      rw [c, if_neg (by decide +kernel), if_pos (J_inM (by omega) (by omega)), if_pos (J_inN (by omega) (by omega)), J_ix (by omega), h2 p (by omega) (by omega)]
      simp only [bnd]
      rw [J_succ, J_succ]
      rw [e, List.length_append, List.length_singleton] at r1
      exact r1
    · have e : cU K M (p + 1) = cU K M p := by rw [cU, if_neg c]
      obtain ⟨v', r1, r2⟩ := l863 hm hq0 hl hM hM2 d n (p + 1) v (by omega) (by omega) (fun j hj => by
        rw [e] at hj
        rw [e]
        exact h1 j hj) (fun j a b => h2 j (by omega) b)
      refine ⟨v', ?_, r2⟩
      rw [hmp.resolve_left c, ← J_1, if_pos rfl]
      simp only [bnd]
      rw [J_succ]
      rw [e] at r1
      exact r1
theorem l903 (hF : 2000 ≤ F) {B' C : List Int} (hB : RA 16 vl B') (hq1 : vq 1 = J B'.length) (hKR : KR B') (hnd : ∀ i j, i < j → j < B'.length → B'.getD i 0 ≠ B'.getD j 0) (hC : ∀ y, y ∈ C → ¬ y ∈ B') (hlc : C.length + B'.length ≤ 60) : ∀ (d n i : Nat) (R : List Int) (v : Nat → Int32), d < n → i + d = B'.length → RA 64 v R → Srt R → KR R → R.length = C.length + i → (∀ y, y ∈ R ↔ y ∈ C ∨ BM B' 0 i y) → ∃ v' T, L_seg812_L903 vl vq F n (J i) (J R.length) v = some (J (T : List Int).length, v') ∧ RA 64 v' T ∧ Srt T ∧ KR T ∧ ∀ y, y ∈ T ↔ y ∈ C ∨ BM B' 0 B'.length y
  | d, 0, _, _, _, hn, _, _, _, _, _, _ => absurd hn (Nat.not_lt_zero d)
  | 0, n + 1, i, R, v, _, hd, h1, h2, h3, h4, h5 => by
    have e : i = B'.length := by omega
    refine ⟨v, R, ?_, h1, h2, h3, by rw [e] at h5; exact h5⟩
    rw [L_seg812_L903]
    simp only [i7_1, if_true, n7_1, hq1]
    rw [e, if_pos (by exact Int32.le_refl _)]
  | d + 1, n + 1, i, R, v, hn, hd, h1, h2, h3, h4, h5 => by
    have hl16 := hB.1
    have hx := hKR i (by omega)
    have hne : ¬ B'.getD i 0 ∈ R := fun q => by
      rcases (h5 _).mp q with q | ⟨j, _, a2, a3⟩
      · exact hC _ q (getD_mem (by omega))
      · exact hnd j i a2 (by omega) a3
    obtain ⟨v1, g1, g2⟩ := lsorts_J (A := []) (R := R) hF h1 h3 hx (by rw [List.length_nil]; omega) h2 hne
    rw [List.length_nil, Nat.zero_add, J_00] at g1
    rw [List.nil_append] at g2
    have hle := insAt_len R (cl_le R (B'.getD i 0)) (B'.getD i 0)
    obtain ⟨v', T, r1, r2⟩ := l903 hF hB hq1 hKR hnd hC hlc d n (i + 1) (insAt R (cl R (B'.getD i 0)) (B'.getD i 0)) v1 (by omega) (by omega) g2 (insAt_Srt h2 hne) (KR_mem.mpr (fun y hy => by
      rcases (insAt_mem (cl_le R _)).mp hy with q | q
      · rw [q]; exact hx
      · exact KR_mem.mp h3 y q)) (by omega) (fun y => by
      rw [insAt_mem (cl_le R _), h5 y, BM_split (Nat.zero_le i) (Nat.le_succ i), BM_step (Nat.lt_succ_self i)]
      have hno := BM_none (B := B') (x := y) (Nat.le_refl (i + 1))
      constructor
      · rintro (q | q | q)
        · exact Or.inr (Or.inr (Or.inl q.symm))
        · exact Or.inl q
        · exact Or.inr (Or.inl q)
      · rintro (q | q | q | q)
        · exact Or.inr (Or.inl q)
        · exact Or.inr (Or.inr q)
        · exact Or.inl q.symm
        · exact absurd q hno)
    refine ⟨v', T, ?_, r2⟩
    rw [L_seg812_L903]
    simp only [i7_1, if_true, n7_1, hq1]
    rw [if_neg (by rw [J_leN (by omega) (by omega)]; omega), if_pos (J_inN (by omega) (by omega)), J_ix (by omega), hB.2 i (by omega), bS g1]
    simp only [bnd]
    rw [J_succ, J_succ]
    rw [hle] at r1
    exact r1
theorem l936 : ∀ (d n i : Nat) (v : Nat → Int32), d < n → i + d = 64 → (∀ j, j < i → v j = 0) → ∃ v', L_seg812_L936 n (J i) v = some v' ∧ ∀ j, j < 64 → v' j = 0
  | d, 0, _, _, hn, _, _ => absurd hn (Nat.not_lt_zero d)
  | 0, n + 1, i, v, _, hd, h1 => by
    refine ⟨v, ?_, fun j hj => h1 j (by omega)⟩
    rw [L_seg812_L936, if_pos (by rw [J_64, J_le (by omega) (by omega)]; omega)]
  | d + 1, n + 1, i, v, hn, hd, h1 => by
    obtain ⟨v', r1, r2⟩ := l936 d n (i + 1) (upd v i 0) (by omega) (by omega) (fun j hj => by
      by_cases c : j = i
      · rw [c, upd_at]
      · rw [upd_ne c]
        exact h1 j (by omega))
    refine ⟨v', ?_, r2⟩
    rw [L_seg812_L936, if_neg (by rw [J_64, J_le (by omega) (by omega)]; omega), if_pos (J_inN (by omega) (by omega)), J_ix (by omega)]
    simp only [bnd]
    rw [J_succ]
    exact r1
theorem lg812 (hF : 2000 ≤ F) {w : Int} (hw : 2000 ≤ w ∧ w ≤ 100000) (h : ZS w vm vr vh vl vq zk zm zb zs zr zu zt zbd zro zmc zmg zsp zjn) (zf zg : zN) (x9 : Int32) : ∃ vm' vr' vh' vq' zk' zm' zb' zs' zr' zu' zt' zf' zg' zbd' zro' zmc' zmg' zsp' zjn', L_seg812 F vm vr vh vl vq zk zm zb zs zr zu zt zf zg zbd zro zmc zmg zsp zjn x9 = some (Sum.inr (vm', vr', vh', vq', zk', zm', zb', zs', zr', zu', zt', zf', zg', zbd', zro', zmc', zmg', zsp', zjn')) ∧ ZS (w + 1000) vm' vr' vh' vl vq' zk' zm' zb' zs' zr' zu' zt' zbd' zro' zmc' zmg' zsp' zjn' := by
  obtain ⟨K, M, B, B', S, bd, ro, a1, a2, a3, a4, hV, a6, a7, a8, a9⟩ := h
  obtain ⟨b1, b2, b3, b4, b5, b6, b7, b8, b9, b10, b11⟩ := id hV
  subst a1 a2
  have hLK := a3.1
  have hpl : B'.length = B.length := a6.length_eq
  have hl := b1.1
  have hl4 := b4.1
  have hKR : KR B' := KR_mem.mpr (fun y hy => KR_mem.mp hLK.2.2.2.2.2.1 y (a6.mem_iff.mp hy))
  have hcl := cU_len K M K.length
  obtain ⟨r1, _, _, g1⟩ := llow_W (F := F) (y := x9) (w := 5) (n := 5) (by decide +kernel) (by omega)
  have e2 : ∃ b : Int, (0 ≤ b ∧ b ≤ 20) ∧ (if J r1 = 0 then Option.bind (L_low F (x9 >>> (3 &&& 31)) 21) fun r827 => some r827 else Option.bind (L_low F (x9 >>> (3 &&& 31)) 4) fun r838 => some r838) = some (J b) := by
    obtain ⟨r2, p1, p2, p3⟩ := llow_W (F := F) (y := x9 >>> (3 &&& 31)) (w := 21) (n := 21) (by decide +kernel) (by omega)
    obtain ⟨r3, q1, q2, q3⟩ := llow_W (F := F) (y := x9 >>> (3 &&& 31)) (w := 4) (n := 4) (by decide +kernel) (by omega)
    by_cases c : J r1 = 0
    · exact ⟨r2, by omega, by rw [if_pos c, bS p3]⟩
    · exact ⟨r3, by omega, by rw [if_neg c, bS q3]⟩
  obtain ⟨b, hb, e2⟩ := e2
  obtain ⟨r3, p1, p2, g3⟩ := llow_W (F := F) (y := x9 >>> (8 &&& 31)) (w := 6) (n := 6) (by decide +kernel) (by omega)
  obtain ⟨v1, c1, c2⟩ := l863 (vm := vm) (vq := vq) b2 b5 hl hLK.2.2.1 hLK.2.2.2.1 K.length F 0 vr (by omega) (by omega) (fun j hj => absurd hj (Nat.not_lt_zero j)) (fun j _ hj => b1.2 j hj)
  rw [show cU K M 0 = [] from rfl, List.length_nil, J_00] at c1
  have hsC := cU_Srt (M := M) hLK.1 K.length (Nat.le_refl _)
  have hCK : ∀ y, y ∈ cU K M K.length → y ∈ K := fun y hy => GM_in ((cU_mem K M y K.length).mp hy) (Nat.le_refl _)
  obtain ⟨v2, T, d1, d2, d3, d4, d5⟩ := l903 (vl := vl) (vq := vq) (C := cU K M K.length) hF b4 b6 hKR (Nodup_getD (a6.nodup_iff.mpr (Srt_nodup hLK.2.2.2.2.1))) (fun y hy q => LK_disj hLK (hCK y hy) (a6.mem_iff.mp q)) (by omega) B'.length F 0 _ v1 (by omega) (by omega) c2 hsC (KR_mem.mpr (fun y hy => KR_mem.mp hLK.2.1 y (hCK y hy))) (by omega) (fun y => ⟨Or.inl, fun q => q.resolve_right (BM_none (Nat.le_refl 0))⟩)
  rw [J_00] at d1
  obtain ⟨v3, s1, s2⟩ := l936 64 F 0 vm (by omega) (by omega) (fun j hj => absurd hj (Nat.not_lt_zero j))
  rw [J_00] at s1
  have hTm : ∀ x, x ∈ T ↔ GM K M 0 K.length x ∨ BM B 0 B.length x := fun x => by
    rw [d5 x, cU_mem, BM_all, BM_all, a6.mem_iff]
  obtain ⟨zk', zm', zb', zs', zr', zu', zt', zf', m1, m2, m3⟩ := cx_rebuild (b := b) (r := 1 + r3) (zbd := J bd) (zro := J ro) hF zf hLK a4 ⟨hb, by omega⟩ d3 hTm
  have hlT : T.length ≤ 60 := by
    have e1 := (th_perm hLK d3 hTm).1
    unfold allN at e1
    omega
  obtain ⟨v4, t1, t2, _⟩ := lcuts_J (v2 := vh) (C := []) (b := 0) hF d2 d3 d4 hb (Nat.zero_le _) ⟨fun i j _ h => by simp at h, fun i h => by simp at h, fun h => by simp at h, fun h => absurd h (Nat.lt_irrefl 0)⟩ (fun i h => by simp at h) (fun i h => absurd h (Nat.not_lt_zero i))
  rw [List.length_nil, Nat.sub_zero, Nat.sub_zero, J_00] at t1
  rw [List.length_nil, Nat.sub_zero] at t2
  refine ⟨v3, v2, v4, upd (upd (upd (upd vq 0 (J T.length)) 1 0) 2 (J b)) 3 (J (1 + r3)), zk', zm', zb', zs', zr', zu', zt', zf', zg, J b, J (1 + r3), 0, zmg, zsp, zjn, ?_, T, List.replicate T.length 0, [], [], cutF b T 0 [] 0 T.length, b, 1 + r3, rfl, rfl, m2, m3, ⟨d2, ⟨by rw [List.length_replicate]; omega, fun i hi => ?_⟩, t2, RA_nil vl, ?_, ?_, ?_, ?_, ?_, ?_, ?_⟩, List.Perm.nil, ?_, fun y hy => ?_, fun y hy => ?_⟩
  · unfold L_seg812
    rw [bS g1, bS e2, bS g3]
    simp only [bnd]
    rw [bS c1]
    simp only []
    rw [bS d1]
    simp only [i7_0, i7_1, i7_2, i7_3, if_true, n7_0, n7_1, n7_2, n7_3]
    rw [bS s1]
    rw [J_1, J_add, show (21 : Int32) = J 21 by decide +kernel, bS (lref_b (cx_rebuild_no (by omega) (by omega) (by omega)))]
    simp only [J_1, if_true]
    rw [J_0, bS (lref_b (cx_rebuild_no (by omega) (by omega) (by omega)))]
    simp only [J_1, if_true]
    rw [bS (nz_i m1)]
    simp only []
    rw [J_0] at t1
    rw [bS t1]
    simp only [if_true]
    rw [J_0]
  · rw [List.length_replicate] at hi
    rw [s2 i (by omega), getD_rep, J_0]
  · rw [upd_ne (by decide), upd_ne (by decide), upd_ne (by decide), upd_at]
  · rw [upd_ne (by decide), upd_ne (by decide), upd_at]
    exact J_00.symm
  · rw [upd_ne (by decide), upd_at]
  · rw [upd_at]
  · rw [upd_ne (by decide), upd_ne (by decide), upd_ne (by decide), upd_ne (by decide)]
    exact b9
  · rw [upd_ne (by decide), upd_ne (by decide), upd_ne (by decide), upd_ne (by decide)]
    exact b10
  · rw [upd_ne (by decide), upd_ne (by decide), upd_ne (by decide), upd_ne (by decide)]
    exact b11
  · show T.length + 0 ≤ 60
    omega
  · rcases (hTm y).mp hy with q | q
    · have := a8 y (GM_in q (Nat.le_refl _))
      omega
    · have := a9 y (BM_all.mp q)
      omega
  · simp at hy
end SE7
