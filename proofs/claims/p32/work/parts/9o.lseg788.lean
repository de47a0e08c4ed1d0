/-! merging, at a turn -/
section SE4
variable {F : Nat}
variable {vm vr vh vl vq : Nat → Int32} {zk zm zb zs zr zu : zN} {zt : zT} {zbd zro zmc zmg zsp zjn : Int32}
theorem RA_nil {N : Nat} (v : Nat → Int32) : RA N v [] := ⟨Nat.zero_le _, fun i hi => absurd hi (Nat.not_lt_zero i)⟩
theorem merge_Z (hF : 2000 ≤ F) {w : Int} {K M B B' S : List Int} {bd ro : Int} (zf zg : zN) (h : LK K M B S bd) (hX : XS K M B S bd zk zm zb zs zr zu zt zmc) (hV : VS K M B' S bd ro zmg zsp zjn vm vr vh vl vq) (hp : B'.Perm B) (hc : K.length + B.length ≤ 60) (h1 : RGE w K) (h2 : RGE w B) (hro : 1 ≤ ro ∧ ro ≤ 16) : ∃ vm' vr' vh' vq' zk' zm' zb' zs' zr' zu' zt' zf' zg' zmc' zmg' zsp' zjn', X2_mergeAll F zk zm zb zs zr zu zt zf zg (J bd) zmc zmg zsp zjn = some (zk', zm', zb', zs', zr', zu', zt', zf', zg', zmc', zmg', zsp', zjn') ∧ RN 16 zb' [] ∧ L_merge F vm vr vh vl vq = some (vm', vr', vh', vq') ∧ vq' 1 = 0 ∧ ∃ G T, ZL w G (List.replicate G.length 0) [] [] T bd ro vm' vr' vh' vl vq' zk' zm' zb' zs' zr' zu' zt' (J bd) (J ro) zmc' zmg' zsp' zjn' := by
  obtain ⟨b1, b2, b3, b4, b5, b6, b7, b8, b9, b10, b11⟩ := hV
  obtain ⟨x1, x2, x3, x4, x5⟩ := hX
  obtain ⟨G, T, ⟨g1, g2, g3⟩, sp', jc', ⟨zk', zm', zb', zs', zr', zu', zt', zf', zg', m1, m2, m3, m4, m5⟩, vm', vr', vh', vq', n1, n2, n3, n4, n5, n6, n7, n8, n9, n10, n11⟩ := lmerge_JJ hF (zf := zf) (zg := zg) zt zmc zmg zsp zjn h x1 x2 x3 x4.1 b1 b2 b3 b4 hp hc b5 b6 b7 b10 b11
  have hlen : G.length ≤ 60 := by
    have e1 := (th_perm h g1 g3).1
    have e2 := cU_len K M K.length
    unfold allN at e1
    omega
  refine ⟨vm', vr', vh', vq', zk', zm', zb', zs', zr', zu', zt', zf', zg', 0, zmg + 1, sp', jc', m1, m4, n1, n6, G, T, rfl, rfl, ⟨LK_new g1 g2 (by omega) m5.2.1 m5.2.2.1 ⟨h.2.2.2.2.2.2.2.2.2.2.1, h.2.2.2.2.2.2.2.2.2.2.2⟩, hro.1, hro.2, ?_⟩, ⟨m2, m3, m4, m5, ?_⟩, ⟨n2, n3, n4, RA_nil vl, n5, ?_, n7.trans b7, n8.trans b8, ?_, n10, n11⟩, List.Perm.nil, ?_, fun y hy => ?_, fun y hy => ?_⟩
  · show ((0 : Nat) : Int) < ro
    omega
  · rw [cU_rep, Int.sub_self, J_0]
  · rw [n6]
    exact J_00.symm
  · rw [n9, b9]
  · show G.length + 0 ≤ 60
    omega
  · rcases (g3 y).mp hy with q | q
    · exact h1 y (GM_in q (Nat.le_refl _))
    · exact h2 y (BM_all.mp q)
  · simp at hy
theorem lg788 (hF : 2000 ≤ F) {w : Int} (hw : 2000 ≤ w ∧ w ≤ 100000) (h : ZS w vm vr vh vl vq zk zm zb zs zr zu zt zbd zro zmc zmg zsp zjn) (zf zg : zN) : ∃ vm' vr' vh' vq' zk' zm' zb' zs' zr' zu' zt' zf' zg' zmc' zmg' zsp' zjn', L_seg788 F vm vr vh vl vq zk zm zb zs zr zu zt zf zg zbd zmc zmg zsp zjn = some (Sum.inr (vm', vr', vh', vq', zk', zm', zb', zs', zr', zu', zt', zf', zg', zmc', zmg', zsp', zjn')) ∧ ZS (w + 1000) vm' vr' vh' vl vq' zk' zm' zb' zs' zr' zu' zt' zbd zro zmc' zmg' zsp' zjn' := by
  obtain ⟨K, M, B, B', S, bd, ro, a1, a2, a3, a4, a5, a6, a7, a8, a9⟩ := h
  subst a1 a2
  obtain ⟨vm', vr', vh', vq', zk', zm', zb', zs', zr', zu', zt', zf', zg', zmc', zmg', zsp', zjn', m1, m2, m3, m4, G, T, hZ⟩ := merge_Z hF zf zg a3.1 a4 a5 a6 a7 a8 a9 ⟨a3.2.1, a3.2.2.1⟩
  have hs := hZ.2.2.2.1.2.2.2.1.1
  refine ⟨vm', vr', vh', vq', zk', zm', zb', zs', zr', zu', zt', zf', zg', zmc', zmg', zsp', zjn', ?_, G, _, [], [], T, bd, ro, ZL_up hZ (by omega)⟩
  unfold L_seg788 X2_merge
  rw [bS m3, m1]
  simp only [Option.bind_some]
  rw [length_J hs]
  simp only [Option.bind_some]
  rw [bS (cx_plain hZ.2.2.2.1).1, if_pos rfl]
end SE4
