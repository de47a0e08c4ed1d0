/-! inserting, at a turn -/
section SE5
variable {F : Nat}
variable {vm vr vh vl vq : Nat → Int32} {zk zm zb zs zr zu : zN} {zt : zT} {zbd zro zmc zmg zsp zjn : Int32}
theorem insAt_perm {B B' : List Int} (h : B'.Perm B) (i : Nat) (x : Int) : (B' ++ [x]).Perm (insAt B i x) := by
  refine (List.perm_append_singleton x B').trans ((h.cons x).trans ?_)
  have := (List.perm_middle (a := x) (l₁ := B.take i) (l₂ := B.drop i)).symm
  rw [List.take_append_drop] at this
  exact this
theorem J_m1n : (J (-1) < 0) = True := eq_true (by decide +kernel)
theorem J_m1p : (0 ≤ J (-1)) = False := eq_false (by decide +kernel)
theorem J_pn {k : Nat} (h : k < 1000) : (J (k : Int) < 0) = False := eq_false (by rw [J_0, J_lt (by omega) (by omega)]; omega)
theorem J_pp {k : Nat} (h : k < 1000) : (0 ≤ J (k : Int)) = True := eq_true (by rw [J_0, J_le (by omega) (by omega)]; omega)
theorem J_n64 {k : Nat} (h : k < 64) : (64 ≤ Int32.toNatClampNeg (J (k : Int))) = False := eq_false (by rw [J_ix (by omega)]; omega)
theorem lg473 (hF : 2000 ≤ F) {w x : Int} (hw : 2000 ≤ w ∧ w ≤ 100000) (h : ZS w vm vr vh vl vq zk zm zb zs zr zu zt zbd zro zmc zmg zsp zjn) (hx : -w - 60 ≤ x ∧ x ≤ w) (zf zg : zN) : ∃ vm' vr' vh' vl' vq' zk' zm' zb' zs' zr' zu' zt' zf' zg' zbd' zro' zmc' zmg' zsp' zjn', (L_seg473 F vm vr vh vl vq zk zm zb zs zr zu zt zf zg zbd zro zmc zmg zsp zjn (J x) = some (Sum.inr (Sum.inl (vm', vr', vh', vl', vq', zk', zm', zb', zs', zr', zu', zt', zf', zg', zbd', zro', zmc', zmg', zsp', zjn'))) ∨ L_seg473 F vm vr vh vl vq zk zm zb zs zr zu zt zf zg zbd zro zmc zmg zsp zjn (J x) = some (Sum.inr (Sum.inr (vm', vr', vh', vl', vq', zk', zm', zb', zs', zr', zu', zt', zf', zg', zbd', zro', zmc', zmg', zsp', zjn')))) ∧ ZS (w + 1000) vm' vr' vh' vl' vq' zk' zm' zb' zs' zr' zu' zt' zbd' zro' zmc' zmg' zsp' zjn' := by
  obtain ⟨K, M, B, B', S, bd, ro, hZ⟩ := h
  obtain ⟨a1, a2, a3, a4, hV, a6, a7, a8, a9⟩ := id hZ
  obtain ⟨b1, b2, b3, b4, b5, b6, b7, b8, b9, b10, b11⟩ := id hV
  subst a1 a2
  have hLK := a3.1
  have hpl : B'.length = B.length := a6.length_eq
  have hl := b1.1
  have hl4 := b4.1
  have hKR : KR B' := KR_mem.mpr (fun y hy => KR_mem.mp hLK.2.2.2.2.2.1 y (a6.mem_iff.mp hy))
  have hZu := ZL_up hZ (show w ≤ w + 1000 by omega)
  have f1 := lfind_K (F := F) (x := x) hF b1 hLK.1 hLK.2.1 (by omega)
  have f2 := lfind_J (F := F) (x := x) hF b4 (by omega) hKR (by omega)
  have hr3 := a3.2.2
  by_cases k : x ∈ K
  · have hcl := (mem_cl hLK.1).mp k
    rw [ixOf_in hLK.1 k] at f1
    by_cases c : M.getD (cl K x) 0 = 0
    · have t : TH K M B x := Or.inr ((GM_cl hLK.1 k).mpr c)
      refine ⟨vm, vr, vh, vl, vq, zk, zm, zb, zs, zr, zu, zt, zf, zg, J bd, J ro, zmc, zmg, zsp, zjn, Or.inr ?_, K, M, B, B', S, bd, ro, hZu⟩
      unfold L_seg473
      simp only [i7_0, i7_1, if_true, n7_0, n7_1, b5, b6]
      rw [bS f1]
      simp only [J_pn (show cl K x < 1000 by omega), J_n64 (show cl K x < 64 by omega), or_false, not_false_eq_true, if_true, if_false]
      rw [J_ix (by omega), b2.2 _ (by rw [hLK.2.2.1]; exact hcl.1), c, ← J_0, if_pos rfl, bS (lref_i (cx_insert_no2 hF hLK a4 (by omega) t))]
      simp only [if_true]
    · have hM1 : M.getD (cl K x) 0 = 1 := (hLK.2.2.2.1 _ (by rw [hLK.2.2.1]; exact hcl.1)).resolve_left c
      have hxB : ¬ x ∈ B := fun q => LK_disj hLK k q
      have t : ¬ TH K M B x := fun q => q.elim hxB (fun q => c ((GM_cl hLK.1 k).mp q))
      obtain ⟨zm', e1, e2, e3⟩ := cx_insert_mark (F := F) (zf := zf) (zg := zg) (zbd := J bd) (zro := J ro) (mg := zmg) (sp := zsp) (jc := zjn) hF a3 a4 (by omega) t k
      have hm2 := RA_set b2 (show cl K x < M.length by rw [hLK.2.2.1]; exact hcl.1) 0
      rw [← J_0] at hm2
      refine ⟨upd vm (cl K x) 0, vr, vh, vl, vq, zk, zm', zb, zs, zr, zu, zt, zf, zg, J bd, J ro, zmc - 1, zmg, zsp, zjn, Or.inl ?_, K, M.set (cl K x) 0, B, B', S, bd, ro, rfl, rfl, e2, e3, ⟨b1, hm2, b3, b4, b5, b6, b7, b8, b9, b10, b11⟩, a6, a7, RGE_up a8 (by omega), RGE_up a9 (by omega)⟩
      unfold L_seg473
      simp only [i7_0, i7_1, i7_3, if_true, n7_0, n7_1, n7_3, b5, b6, b8]
      rw [bS f1]
      simp only [J_pn (show cl K x < 1000 by omega), J_pp (show cl K x < 1000 by omega), J_n64 (show cl K x < 64 by omega), or_false, not_false_eq_true, if_false, if_true]
      rw [J_ix (by omega), b2.2 _ (by rw [hLK.2.2.1]; exact hcl.1), hM1, if_neg (by rw [J_0, J_eq (by omega) (by omega)]; omega), bS (f2.1 (fun q => hxB (a6.mem_iff.mp q)))]
      simp only [J_m1n, if_true]
      simp only [Option.bind_some, b6, b8]
      rw [if_neg (by rw [J_eq (by omega) (by omega)]; omega)]
      simp only [Option.bind_some]
      rw [bS (nz_i e1)]
      simp only [b6]
      rw [if_pos (by rw [hpl])]
  · rw [ixOf_out hLK.1 k] at f1
    by_cases kB : x ∈ B
    · obtain ⟨j, hj, hj2, f3⟩ := f2.2 (a6.mem_iff.mpr kB)
      refine ⟨vm, vr, vh, vl, vq, zk, zm, zb, zs, zr, zu, zt, zf, zg, J bd, J ro, zmc, zmg, zsp, zjn, Or.inr ?_, K, M, B, B', S, bd, ro, hZu⟩
      unfold L_seg473
      simp only [i7_0, i7_1, if_true, n7_0, n7_1, b5, b6]
      rw [bS f1]
      simp only [J_m1n, if_true]
      rw [bS f3]
      simp only [J_pn (show j < 1000 by omega), if_false]
      rw [bS (lref_i (cx_insert_no2 hF hLK a4 (by omega) (Or.inl kB)))]
      simp only [if_true]
    · have f3 := f2.1 (fun q => kB (a6.mem_iff.mp q))
      by_cases c6 : K.length + B'.length = 60
      · refine ⟨vm, vr, vh, vl, vq, zk, zm, zb, zs, zr, zu, zt, zf, zg, J bd, J ro, zmc, zmg, zsp, zjn, Or.inr ?_, K, M, B, B', S, bd, ro, hZu⟩
        unfold L_seg473
        simp only [i7_0, i7_1, if_true, n7_0, n7_1, b5, b6]
        rw [bS f1]
        simp only [J_m1n, if_true]
        rw [bS f3]
        simp only [J_m1n, J_m1p, if_true, if_false]
        rw [if_pos (by rw [J_add, show (60 : Int32) = J 60 by decide +kernel, J_eq (by omega) (by omega)]; omega)]
      · obtain ⟨zb', x1, x2, x3, x4⟩ := cx_insert_late (F := F) (zf := zf) (zg := zg) (mg := zmg) (sp := zsp) (jc := zjn) hF a3 a4 (by omega) k kB (by omega)
        have hB2 := RA_push b4 (show B'.length < 16 by omega) x
        have hpm := insAt_perm a6 (cl B x) x
        have hlenB : (insAt B (cl B x) x).length = B.length + 1 := insAt_len B (cl_le B x) x
        have hlenB' : (B' ++ [x]).length = B'.length + 1 := by simp
        have hq : ∀ j, j ≠ 1 → upd vq 1 (J ((B'.length + 1 : Nat) : Int)) j = vq j := fun j hj => upd_ne hj
        have hV2 : VS K M (B' ++ [x]) S bd ro zmg zsp zjn vm vr vh (upd vl B'.length (J x)) (upd vq 1 (J ((B'.length + 1 : Nat) : Int))) := by
          refine ⟨b1, b2, b3, hB2, ?_, ?_, ?_, ?_, ?_, ?_, ?_⟩
          · rw [hq 0 (by decide)]; exact b5
          · rw [upd_at, hlenB']
          · rw [hq 2 (by decide)]; exact b7
          · rw [hq 3 (by decide)]; exact b8
          · rw [hq 4 (by decide)]; exact b9
          · rw [hq 5 (by decide)]; exact b10
          · rw [hq 6 (by decide)]; exact b11
        have hR2 : RGE (w + 1000) (insAt B (cl B x) x) := fun y hy => by
          rcases (insAt_mem (cl_le B x)).mp hy with q | q
          · rw [q]; omega
          · have := a9 y q
            omega
        have hq3 : upd vq 1 (J ((B'.length + 1 : Nat) : Int)) 3 = J ro := by rw [hq 3 (by decide)]; exact b8
        by_cases cr : ((B.length + 1 : Nat) : Int) = ro
        · obtain ⟨vm', vr', vh', vq', zk', zm', zb2, zs', zr', zu', zt', zf', zg', zmc', zmg', zsp', zjn', m1, m2, m3, m4, G, T, hZ2⟩ := merge_Z hF zf zg x2 x1 hV2 hpm (by omega) (RGE_up a8 (show w ≤ w + 1000 by omega)) hR2 ⟨a3.2.1, a3.2.2.1⟩
          have e1 := x4 cr _ _ _ _ _ _ _ _ _ _ _ _ _ m1 m2
          refine ⟨vm', vr', vh', upd vl B'.length (J x), vq', zk', zm', zb2, zs', zr', zu', zt', zf', zg', J bd, J ro, zmc', zmg', zsp', zjn', Or.inl ?_, G, _, [], [], T, bd, ro, hZ2⟩
          unfold L_seg473
          simp only [i7_0, i7_1, i7_3, if_true, n7_0, n7_1, n7_3, b5, b6]
          rw [bS f1]
          simp only [J_m1n, if_true]
          rw [bS f3]
          simp only [J_m1n, J_m1p, if_true, if_false]
          rw [if_neg (by rw [J_add, show (60 : Int32) = J 60 by decide +kernel, J_eq (by omega) (by omega)]; omega)]
          simp only [if_pos (J_inN (show B'.length < 16 by omega) (show 16 ≤ 1000 by omega)), J_ix (show B'.length < 2147483648 by omega), if_pos (J_inM (show B'.length < 16 by omega) (show 16 ≤ 1000 by omega)), J_succ, Option.bind_some, upd_at, hq3]
          rw [if_pos (by rw [J_eq (by omega) (by omega)]; omega), m3]
          simp only [Option.bind_some]
          rw [bS (nz_i e1)]
          simp only [m4, if_true]
        · refine ⟨vm, vr, vh, upd vl B'.length (J x), upd vq 1 (J ((B'.length + 1 : Nat) : Int)), zk, zm, zb', zs, zr, zu, zt, zf, zg, J bd, J ro, zmc, zmg, zsp, zjn, Or.inl ?_, K, M, insAt B (cl B x) x, B' ++ [x], S, bd, ro, rfl, rfl, ⟨x2, a3.2.1, a3.2.2.1, by omega⟩, x1, hV2, hpm, by omega, RGE_up a8 (by omega), hR2⟩
          unfold L_seg473
          simp only [i7_0, i7_1, i7_3, if_true, n7_0, n7_1, n7_3, b5, b6]
          rw [bS f1]
          simp only [J_m1n, if_true]
          rw [bS f3]
          simp only [J_m1n, J_m1p, if_true, if_false]
          rw [if_neg (by rw [J_add, show (60 : Int32) = J 60 by decide +kernel, J_eq (by omega) (by omega)]; omega)]
          simp only [if_pos (J_inN (show B'.length < 16 by omega) (show 16 ≤ 1000 by omega)), J_ix (show B'.length < 2147483648 by omega), if_pos (J_inM (show B'.length < 16 by omega) (show 16 ≤ 1000 by omega)), J_succ, Option.bind_some, upd_at, hq3]
          rw [if_neg (by rw [J_eq (by omega) (by omega)]; omega)]
          simp only [Option.bind_some]
          rw [bS (nz_i (x3 cr))]
          simp only [upd_at]
          rw [if_pos (by rw [hpl])]
end SE5
