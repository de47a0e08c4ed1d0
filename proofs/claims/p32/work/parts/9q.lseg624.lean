/-! removing, at a turn -/
section SE6
variable {F : Nat}
variable {vm vr vh vl vq : Nat → Int32} {zk zm zb zs zr zu : zN} {zt : zT} {zbd zro zmc zmg zsp zjn : Int32}
theorem split_at {l : List Int} {j : Nat} (h : j < l.length) : ∃ a r, l = a ++ l.getD j 0 :: r ∧ a.length = j := by
  refine ⟨l.take j, l.drop (j + 1), ?_, by rw [List.length_take]; omega⟩
  have e : l.getD j 0 = l[j] := by
    rw [List.getD_eq_getElem?_getD, List.getElem?_eq_getElem h]
    rfl
  rw [e, ← List.drop_eq_getElem_cons h, List.take_append_drop]
theorem erase_perm {B : List Int} {j : Nat} (h : j < B.length) : B.Perm (B.getD j 0 :: B.eraseIdx j) := by
  obtain ⟨a, r, e, hl⟩ := split_at h
  have e2 : B.eraseIdx j = a ++ r := by
    rw [← hl]
    conv => lhs; arg 1; rw [e]
    exact eraseIdx_mid a _ r
  rw [e2]
  conv => lhs; rw [e]
  exact List.perm_middle
/-- the list with its last number in the place of another -/
def swp (l : List Int) (j : Nat) : List Int := (l.take (l.length - 1)).set j (l.getD (l.length - 1) 0)
theorem getD_take {l : List Int} {n i : Nat} (h : i < n) : (l.take n).getD i 0 = l.getD i 0 := by
  rw [List.getD_eq_getElem?_getD, List.getD_eq_getElem?_getD, List.getElem?_take, if_pos h]
theorem swp_len {l : List Int} {j : Nat} (h : j < l.length) : (swp l j).length = l.length - 1 := by
  unfold swp
  rw [List.length_set, List.length_take]
  omega
theorem swp_getD {l : List Int} {j i : Nat} (h : j < l.length) (hi : i < l.length - 1) : (swp l j).getD i 0 = if i = j then l.getD (l.length - 1) 0 else l.getD i 0 := by
  unfold swp
  rw [getD_set, getD_take hi, List.length_take]
  by_cases c : i = j
  · rw [if_pos c, if_pos ⟨c, by omega⟩]
  · rw [if_neg c, if_neg (fun q => c q.1)]
theorem swp_perm {l : List Int} {j : Nat} (h : j < l.length) : l.Perm (l.getD j 0 :: swp l j) := by
  have e1 : l = l.take (l.length - 1) ++ [l.getD (l.length - 1) 0] := by
    have := take_snoc (l := l) (p := l.length - 1) (by omega)
    rw [show l.length - 1 + 1 = l.length by omega, List.take_length] at this
    exact this
  have hpl : (l.take (l.length - 1)).length = l.length - 1 := by
    rw [List.length_take]
    omega
  by_cases c : j = l.length - 1
  · have e2 : swp l j = l.take (l.length - 1) := by
      unfold swp
      exact List.set_eq_of_length_le (by omega)
    rw [e2, c]
    conv => lhs; rw [e1]
    exact List.perm_append_singleton _ _
  · obtain ⟨a, r, e2, hl⟩ := split_at (l := l.take (l.length - 1)) (j := j) (by omega)
    rw [getD_take (by omega)] at e2
    have e3 : swp l j = a ++ l.getD (l.length - 1) 0 :: r := by
      unfold swp
      conv => lhs; arg 1; rw [e2]
      rw [List.set_append_right _ _ (by omega), hl, Nat.sub_self, List.set_cons_zero]
    rw [e3]
    conv => lhs; rw [e1, e2]
    rw [List.append_assoc, List.cons_append]
    refine List.perm_middle.trans (List.Perm.cons _ ?_)
    exact (List.perm_append_singleton _ r).append_left a
theorem J_n16 {k : Nat} (h : k < 16) : (16 ≤ Int32.toNatClampNeg (J (k : Int))) = False := eq_false (by rw [J_ix (by omega)]; omega)
theorem lg624_near (hF : 2000 ≤ F) {w x : Int} {K B' : List Int} {x9 : Int32} (b1 : RA 64 vr K) (b4 : RA 16 vl B') (hKR : KR B') (b5 : vq 0 = J K.length) (hx : -w - 60 ≤ x ∧ x ≤ w) (hw : 2000 ≤ w ∧ w ≤ 100000) (a8 : RGE w K) : ∃ y : Int, (-w - 60 ≤ y ∧ y ≤ w) ∧ ∃ r632, L_find F 16 vl (J B'.length) (J x) = some r632 ∧ (if 0 ≤ r632 then some (J x) else if J (K.length : Int) = 0 then some (J x) else Option.bind (L_low F (x9 >>> (5 &&& 31)) (J (K.length : Int))) fun r659 => if ¬ (r659 < 0 ∨ 64 ≤ Int32.toNatClampNeg r659) then some (vr (Int32.toNatClampNeg r659)) else none) = some (J y) := by
  have hl := b1.1
  have f2 := lfind_J (F := F) (x := x) hF b4 (by omega) hKR (by omega)
  by_cases k : x ∈ B'
  · obtain ⟨j, hj, hj2, f3⟩ := f2.2 k
    have hl4 := b4.1
    refine ⟨x, hx, J j, f3, ?_⟩
    rw [if_pos (by rw [J_0, J_le (by omega) (by omega)]; omega)]
  · refine if c : K.length = 0 then ⟨x, hx, J (-1), f2.1 k, ?_⟩ else ?_
    · rw [if_neg (by decide +kernel), if_pos (by rw [c]; decide +kernel)]
    · obtain ⟨r, p1, p2, p3⟩ := llow_J (F := F) (y := x9 >>> (5 &&& 31)) (n := K.length) (by omega)
      have er : r = (r.toNat : Int) := by omega
      refine ⟨K.getD r.toNat 0, ?_, J (-1), f2.1 k, ?_⟩
      · have := a8 _ (getD_mem (d := 0) (show r.toNat < K.length by omega))
        omega
      · rw [if_neg (by decide +kernel), if_neg (by rw [J_0, J_eq (by omega) (by omega)]; omega), bS p3, er, if_pos (J_inN (by omega) (by omega)), J_ix (by omega), b1.2 _ (by omega)]
        rfl
theorem lg624 (hF : 2000 ≤ F) {w x : Int} (hw : 2000 ≤ w ∧ w ≤ 100000) (h : ZS w vm vr vh vl vq zk zm zb zs zr zu zt zbd zro zmc zmg zsp zjn) (hx : -w - 60 ≤ x ∧ x ≤ w) (zf zg : zN) (x9 : Int32) : ∃ vm' vl' vq' zk' zm' zb' zs' zr' zu' zt' zf' zg' zbd' zro' zmc' zmg' zsp' zjn', (L_seg624 F vm vr vl vq zk zm zb zs zr zu zt zf zg zbd zro zmc zmg zsp zjn x9 (J x) = some (Sum.inr (Sum.inl (vm', vl', vq', zk', zm', zb', zs', zr', zu', zt', zf', zg', zbd', zro', zmc', zmg', zsp', zjn'))) ∨ L_seg624 F vm vr vl vq zk zm zb zs zr zu zt zf zg zbd zro zmc zmg zsp zjn x9 (J x) = some (Sum.inr (Sum.inr (vm', vl', vq', zk', zm', zb', zs', zr', zu', zt', zf', zg', zbd', zro', zmc', zmg', zsp', zjn')))) ∧ ZS (w + 1000) vm' vr vh vl' vq' zk' zm' zb' zs' zr' zu' zt' zbd' zro' zmc' zmg' zsp' zjn' := by
  obtain ⟨K, M, B, B', S, bd, ro, hZ⟩ := h
  obtain ⟨a1, a2, a3, a4, hV, a6, a7, a8, a9⟩ := id hZ
  obtain ⟨b1, b2, b3, b4, b5, b6, b7, b8, b9, b10, b11⟩ := id hV
  subst a1 a2
  have hLK := a3.1
  have hpl : B'.length = B.length := a6.length_eq
  have hl := b1.1
  have hl4 := b4.1
  have hKR : KR B' := KR_mem.mpr (fun y hy => KR_mem.mp hLK.2.2.2.2.2.1 y (a6.mem_iff.mp hy))
  have hZu := ZL_up hZ (show w ≤ w + 1000 by omega)
  obtain ⟨y, hy, r632, n1, n2⟩ := lg624_near (vr := vr) (vl := vl) (vq := vq) (x9 := x9) hF b1 b4 hKR b5 hx hw a8
  have f1 := lfind_K (F := F) (x := y) hF b1 hLK.1 hLK.2.1 (by omega)
  have f2 := lfind_J (F := F) (x := y) hF b4 (by omega) hKR (by omega)
  by_cases kB : y ∈ B
  · obtain ⟨j, hj, hj2, f3⟩ := f2.2 (a6.mem_iff.mpr kB)
    have hcb := (mem_cl hLK.2.2.2.2.1).mp kB
    obtain ⟨zb', e1, e2, e3⟩ := cx_remove_late hF a3 a4 (by omega) kB
    have hl3 : (swp B' j).length = B'.length - 1 := swp_len hj
    have hpm : (swp B' j).Perm (B.eraseIdx (cl B y)) := by
      have q1 := swp_perm hj
      rw [hj2] at q1
      have q2 := erase_perm hcb.1
      rw [hcb.2] at q2
      exact (q1.symm.trans (a6.trans q2)).cons_inv
    have hRA : RA 16 (upd vl j (J (B'.getD (B'.length - 1) 0))) (swp B' j) := by
      refine ⟨by omega, fun i hi => ?_⟩
      rw [swp_getD hj (by omega)]
      by_cases c : i = j
      · rw [if_pos c, c, upd_at]
      · rw [if_neg c, upd_ne c, b4.2 i (by omega)]
    have hq : ∀ i, i ≠ 1 → upd vq 1 (J ((B'.length - 1 : Nat) : Int)) i = vq i := fun i hi => upd_ne hi
    have hV2 : VS K M (swp B' j) S bd ro zmg zsp zjn vm vr vh (upd vl j (J (B'.getD (B'.length - 1) 0))) (upd vq 1 (J ((B'.length - 1 : Nat) : Int))) := by
      refine ⟨b1, b2, b3, hRA, ?_, ?_, ?_, ?_, ?_, ?_, ?_⟩
      · rw [hq 0 (by decide)]; exact b5
      · rw [upd_at, hl3]
      · rw [hq 2 (by decide)]; exact b7
      · rw [hq 3 (by decide)]; exact b8
      · rw [hq 4 (by decide)]; exact b9
      · rw [hq 5 (by decide)]; exact b10
      · rw [hq 6 (by decide)]; exact b11
    have hbel := lbelow_J (x := 1000001) hF e2.1 b1 b2 hRA hpm hV2.2.2.2.2.1 hV2.2.2.2.2.2.1 (by omega)
    rw [thN_top e2.1, ← L_1000001] at hbel
    have hlB : (B.eraseIdx (cl B y)).length ≤ B.length := by
      have := hpm.length_eq
      omega
    refine ⟨vm, upd vl j (J (B'.getD (B'.length - 1) 0)), upd vq 1 (J ((B'.length - 1 : Nat) : Int)), zk, zm, zb', zs, zr, zu, zt, zf, zg, J bd, J ro, zmc, zmg, zsp, zjn, Or.inl ?_, K, M, B.eraseIdx (cl B y), swp B' j, S, bd, ro, rfl, rfl, e2, e3, hV2, hpm, by omega, RGE_up a8 (by omega), fun z hz => ?_⟩
    · unfold L_seg624
      simp only [i7_0, i7_1, if_true, n7_0, n7_1, b5, b6]
      rw [bS n1, bS n2, bS f1, bS f3]
      simp only [J_pp (show j < 1000 by omega), J_pn (show j < 1000 by omega), if_true, if_false, upd_at, J_pred (show 0 < B'.length by omega), J_pn (show B'.length - 1 < 1000 by omega), eq_false (show ¬ 16 ≤ B'.length - 1 by omega), eq_false (show ¬ 16 ≤ j by omega), or_false, not_false_eq_true, J_ix (show j < 2147483648 by omega), J_ix (show B'.length - 1 < 2147483648 by omega), b4.2 (B'.length - 1) (by omega), Option.bind_some]
      rw [bS (nz_i e1)]
      simp only []
      rw [bS hbel, if_pos rfl]
    · have := a9 z (List.mem_of_mem_eraseIdx hz)
      omega
  · have f3 := f2.1 (fun q => kB (a6.mem_iff.mp q))
    by_cases k : y ∈ K
    · have hcl := (mem_cl hLK.1).mp k
      rw [ixOf_in hLK.1 k] at f1
      by_cases c : M.getD (cl K y) 0 = 0
      · obtain ⟨zm', zmc', e1, e2, e3⟩ := cx_remove_row hF a3 a4 (by omega) k c
        have hm2 := RA_set b2 (show cl K y < M.length by rw [hLK.2.2.1]; exact hcl.1) 1
        rw [← J_1] at hm2
        have hbel := lbelow_J (x := 1000001) hF e2.1 b1 hm2 b4 a6 b5 b6 (by omega)
        rw [thN_top e2.1, ← L_1000001] at hbel
        refine ⟨upd vm (cl K y) 1, vl, vq, zk, zm', zb, zs, zr, zu, zt, zf, zg, J bd, J ro, zmc', zmg, zsp, zjn, Or.inl ?_, K, M.set (cl K y) 1, B, B', S, bd, ro, rfl, rfl, e2, e3, ⟨b1, hm2, b3, b4, b5, b6, b7, b8, b9, b10, b11⟩, a6, a7, RGE_up a8 (by omega), RGE_up a9 (by omega)⟩
        unfold L_seg624
        simp only [i7_0, i7_1, if_true, n7_0, n7_1, b5, b6]
        rw [bS n1, bS n2, bS f1, bS f3]
        simp only [J_m1p, J_m1n, J_pn (show cl K y < 1000 by omega), eq_false (show ¬ 64 ≤ cl K y by omega), or_false, not_false_eq_true, if_true, if_false, J_ix (show cl K y < 2147483648 by omega), b2.2 _ (show cl K y < M.length by rw [hLK.2.2.1]; exact hcl.1), c]
        rw [if_neg (by decide +kernel)]
        simp only [Option.bind_some]
        rw [bS (nz_i e1)]
        simp only []
        rw [bS hbel, if_pos rfl]
      · have hM1 : M.getD (cl K y) 0 = 1 := (hLK.2.2.2.1 _ (by rw [hLK.2.2.1]; exact hcl.1)).resolve_left c
        have t : ¬ TH K M B y := fun q => q.elim kB (fun q => c ((GM_cl hLK.1 k).mp q))
        refine ⟨vm, vl, vq, zk, zm, zb, zs, zr, zu, zt, zf, zg, J bd, J ro, zmc, zmg, zsp, zjn, Or.inr ?_, K, M, B, B', S, bd, ro, hZu⟩
        unfold L_seg624
        simp only [i7_0, i7_1, if_true, n7_0, n7_1, b5, b6]
        rw [bS n1, bS n2, bS f1, bS f3]
        simp only [J_m1p, J_m1n, J_pn (show cl K y < 1000 by omega), eq_false (show ¬ 64 ≤ cl K y by omega), or_false, not_false_eq_true, if_true, if_false, J_ix (show cl K y < 2147483648 by omega), b2.2 _ (show cl K y < M.length by rw [hLK.2.2.1]; exact hcl.1), hM1, ← J_1]
        rw [bS (lref_r (cx_remove_no hF hLK a4 (by omega) t))]
        simp only [if_true]
    · have t : ¬ TH K M B y := fun q => q.elim kB (fun q => k (GM_in q (Nat.le_refl _)))
      rw [ixOf_out hLK.1 k] at f1
      refine ⟨vm, vl, vq, zk, zm, zb, zs, zr, zu, zt, zf, zg, J bd, J ro, zmc, zmg, zsp, zjn, Or.inr ?_, K, M, B, B', S, bd, ro, hZu⟩
      unfold L_seg624
      simp only [i7_0, i7_1, if_true, n7_0, n7_1, b5, b6]
      rw [bS n1, bS n2, bS f1, bS f3]
      simp only [J_m1p, J_m1n, if_true, if_false]
      rw [bS (lref_r (cx_remove_no hF hLK a4 (by omega) t))]
      simp only [if_true]
end SE6
