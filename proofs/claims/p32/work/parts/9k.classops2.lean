/-! the class's calls that change it: insert, remove, rebuild -/
section LCP
variable {F : Nat}
theorem cx_insert_no2 (hF : 2000 ≤ F) {K M B S : List Int} {bd : Int} {zk zm zb zs zr zu zf zg : zN} {zt : zT} {zmc zbd zro mg sp jc : Int32} {x : Int} (h : LK K M B S bd) (hX : XS K M B S bd zk zm zb zs zr zu zt zmc) (c : -1000000 ≤ x ∧ x ≤ 1000000) (t : TH K M B x) : X2_insert F zk zm zb zs zr zu zt zf zg zbd zro zmc mg sp jc (J x) = some (Sum.inl 2) := by
  obtain ⟨x1, x2, x3, x4, x5⟩ := hX
  have ti := isThere_J (x := x) hF h x1 x2 x3 (by omega)
  have ix := indexOf_J (F := F) (x := x) hF x1 h.1 (by omega)
  unfold X2_insert
  rw [J_wide (by omega), (needKey_J (by omega)).1 c]
  simp only [Option.bind_some]
  rw [ix, ti.1 t]
  simp only [Option.bind_some]
  rw [if_neg (by decide)]
theorem cx_insert_mark (hF : 2000 ≤ F) {K M B S : List Int} {bd ro : Int} {zk zm zb zs zr zu zf zg : zN} {zt : zT} {zmc zbd zro mg sp jc : Int32} {x : Int} (h : ST K M B S bd ro) (hX : XS K M B S bd zk zm zb zs zr zu zt zmc) (c : -1000000 ≤ x ∧ x ≤ 1000000) (t : ¬ TH K M B x) (k : x ∈ K) : ∃ zm', X2_insert F zk zm zb zs zr zu zt zf zg zbd zro zmc mg sp jc (J x) = some (Sum.inr (J B.length, zk, zm', zb, zs, zr, zu, zt, zf, zg, zmc - 1, mg, sp, jc)) ∧ ST K (M.set (cl K x) 0) B S bd ro ∧ XS K (M.set (cl K x) 0) B S bd zk zm' zb zs zr zu zt (zmc - 1) := by
  obtain ⟨x1, x2, x3, x4, x5⟩ := hX
  obtain ⟨hLK, b1, b2, b3⟩ := h
  have hl := x1.len
  have hck := cl_le K x
  have ti := isThere_J (x := x) hF hLK x1 x2 x3 (by omega)
  have ix := indexOf_J (F := F) (x := x) hF x1 hLK.1 (by omega)
  have hk := (mem_cl hLK.1).mp k
  have hml := hLK.2.2.1
  have hM : M.getD (cl K x) 0 ≠ 0 := fun q => t (Or.inr ((GM_cl hLK.1 k).mpr q))
  obtain ⟨zm', e1, e2⟩ := put_in (F := F) x2 (i := cl K x) (by omega) (x := 0) (by omega)
  have hcu := cU_set0 (K := K) (by omega) hM K.length
  rw [if_pos hk.1] at hcu
  refine ⟨zm', ?_, ⟨LK_mark hLK (Or.inl rfl), b1, b2, b3⟩, ⟨x1, e2, x3, x4, ?_⟩⟩
  · unfold X2_insert
    rw [J_wide (by omega), (needKey_J (by omega)).1 c]
    simp only [Option.bind_some]
    rw [ix, ti.2 t, ixOf_in hLK.1 k]
    simp only [Option.bind_some, bnd, if_true]
    rw [if_neg (by rw [J_m1, J_eq (by omega) (by omega)]; omega), if_neg (by rw [J_m1, J_eq (by omega) (by omega)]; omega), J_0, e1]
    simp only [Option.bind_some]
    rw [length_J x3]
    rfl
  · rw [x5, J_1, J_sub, hcu]
    congr 1
    omega
/-- a late key: the buffer has it then, and is full or not -/
theorem cx_insert_late (hF : 2000 ≤ F) {K M B S : List Int} {bd ro : Int} {zk zm zb zs zr zu zf zg : zN} {zt : zT} {zmc mg sp jc : Int32} {x : Int} (h : ST K M B S bd ro) (hX : XS K M B S bd zk zm zb zs zr zu zt zmc) (c : -1000000 ≤ x ∧ x ≤ 1000000) (k : ¬ x ∈ K) (hB : ¬ x ∈ B) (hl2 : K.length + B.length < 256) : ∃ zb', XS K M (insAt B (cl B x) x) S bd zk zm zb' zs zr zu zt zmc ∧ LK K M (insAt B (cl B x) x) S bd ∧ (((B.length + 1 : Nat) : Int) ≠ ro → X2_insert F zk zm zb zs zr zu zt zf zg (J bd) (J ro) zmc mg sp jc (J x) = some (Sum.inr (J (B.length + 1 : Nat), zk, zm, zb', zs, zr, zu, zt, zf, zg, zmc, mg, sp, jc))) ∧ (((B.length + 1 : Nat) : Int) = ro → ∀ zk2 zm2 zb2 zs2 zr2 zu2 zt2 zf2 zg2 zmc2 mg2 sp2 jc2, X2_mergeAll F zk zm zb' zs zr zu zt zf zg (J bd) zmc mg sp jc = some (zk2, zm2, zb2, zs2, zr2, zu2, zt2, zf2, zg2, zmc2, mg2, sp2, jc2) → RN 16 zb2 [] → X2_insert F zk zm zb zs zr zu zt zf zg (J bd) (J ro) zmc mg sp jc (J x) = some (Sum.inr (0, zk2, zm2, zb2, zs2, zr2, zu2, zt2, zf2, zg2, zmc2, mg2, sp2, jc2))) := by
  obtain ⟨x1, x2, x3, x4, x5⟩ := hX
  obtain ⟨hLK, b1, b2, b3⟩ := h
  have hl := x1.len
  have hbl := x3.1
  have hcb := cl_le B x
  have t : ¬ TH K M B x := fun q => q.elim hB (fun q => k (GM_in q (Nat.le_refl _)))
  have ti := isThere_J (x := x) hF hLK x1 x2 x3 (by omega)
  have ix := indexOf_J (F := F) (x := x) hF x1 hLK.1 (by omega)
  have hlate := LK_late hLK c k hB (by omega)
  have hlen := insAt_len B hcb x
  obtain ⟨zb', e1, e2⟩ := squeeze_J hF x3 (by omega) hcb (x := x) (by omega)
  have clsA : X2_insert F zk zm zb zs zr zu zt zf zg (J bd) (J ro) zmc mg sp jc (J x) = Option.bind (X2_addLate F zk zm zb zs zr zu zt zf zg (J bd) (J ro) zmc mg sp jc (J x)) fun w => Option.bind (X0_length F w.2.2.1) fun r83 => some (Sum.inr (r83, w.1, w.2.1, w.2.2.1, w.2.2.2.1, w.2.2.2.2.1, w.2.2.2.2.2.1, w.2.2.2.2.2.2.1, w.2.2.2.2.2.2.2.1, w.2.2.2.2.2.2.2.2.1, w.2.2.2.2.2.2.2.2.2.1, w.2.2.2.2.2.2.2.2.2.2.1, w.2.2.2.2.2.2.2.2.2.2.2.1, w.2.2.2.2.2.2.2.2.2.2.2.2)) := by
    unfold X2_insert X2_allKeys
    rw [J_wide (by omega), (needKey_J (by omega)).1 c]
    simp only [Option.bind_some]
    rw [ix, ti.2 t, ixOf_out hLK.1 k]
    simp only [Option.bind_some, bnd, if_true]
    rw [if_pos J_m1.symm, if_pos J_m1.symm, length_J x1, length_J x3]
    simp only [Option.bind_some]
    rw [if_pos (by rw [J_add, J_256, J_lt (by omega) (by omega)]; omega)]
    cases X2_addLate F zk zm zb zs zr zu zt zf zg (J bd) (J ro) zmc mg sp jc (J x) <;> rfl
  refine ⟨zb', ⟨x1, x2, e2, x4, x5⟩, hlate, fun g => ?_, fun g zk2 zm2 zb2 zs2 zr2 zu2 zt2 zf2 zg2 zmc2 mg2 sp2 jc2 hm hz => ?_⟩
  · rw [clsA]
    unfold X2_addLate
    rw [below_J hF x3 hLK.2.2.2.2.1 (by omega)]
    simp only [Option.bind_some]
    rw [e1]
    simp only [Option.bind_some]
    rw [length_J e2, hlen]
    simp only [Option.bind_some]
    rw [if_pos (by rw [J_lt (by omega) (by omega)]; omega)]
    simp only [Option.bind_some]
    rw [length_J e2, hlen]
    rfl
  · rw [clsA]
    unfold X2_addLate
    rw [below_J hF x3 hLK.2.2.2.2.1 (by omega)]
    simp only [Option.bind_some]
    rw [e1]
    simp only [Option.bind_some]
    rw [length_J e2, hlen]
    simp only [Option.bind_some]
    rw [if_neg (by rw [J_lt (by omega) (by omega)]; omega), hm]
    simp only [Option.bind_some]
    rw [length_J hz]
    simp only [Option.bind_some, List.length_nil]
    rw [J_00]
theorem cx_remove_no (hF : 2000 ≤ F) {K M B S : List Int} {bd : Int} {zk zm zb zs zr zu : zN} {zt : zT} {zmc : Int32} {x : Int} (h : LK K M B S bd) (hX : XS K M B S bd zk zm zb zs zr zu zt zmc) (hx : -2147483648 ≤ x ∧ x < 2147483648) (t : ¬ TH K M B x) : X2_remove F zk zm zb zmc (J x) = some (Sum.inl 4) := by
  have ti := isThere_J (x := x) hF h hX.1 hX.2.1 hX.2.2.1 hx
  unfold X2_remove
  rw [ti.2 t]
  rfl
theorem cx_remove_row (hF : 2000 ≤ F) {K M B S : List Int} {bd ro : Int} {zk zm zb zs zr zu : zN} {zt : zT} {zmc : Int32} {x : Int} (h : ST K M B S bd ro) (hX : XS K M B S bd zk zm zb zs zr zu zt zmc) (hx : -2147483648 ≤ x ∧ x < 2147483648) (k : x ∈ K) (hM : M.getD (cl K x) 0 = 0) : ∃ zm' zmc', X2_remove F zk zm zb zmc (J x) = some (Sum.inr (J (allN K (M.set (cl K x) 1) B), zm', zb, zmc')) ∧ ST K (M.set (cl K x) 1) B S bd ro ∧ XS K (M.set (cl K x) 1) B S bd zk zm' zb zs zr zu zt zmc' := by
  obtain ⟨x1, x2, x3, x4, x5⟩ := hX
  obtain ⟨hLK, b1, b2, b3⟩ := h
  have hl := x1.len
  have hck := cl_le K x
  have hml := hLK.2.2.1
  have ti := isThere_J (x := x) hF hLK x1 x2 x3 hx
  have ix := indexOf_J (F := F) (x := x) hF x1 hLK.1 hx
  have hk := (mem_cl hLK.1).mp k
  have t : TH K M B x := Or.inr ((GM_cl hLK.1 k).mpr hM)
  obtain ⟨zm', e1, e2⟩ := put_in (F := F) x2 (i := cl K x) (by omega) (x := 1) (by omega)
  have hcu := cU_set1 (K := K) (by omega) hM K.length
  rw [if_pos hk.1] at hcu
  have hLK' := LK_mark (i := cl K x) (v := 1) hLK (Or.inr rfl)
  have hmc : zmc + 1 = J ((K.length : Int) - (cU K (M.set (cl K x) 1) K.length).length) := by
    rw [x5, J_1, J_add]
    congr 1
    omega
  refine ⟨zm', zmc + 1, ?_, ⟨hLK', b1, b2, b3⟩, ⟨x1, e2, x3, x4, hmc⟩⟩
  unfold X2_remove
  rw [ti.1 t]
  simp only [Option.bind_some]
  rw [if_neg (by decide), ix, ixOf_in hLK.1 k]
  simp only [Option.bind_some]
  rw [if_neg (by rw [J_m1, J_eq (by omega) (by omega)]; omega)]
  have e1' : X0_put F 256 zm (J (cl K x)) 1 = some zm' := by rw [J_1]; exact e1
  rw [e1']
  simp only [Option.bind_some]
  rw [hmc, keysThere_J hLK' x1 x3]
  rfl
theorem cx_remove_late (hF : 2000 ≤ F) {K M B S : List Int} {bd ro : Int} {zk zm zb zs zr zu : zN} {zt : zT} {zmc : Int32} {x : Int} (h : ST K M B S bd ro) (hX : XS K M B S bd zk zm zb zs zr zu zt zmc) (hx : -2147483648 ≤ x ∧ x < 2147483648) (hB : x ∈ B) : ∃ zb', X2_remove F zk zm zb zmc (J x) = some (Sum.inr (J (allN K M (B.eraseIdx (cl B x))), zm, zb', zmc)) ∧ ST K M (B.eraseIdx (cl B x)) S bd ro ∧ XS K M (B.eraseIdx (cl B x)) S bd zk zm zb' zs zr zu zt zmc := by
  obtain ⟨x1, x2, x3, x4, x5⟩ := hX
  obtain ⟨hLK, b1, b2, b3⟩ := h
  have k : ¬ x ∈ K := fun q => LK_disj hLK q hB
  have ti := isThere_J (x := x) hF hLK x1 x2 x3 hx
  have ix := indexOf_J (F := F) (x := x) hF x1 hLK.1 hx
  have hb := (mem_cl hLK.2.2.2.2.1).mp hB
  have t : TH K M B x := Or.inl hB
  obtain ⟨zb', e1, e2⟩ := takeOut_J hF x3 hb.1
  have hLK' := LK_less hLK hb.1
  have hlen : (B.eraseIdx (cl B x)).length = B.length - 1 := List.length_eraseIdx_of_lt hb.1
  refine ⟨zb', ?_, ⟨hLK', b1, b2, by rw [hlen]; omega⟩, ⟨x1, x2, e2, x4, x5⟩⟩
  unfold X2_remove
  rw [ti.1 t]
  simp only [Option.bind_some]
  rw [if_neg (by decide), ix, ixOf_out hLK.1 k]
  simp only [Option.bind_some]
  rw [if_pos J_m1.symm, below_J hF x3 hLK.2.2.2.2.1 hx]
  simp only [Option.bind_some]
  rw [e1]
  simp only [Option.bind_some]
  rw [x5, keysThere_J hLK' x1 e2]
  rfl
theorem cx_rebuild_no {zk zm zb zs zr zu zf : zN} {zt : zT} {zmc zbd zro : Int32} {b r : Int} (hx : -2147483648 ≤ b ∧ b < 2147483648) (hz : -2147483648 ≤ r ∧ r < 2147483648) (R : ¬ ((0 ≤ b ∧ b ≤ 20) ∧ 1 ≤ r ∧ r ≤ 16)) : X2_rebuild F zk zm zb zs zr zu zt zf zbd zro zmc (J b) (J r) = some (Sum.inl 1) := by
  have c1 : J b < 0 ↔ b < 0 := by rw [J_0, J_lt (by omega) (by omega)]
  have c2 : 20 < J b ↔ 20 < b := by rw [J_20, J_lt (by omega) (by omega)]
  have c3 : J r < 1 ↔ r < 1 := by rw [J_1, J_lt (by omega) (by omega)]
  have c4 : J r ≤ 16 ↔ r ≤ 16 := by rw [J_16, J_le (by omega) (by omega)]
  unfold X2_rebuild
  by_cases d1 : b < 0
  · rw [if_pos (c1.mpr d1)]
  · rw [if_neg (fun q => d1 (c1.mp q))]
    by_cases d2 : 20 < b
    · rw [if_pos (c2.mpr d2)]
    · rw [if_neg (fun q => d2 (c2.mp q))]
      by_cases d3 : r < 1
      · rw [if_pos (c3.mpr d3)]
      · rw [if_neg (fun q => d3 (c3.mp q)), if_neg (fun q => by have := c4.mp q; omega)]
theorem cx_rebuild (hF : 2000 ≤ F) {K M B S T : List Int} {bd : Int} {zk zm zb zs zr zu : zN} {zt : zT} {zmc zbd zro : Int32} {b r : Int} (zf : zN) (hLK : LK K M B S bd) (hX : XS K M B S bd zk zm zb zs zr zu zt zmc) (R : (0 ≤ b ∧ b ≤ 20) ∧ 1 ≤ r ∧ r ≤ 16) (hT : Srt T) (hTm : ∀ x, x ∈ T ↔ GM K M 0 K.length x ∨ BM B 0 B.length x) : ∃ zk' zm' zb' zs' zr' zu' zt' zf', X2_rebuild F zk zm zb zs zr zu zt zf zbd zro zmc (J b) (J r) = some (Sum.inr (J (cutF b T 0 [] 0 T.length).length, zk', zm', zb', zs', zr', zu', zt', zf', J b, J r, 0)) ∧ ST T (List.replicate T.length 0) [] (cutF b T 0 [] 0 T.length) b r ∧ XS T (List.replicate T.length 0) [] (cutF b T 0 [] 0 T.length) b zk' zm' zb' zs' zr' zu' zt' 0 := by
  obtain ⟨x1, x2, x3, x4, x5⟩ := hX
  have c1 : J b < 0 ↔ b < 0 := by rw [J_0, J_lt (by omega) (by omega)]
  have c2 : 20 < J b ↔ 20 < b := by rw [J_20, J_lt (by omega) (by omega)]
  have c3 : J r < 1 ↔ r < 1 := by rw [J_1, J_lt (by omega) (by omega)]
  have c4 : J r ≤ 16 ↔ r ≤ 16 := by rw [J_16, J_le (by omega) (by omega)]
  obtain ⟨zf', T2, t1, t2, t3, t4⟩ := gatherAll_J hF zf hLK x1 x2 x3
  have hTT : T2 = T := Srt_ext t3 hT (fun x => by rw [t4, hTm])
  subst hTT
  have hTl := t2.len
  have hTr : KR T2 := KR_mem.mpr (fun x hx => by
    rcases (t4 x).mp hx with ⟨j, q1, q2, q3, q4⟩ | ⟨j, q1, q2, q3⟩
    · rw [← q3]
      exact hLK.2.1 j q2
    · rw [← q3]
      exact hLK.2.2.2.2.2.1 j q2)
  have n1 := RN_nil (N := 256) (Nat.le_refl _) zs.1
  have n2 := RN_nil (N := 256) (Nat.le_refl _) zr.1
  have n3 := RN_nil (N := 256) (Nat.le_refl _) zu.1
  have n4 := RN_nil (N := 256) (Nat.le_refl _) zk.1
  have n5 := RN_nil (N := 256) (Nat.le_refl _) zm.1
  have n6 := RN_nil (N := 16) (by omega) zb.1
  obtain ⟨zk', zm', zs', zr', zu', zt', e1, e2, e3, e4⟩ := reb51_L hF R.1 t2 t3 hTr T2 F [] [] (zk.1, 0) (zm.1, 0) (zs.1, 0) (zr.1, 0) (zu.1, 0) zt (by omega) rfl n4 n5 (PI_nil zt n1 n2 n3)
  have e1' : X2_rebuild_L51 (J b) F zf' F 0 (zk.1, 0) (zm.1, 0) (zs.1, 0) (zr.1, 0) (zu.1, 0) zt = some (zk', zm', zs', zr', zu', zt') := by
    have := e1
    rw [show (([] : List Int).length : Int) = ((0 : Nat) : Int) from rfl, J_00] at this
    exact this
  refine ⟨zk', zm', (zb.1, 0), zs', zr', zu', zt', zf', ?_, ⟨LK_new t3 hTr hTl e4.2.1 e4.2.2.1 R.1, R.2.1, R.2.2, by simp; omega⟩, ⟨e2, e3, n6, e4, ?_⟩⟩
  · unfold X2_rebuild X2_clearRow X2_clearPieces X0_clear
    rw [if_neg (fun q => by have := c1.mp q; omega), if_neg (fun q => by have := c2.mp q; omega), if_neg (fun q => by have := c3.mp q; omega), if_pos (c4.mpr R.2.2), t1]
    simp only [Option.bind_some]
    rw [e1']
    simp only [Option.bind_some]
    rw [length_J e4.1]
    rfl
  · rw [cU_rep, show (T2.length : Int) - (T2.length : Int) = 0 by omega]
    exact J_0
end LCP
