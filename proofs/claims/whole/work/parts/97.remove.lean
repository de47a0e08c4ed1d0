/-! the call remove -/
section MREM
variable {F : Nat}
theorem rem_L {B : List Int} {x : Int} {i : Nat} (hs : Srt B) (hr : KR B) (hl : B.length ≤ 16) (hi : i < B.length) (hx : B.getD i 0 = x) : ∀ (d n j : Nat) (bu : Nat → Int32), d < n → j + d = B.length → (∀ t, t < (if j ≤ i then j else j - 1) → bu t = J ((B.eraseIdx i).getD t 0)) → (∀ t, j ≤ t → t < B.length → bu t = J (B.getD t 0)) → ∃ bu', X3_remove_L54 (J x) (J B.length) n (J j) (J ((if j ≤ i then j else j - 1 : Nat) : Int)) bu = some (J ((B.length - 1 : Nat) : Int), bu') ∧ ∀ t, t < B.length - 1 → bu' t = J ((B.eraseIdx i).getD t 0)
  | d, 0, j, bu, hn, _, _, _ => absurd hn (Nat.not_lt_zero d)
  | 0, n + 1, j, bu, _, hd, h1, _ => by
    have e1 : j = B.length := by omega
    subst e1
    rw [if_neg (by omega)] at h1 ⊢
    refine ⟨bu, ?_, h1⟩
    rw [X3_remove_L54, if_pos (by exact Int32.le_refl _)]
  | d + 1, n + 1, j, bu, hn, hd, h1, h2 => by
    have hrj := hr j (by omega)
    have hri := hr i hi
    rw [X3_remove_L54, if_neg (by rw [J_leN (by omega) (by omega)]; omega), if_pos (J_inN (by omega) (by omega)), J_ix (by omega), h2 j (Nat.le_refl _) (by omega)]
    by_cases c : j = i
    · subst c
      rw [if_pos (by rw [hx])]
      simp only [bnd]
      rw [J_succ]
      obtain ⟨bu', s1, s2⟩ := rem_L hs hr hl hi hx d n (j + 1) bu (by omega) (by omega) (by
        rw [if_neg (by omega)]
        rw [if_pos (Nat.le_refl _)] at h1
        exact h1) (fun t t1 t2 => h2 t (by omega) t2)
      rw [if_neg (by omega)] at s1
      rw [if_pos (Nat.le_refl _)]
      exact ⟨bu', s1, s2⟩
    · have hne : B.getD j 0 ≠ x := by
        rw [← hx]
        rcases Nat.lt_or_ge j i with q | q
        · have := hs j i q hi
          omega
        · have := hs i j (by omega) (by omega)
          omega
      rw [if_neg (by rw [J_eq (by omega) (by omega)]; exact hne)]
      obtain ⟨k, hk⟩ : ∃ k, k = (if j ≤ i then j else j - 1) := ⟨_, rfl⟩
      rw [← hk] at h1 ⊢
      have hk2 : k ≤ j ∧ k < B.length := by
        rw [hk]
        split <;> omega
      have hk3 : (if j + 1 ≤ i then j + 1 else j + 1 - 1) = k + 1 := by
        rw [hk]
        split <;> split <;> omega
      have hbk : B.getD j 0 = (B.eraseIdx i).getD k 0 := by
        rw [getD_eraseIdx, hk]
        by_cases q : j ≤ i
        · rw [if_pos q, if_pos (by omega)]
        · rw [if_neg q, if_neg (by omega), show j - 1 + 1 = j by omega]
      rw [if_pos (J_inM (by omega) (by omega)), if_pos (J_inN (by omega) (by omega)), J_ix (by omega)]
      simp only [bnd]
      rw [J_succ, J_succ]
      have ih := rem_L hs hr hl hi hx d n (j + 1) (upd bu k (J (B.getD j 0))) (by omega) (by omega) (by
        rw [hk3]
        intro t ht
        unfold upd
        by_cases q : t = k
        · rw [if_pos q, q, hbk]
        · rw [if_neg q]
          exact h1 t (by omega)) (fun t t1 t2 => by
        unfold upd
        rw [if_neg (by omega)]
        exact h2 t (by omega) t2)
      rw [hk3] at ih
      exact ih
theorem LK_less {K M B S : List Int} {bd : Int} {i : Nat} (h : LK K M B S bd) (hi : i < B.length) : LK K M (B.eraseIdx i) S bd := by
  obtain ⟨a1, a2, a3, a4, a5, a6, a7, a8, a9⟩ := h
  have hlen : (B.eraseIdx i).length = B.length - 1 := List.length_eraseIdx_of_lt hi
  refine ⟨a1, a2, a3, a4, fun p q hpq hq => ?_, fun p hp => ?_, fun p q hp hq => ?_, by omega, a9⟩
  · rw [hlen] at hq
    rw [getD_eraseIdx, getD_eraseIdx]
    split <;> split
    · exact a5 p q hpq (by omega)
    · exact a5 p (q + 1) (by omega) (by omega)
    · omega
    · exact a5 (p + 1) (q + 1) (by omega) (by omega)
  · rw [hlen] at hp
    rw [getD_eraseIdx]
    split
    · exact a6 p (by omega)
    · exact a6 (p + 1) (by omega)
  · rw [hlen] at hq
    rw [getD_eraseIdx]
    split
    · exact a7 p q hp (by omega)
    · exact a7 p (q + 1) hp (by omega)
theorem op_remove (hF : 2000 ≤ F) {K M B S : List Int} {bd ro : Int} {zk zm zb zs zr zu : zN} {zt : zT} {zmc : Int32} {yrow ymk yst ybu : Nat → Int32} {yrm ypc ybn : Int32} (yth : Int32) (h : ST K M B S bd ro) (hX : XS K M B S bd zk zm zb zs zr zu zt zmc) (hY : YS K M B S yrow ymk yrm yst ypc ybu ybn) (p : Int32) : (X2_remove F zk zm zb zmc p = some (Sum.inl 4) ∧ X3_remove F yth yrow ymk yrm ybu ybn p = some (0, 1, ymk, ybu, ybn)) ∨ (∃ v M' B' zm' zb' zmc' ymk' ybu' ybn', X2_remove F zk zm zb zmc p = some (Sum.inr (v, zm', zb', zmc')) ∧ X3_remove F yth yrow ymk yrm ybu ybn p = some (v, 0, ymk', ybu', ybn') ∧ ST K M' B' S bd ro ∧ XS K M' B' S bd zk zm' zb' zs zr zu zt zmc' ∧ YS K M' B' S yrow ymk' yrm yst ypc ybu' ybn') := by
  have hx := int_rng p
  have ep := J_of p
  generalize p.toInt = x at hx ep
  subst ep
  obtain ⟨x1, x2, x3, x4, x5⟩ := hX
  obtain ⟨y1, y2, y3, y4, y5, y6, y7⟩ := hY
  subst y5 y6 y7
  obtain ⟨hLK, b1, b2, b3⟩ := h
  have hl := y1.1
  have hbl := y4.1
  have h256 := hLK.2.2.2.2.2.2.2.1
  have hck := cl_le K x
  have hcb := cl_le B x
  have hml := hLK.2.2.1
  have ti := isThere_J (x := x) hF hLK x1 x2 x3 hx
  have tr := isThere_JR (x := x) hF hLK y1 y2 y4 hx
  have ix := indexOf_J (F := F) (x := x) hF x1 hLK.1 hx
  have ib := isBuffered_J (x := x) hF y4 hLK.2.2.2.2.2.1 hx
  by_cases t : TH K M B x
  · by_cases k : x ∈ K
    · have hB : ¬ x ∈ B := fun q => LK_disj hLK k q
      have hk := (mem_cl hLK.1).mp k
      have hM : M.getD (cl K x) 0 = 0 := (GM_cl hLK.1 k).mp (t.elim (fun q => absurd q hB) id)
      obtain ⟨zm', e1, e2⟩ := put_in (F := F) x2 (i := cl K x) (by omega) (x := 1) (by omega)
      have hcu := cU_set1 (K := K) (by omega) hM K.length
      rw [if_pos hk.1] at hcu
      have hLK' := LK_mark (i := cl K x) (v := 1) hLK (Or.inr rfl)
      have hmk := RA_set y2 (i := cl K x) (by omega) 1
      have hmc : zmc + 1 = J ((K.length : Int) - (cU K (M.set (cl K x) 1) K.length).length) := by
        rw [x5, J_1, J_add]
        congr 1
        omega
      refine Or.inr ⟨J (allN K (M.set (cl K x) 1) B), M.set (cl K x) 1, B, zm', zb, zmc + 1, upd ymk (cl K x) (J 1), ybu, _, ?_, ?_, ⟨hLK', b1, b2, b3⟩, ⟨x1, e2, x3, x4, hmc⟩, ⟨y1, hmk, y3, y4, rfl, rfl, rfl⟩⟩
      · unfold X2_remove
        rw [ti.1 t]
        simp only [Option.bind_some]
        rw [if_neg (by decide), ix, ixOf_in hLK.1 k]
        simp only [Option.bind_some]
        rw [if_neg (by rw [J_m1, J_eq (by omega) (by omega)]; omega)]
        have e1' : X0_put F 256 zm (J (cl K x)) 1 = some zm' := by rw [J_1]; exact e1
        rw [e1']
        simp only [Option.bind_some]
        rw [hmc, keysThere_J hLK' x1 x3]
        rfl
      · unfold X3_remove
        rw [tr.1 t, ib.2 hB]
        simp only [Option.bind_some, bnd, if_true]
        rw [if_neg (show ¬ (1 : Int32) = 0 by decide), if_pos (by decide), placeOf_J hF y1 hLK.1 hLK.2.1 hx]
        simp only [Option.bind_some]
        rw [if_pos (J_inN (by omega) (by omega)), J_ix (by omega), J_1, keys_JR hF hLK' y1 hmk y4]
        rfl
    · have hB : x ∈ B := t.elim id (fun q => absurd (GM_in q (Nat.le_refl _)) k)
      have hb := (mem_cl hLK.2.2.2.2.1).mp hB
      obtain ⟨zb', e1, e2⟩ := takeOut_J hF x3 hb.1
      have hLK' := LK_less hLK hb.1
      have hlen : (B.eraseIdx (cl B x)).length = B.length - 1 := List.length_eraseIdx_of_lt hb.1
      obtain ⟨bu', s1, s2⟩ := rem_L hLK.2.2.2.2.1 hLK.2.2.2.2.2.1 hbl hb.1 hb.2 B.length F 0 ybu (by omega) (by omega) (fun t ht => by rw [if_pos (Nat.zero_le _)] at ht; omega) (fun t _ t2 => y4.2 t t2)
      rw [if_pos (Nat.zero_le _), J_00, ← hlen] at s1
      have hbu : RA 16 bu' (B.eraseIdx (cl B x)) := ⟨by omega, fun t ht => s2 t (by omega)⟩
      refine Or.inr ⟨J (allN K M (B.eraseIdx (cl B x))), M, B.eraseIdx (cl B x), zm, zb', zmc, ymk, bu', _, ?_, ?_, ⟨hLK', b1, b2, by rw [hlen]; omega⟩, ⟨x1, x2, e2, x4, x5⟩, ⟨y1, y2, y3, hbu, rfl, rfl, rfl⟩⟩
      · unfold X2_remove
        rw [ti.1 t]
        simp only [Option.bind_some]
        rw [if_neg (by decide), ix, ixOf_out hLK.1 k]
        simp only [Option.bind_some]
        rw [if_pos J_m1.symm, below_J hF x3 hLK.2.2.2.2.1 hx]
        simp only [Option.bind_some]
        rw [e1]
        simp only [Option.bind_some]
        rw [x5, keysThere_J hLK' x1 e2]
        rfl
      · unfold X3_remove
        rw [tr.1 t, ib.1 hB]
        simp only [Option.bind_some, bnd]
        rw [if_neg (show ¬ (1 : Int32) = 0 by decide), if_pos (by decide), if_neg (show ¬ (1 : Int32) = 0 by decide), s1]
        simp only [Option.bind_some]
        rw [keys_JR hF hLK' y1 y2 hbu]
        rfl
  · refine Or.inl ⟨?_, ?_⟩
    · unfold X2_remove
      rw [ti.2 t]
      rfl
    · unfold X3_remove
      rw [tr.2 t]
      simp only [Option.bind_some, bnd, if_true]
      rw [if_neg (by decide)]
end MREM
