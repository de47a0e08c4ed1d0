/-! the call insert -/
section MINS
variable {F : Nat}
theorem RA_set {N : Nat} {a : Nat → Int32} {l : List Int} (h : RA N a l) {i : Nat} (hi : i < l.length) (x : Int) : RA N (upd a i (J x)) (l.set i x) := by
  refine ⟨by simpa using h.1, fun j hj => ?_⟩
  simp at hj
  rw [getD_set]
  unfold upd
  by_cases e : j = i
  · rw [if_pos e, if_pos ⟨e, hi⟩]
  · rw [if_neg e, if_neg (fun q => e q.1), h.2 j hj]
theorem cU_set0 {K M : List Int} {i : Nat} (hi : i < M.length) (h : M.getD i 0 ≠ 0) : ∀ n, (cU K (M.set i 0) n).length = (cU K M n).length + (if i < n then 1 else 0)
  | 0 => by rw [if_neg (Nat.not_lt_zero i)]; rfl
  | n + 1 => by
    have ih := cU_set0 (K := K) hi h n
    have g := getD_set M i n 0
    rw [cU, cU]
    by_cases e : n = i
    · subst e
      rw [if_pos ⟨rfl, hi⟩] at g
      rw [if_neg (Nat.lt_irrefl _)] at ih
      rw [g, if_pos rfl, if_neg h, if_pos (by omega), List.length_append, ih]
      rfl
    · rw [if_neg (fun q => e q.1)] at g
      rw [g]
      by_cases c : M.getD n 0 = 0
      · rw [if_pos c, if_pos c, List.length_append, List.length_append, ih]
        simp only [List.length_cons, List.length_nil]
        split <;> split <;> omega
      · rw [if_neg c, if_neg c, ih]
        split <;> split <;> omega
theorem cU_set1 {K M : List Int} {i : Nat} (hi : i < M.length) (h : M.getD i 0 = 0) : ∀ n, (cU K (M.set i 1) n).length + (if i < n then 1 else 0) = (cU K M n).length
  | 0 => by rw [if_neg (Nat.not_lt_zero i)]; rfl
  | n + 1 => by
    have ih := cU_set1 (K := K) hi h n
    have g := getD_set M i n 1
    rw [cU, cU]
    by_cases e : n = i
    · subst e
      rw [if_pos ⟨rfl, hi⟩] at g
      rw [if_neg (Nat.lt_irrefl _)] at ih
      rw [g, if_neg (show ¬ (1 : Int) = 0 by omega), if_pos h, if_pos (by omega), List.length_append, ← ih]
      rfl
    · rw [if_neg (fun q => e q.1)] at g
      rw [g]
      by_cases c : M.getD n 0 = 0
      · rw [if_pos c, if_pos c, List.length_append, List.length_append, ← ih]
        simp only [List.length_cons, List.length_nil]
        split <;> split <;> omega
      · rw [if_neg c, if_neg c, ← ih]
        split <;> split <;> omega
theorem LK_mark {K M B S : List Int} {bd : Int} (h : LK K M B S bd) {i : Nat} {v : Int} (hv : v = 0 ∨ v = 1) : LK K (M.set i v) B S bd := by
  obtain ⟨a1, a2, a3, a4, a5⟩ := h
  refine ⟨a1, a2, by simpa using a3, fun j hj => ?_, a5⟩
  simp at hj
  rw [getD_set]
  split
  · exact hv
  · exact a4 j hj
theorem insert_J (hF : 2000 ≤ F) {B : List Int} {x : Int} {bu : Nat → Int32} (hB : RA 16 bu B) (hs : Srt B) (hl : B.length < 16) (hr : KR B) (hx : -1000000 ≤ x ∧ x ≤ 1000000) (hn : ¬ x ∈ B) : ∃ bu', X3_insert_L82 (J x) F (J B.length) bu = some (J (cl B x), bu') ∧ RA 16 (upd bu' (cl B x) (J x)) (insAt B (cl B x) x) := by
  have hc := cl_le B x
  obtain ⟨bu', e, h1, h2⟩ := insert_L hs hr hx hn hl B.length F bu (by omega) (Nat.le_refl _) (fun j hj => hB.2 j hj) (fun j _ _ => by omega) (fun j _ _ => by omega)
  refine ⟨bu', e, by rw [insAt_len B hc]; omega, fun j hj => ?_⟩
  rw [insAt_len B hc] at hj
  rw [insAt_getD B hc]
  unfold upd
  by_cases c : j < cl B x
  · rw [if_neg (by omega), if_pos c, h1 j c]
  · rw [if_neg c]
    by_cases c2 : j = cl B x
    · rw [if_pos c2, if_pos c2]
    · rw [if_neg c2, if_neg c2, h2 j (by omega) (by omega)]
theorem LK_late {K M B S : List Int} {bd x : Int} (h : LK K M B S bd) (hx : -1000000 ≤ x ∧ x ≤ 1000000) (h1 : ¬ x ∈ K) (h2 : ¬ x ∈ B) (hl : K.length + B.length < 256) : LK K M (insAt B (cl B x) x) S bd := by
  obtain ⟨a1, a2, a3, a4, a5, a6, a7, a8, a9⟩ := h
  have hc := cl_le B x
  refine ⟨a1, a2, a3, a4, insAt_Srt a5 h2, KR_mem.mpr (fun y hy => ?_), fun i j hi hj e => ?_, by rw [insAt_len B hc]; omega, a9⟩
  · rcases (insAt_mem hc).mp hy with q | q
    · omega
    · exact KR_mem.mp a6 y q
  · have h3 := getD_mem (d := (0 : Int)) hj
    rw [← e] at h3
    rcases (insAt_mem hc).mp h3 with q | q
    · exact h1 (by rw [← q]; exact getD_mem hi)
    · obtain ⟨t, t1, t2⟩ := mem_getD.mp q
      exact a7 i t hi t1 t2.symm
theorem op_insert (hF : 2000 ≤ F) {K M B S : List Int} {bd ro : Int} {zk zm zb zs zr zu zf zg : zN} {zt : zT} {zmc mg sp jc mm : Int32} {yrow ymk yst ybu : Nat → Int32} {yrm ypc ybn : Int32} (yth : Int32) (md bg : Nat → Int32) (up un : Int64) (h : ST K M B S bd ro) (hX : XS K M B S bd zk zm zb zs zr zu zt zmc) (hY : YS K M B S yrow ymk yrm yst ypc ybu ybn) (p : Int32) : (∃ e y, ((e = 1 ∧ y = 1) ∨ (e = 2 ∧ y = 2)) ∧ X2_insert F zk zm zb zs zr zu zt zf zg (J bd) (J ro) zmc mg sp jc p = some (Sum.inl e) ∧ X3_insert F yth (J bd) (J ro) yrow ymk yrm yst ypc ybu ybn mg sp jc md bg mm up un p = some (0, y, yrow, ymk, yrm, yst, ypc, ybu, ybn, mg, sp, jc, md, bg, mm, up, un)) ∨ (∃ v K' M' B' S' mg' sp' jc' zk' zm' zb' zs' zr' zu' zt' zf' zg' zmc' yrow' ymk' yrm' yst' ypc' ybu' ybn' md' bg' mm' up' un', X2_insert F zk zm zb zs zr zu zt zf zg (J bd) (J ro) zmc mg sp jc p = some (Sum.inr (v, zk', zm', zb', zs', zr', zu', zt', zf', zg', zmc', mg', sp', jc')) ∧ X3_insert F yth (J bd) (J ro) yrow ymk yrm yst ypc ybu ybn mg sp jc md bg mm up un p = some (v, 0, yrow', ymk', yrm', yst', ypc', ybu', ybn', mg', sp', jc', md', bg', mm', up', un') ∧ ST K' M' B' S' bd ro ∧ XS K' M' B' S' bd zk' zm' zb' zs' zr' zu' zt' zmc' ∧ YS K' M' B' S' yrow' ymk' yrm' yst' ypc' ybu' ybn') := by
  have hx := int_rng p
  have ep := J_of p
  generalize p.toInt = x at hx ep
  subst ep
  have hXX := hX
  have hYY := hY
  obtain ⟨x1, x2, x3, x4, x5⟩ := hX
  obtain ⟨y1, y2, y3, y4, y5, y6, y7⟩ := hY
  subst y5 y6 y7
  obtain ⟨hLK, b1, b2, b3⟩ := h
  have hl := y1.1
  have hbl := y4.1
  have h256 := hLK.2.2.2.2.2.2.2.1
  have hck := cl_le K x
  have hcb := cl_le B x
  have ti := isThere_J (x := x) hF hLK x1 x2 x3 hx
  have tr := isThere_JR (x := x) hF hLK y1 y2 y4 hx
  have ir := isInRow_J (x := x) hF y1 hLK.1 hLK.2.1 hx
  have ix := indexOf_J (F := F) (x := x) hF x1 hLK.1 hx
  by_cases c : -1000000 ≤ x ∧ x ≤ 1000000
  · by_cases t : TH K M B x
    · -- it is there
      refine Or.inl ⟨2, 2, Or.inr ⟨rfl, rfl⟩, ?_, ?_⟩
      · unfold X2_insert
        rw [J_wide hx, (needKey_J (by omega)).1 c]
        simp only [Option.bind_some]
        rw [ix, ti.1 t]
        simp only [Option.bind_some]
        rw [if_neg (by decide)]
      · unfold X3_insert
        by_cases k : x ∈ K
        · rw [ir.1 k, (isKey_J hx).1 c, tr.1 t]
          simp only [Option.bind_some]
          rw [if_neg (by decide), if_neg (by decide)]
          simp only [Option.bind_some]
          rw [if_neg (by decide)]
        · rw [ir.2 k, (isKey_J hx).1 c, tr.1 t]
          simp only [Option.bind_some]
          rw [if_neg (by decide), if_neg (by decide)]
          simp only [Option.bind_some]
          rw [if_neg (by decide)]
    · by_cases k : x ∈ K
      · -- it is marked in the row
        have hk := (mem_cl hLK.1).mp k
        have hml := hLK.2.2.1
        have hM : M.getD (cl K x) 0 ≠ 0 := fun q => t (Or.inr ((GM_cl hLK.1 k).mpr q))
        obtain ⟨zm', e1, e2⟩ := put_in (F := F) x2 (i := cl K x) (by omega) (x := 0) (by omega)
        have hcu := cU_set0 (K := K) (by omega) hM K.length
        rw [if_pos hk.1] at hcu
        refine Or.inr ⟨J B.length, K, M.set (cl K x) 0, B, S, mg, sp, jc, zk, zm', zb, zs, zr, zu, zt, zf, zg, zmc - 1, yrow, upd ymk (cl K x) 0, _, yst, _, ybu, _, md, bg, mm, up, un, ?_, ?_, ⟨LK_mark hLK (Or.inl rfl), b1, b2, b3⟩, ⟨x1, e2, x3, x4, ?_⟩, ⟨y1, ?_, y3, y4, rfl, rfl, rfl⟩⟩
        · unfold X2_insert
          rw [J_wide hx, (needKey_J (by omega)).1 c]
          simp only [Option.bind_some]
          rw [ix, ti.2 t, ixOf_in hLK.1 k]
          simp only [Option.bind_some, bnd, if_true]
          rw [if_neg (by rw [J_m1, J_eq (by omega) (by omega)]; omega), if_neg (by rw [J_m1, J_eq (by omega) (by omega)]; omega), J_0, e1]
          simp only [Option.bind_some]
          rw [length_J x3]
          rfl
        · unfold X3_insert X3_many
          rw [ir.1 k, (isKey_J hx).1 c, tr.2 t]
          simp only [Option.bind_some, if_true]
          have e5 : (if J (K.length : Int) + J (B.length : Int) = 256 then (if (1 : Int32) = 0 then some (2 : Int32) else some 0) else some 0) = some 0 := by
            by_cases q : J (K.length : Int) + J (B.length : Int) = 256
            · rw [if_pos q, if_neg (by decide)]
            · rw [if_neg q]
          rw [if_neg (show ¬ (1 : Int32) = 0 by decide), e5]
          simp only [Option.bind_some]
          rw [if_pos (by decide), if_neg (show ¬ (1 : Int32) = 0 by decide), placeOf_J hF y1 hLK.1 hLK.2.1 hx]
          simp only [Option.bind_some]
          rw [if_pos (J_inN (by omega) (by omega)), J_ix (by omega)]
        · rw [x5, J_1, J_sub, hcu]
          congr 1
          omega
        · have := RA_set y2 (i := cl K x) (by omega) 0
          rw [← J_0] at this
          exact this
      · -- it comes late
        have hB : ¬ x ∈ B := fun q => t (Or.inl q)
        by_cases f : K.length + B.length = 256
        · refine Or.inl ⟨2, 2, Or.inr ⟨rfl, rfl⟩, ?_, ?_⟩
          · unfold X2_insert X2_allKeys
            rw [J_wide hx, (needKey_J (by omega)).1 c]
            simp only [Option.bind_some]
            rw [ix, ti.2 t, ixOf_out hLK.1 k]
            simp only [Option.bind_some, bnd, if_true]
            rw [if_pos J_m1.symm, length_J x1, length_J x3]
            simp only [Option.bind_some]
            rw [if_neg (by rw [J_add, J_256, J_lt (by omega) (by omega)]; omega)]
          · unfold X3_insert X3_many
            rw [ir.2 k, (isKey_J hx).1 c, tr.2 t]
            simp only [Option.bind_some, if_true]
            rw [if_neg (by decide), if_pos (by rw [J_add, J_256, J_eq (by omega) (by omega)]; omega)]
            simp only [Option.bind_some]
            rw [if_neg (by decide)]
        · have hlate := LK_late hLK c k hB (by omega)
          have hlen := insAt_len B hcb x
          obtain ⟨zb', e1, e2⟩ := squeeze_J hF x3 (by omega) hcb (x := x) (by omega)
          obtain ⟨bu', e3, e4⟩ := insert_J hF y4 hLK.2.2.2.2.1 (by omega) hLK.2.2.2.2.2.1 c hB
          have hX2 : XS K M (insAt B (cl B x) x) S bd zk zm zb' zs zr zu zt zmc := ⟨x1, x2, e2, x4, x5⟩
          have hY2 : YS K M (insAt B (cl B x) x) S yrow ymk (J K.length) yst (J S.length) (upd bu' (cl B x) (J x)) (J (insAt B (cl B x) x).length) := ⟨y1, y2, y3, e4, rfl, rfl, rfl⟩
          have clsA : X2_insert F zk zm zb zs zr zu zt zf zg (J bd) (J ro) zmc mg sp jc (J x) = Option.bind (X2_addLate F zk zm zb zs zr zu zt zf zg (J bd) (J ro) zmc mg sp jc (J x)) fun w => Option.bind (X0_length F w.2.2.1) fun r83 => some (Sum.inr (r83, w.1, w.2.1, w.2.2.1, w.2.2.2.1, w.2.2.2.2.1, w.2.2.2.2.2.1, w.2.2.2.2.2.2.1, w.2.2.2.2.2.2.2.1, w.2.2.2.2.2.2.2.2.1, w.2.2.2.2.2.2.2.2.2.1, w.2.2.2.2.2.2.2.2.2.2.1, w.2.2.2.2.2.2.2.2.2.2.2.1, w.2.2.2.2.2.2.2.2.2.2.2.2)) := by
            unfold X2_insert X2_allKeys
            rw [J_wide hx, (needKey_J (by omega)).1 c]
            simp only [Option.bind_some]
            rw [ix, ti.2 t, ixOf_out hLK.1 k]
            simp only [Option.bind_some, bnd, if_true]
            rw [if_pos J_m1.symm, if_pos J_m1.symm, length_J x1, length_J x3]
            simp only [Option.bind_some]
            rw [if_pos (by rw [J_add, J_256, J_lt (by omega) (by omega)]; omega)]
            cases X2_addLate F zk zm zb zs zr zu zt zf zg (J bd) (J ro) zmc mg sp jc (J x) <;> rfl
          have refA : X3_insert F yth (J bd) (J ro) yrow ymk (J K.length) yst (J S.length) ybu (J B.length) mg sp jc md bg mm up un (J x) = (if J ((B.length + 1 : Nat) : Int) = J ro then Option.bind (X3_mergesAll F (J bd) yrow ymk (J K.length) yst (J S.length) (upd bu' (cl B x) (J x)) (J ((B.length + 1 : Nat) : Int)) mg sp jc md bg mm up un) fun w => some (w.2.2.2.2.2.1, 0, w.1, w.2.1, w.2.2.1, w.2.2.2.1, w.2.2.2.2.1, upd bu' (cl B x) (J x), w.2.2.2.2.2.1, w.2.2.2.2.2.2.1, w.2.2.2.2.2.2.2.1, w.2.2.2.2.2.2.2.2.1, w.2.2.2.2.2.2.2.2.2.1, w.2.2.2.2.2.2.2.2.2.2.1, w.2.2.2.2.2.2.2.2.2.2.2.1, w.2.2.2.2.2.2.2.2.2.2.2.2.1, w.2.2.2.2.2.2.2.2.2.2.2.2.2) else some (J ((B.length + 1 : Nat) : Int), 0, yrow, ymk, J K.length, yst, J S.length, upd bu' (cl B x) (J x), J ((B.length + 1 : Nat) : Int), mg, sp, jc, md, bg, mm, up, un)) := by
            unfold X3_insert X3_many
            rw [ir.2 k, (isKey_J hx).1 c, tr.2 t]
            simp only [Option.bind_some, if_true]
            rw [if_neg (by decide), if_neg (by rw [J_add, J_256, J_eq (by omega) (by omega)]; omega)]
            simp only [Option.bind_some]
            rw [if_pos (by decide), e3]
            simp only [Option.bind_some]
            rw [if_pos (J_inN (by omega) (by omega)), J_ix (by omega), J_succ]
          by_cases g : ((B.length + 1 : Nat) : Int) = ro
          · obtain ⟨K', M', S', sp', jc', zk', zm', zb2, zs', zr', zu', zt', zf', zg', zmc', yrow', ymk', yrm', yst', ypc', ybn', md', bg', mm', up', un', q1, q2, q3, q4, q5, q6, q7⟩ := op_merge (ro := ro) (zf := zf) (zg := zg) (mg := mg) (sp := sp) (jc := jc) (ymm := mm) hF yth md bg up un hlate hX2 hY2
            rw [hlen] at q2
            refine Or.inr ⟨0, K', M', [], S', mg + 1, sp', jc', zk', zm', zb2, zs', zr', zu', zt', zf', zg', zmc', yrow', ymk', yrm', yst', ypc', _, ybn', md', bg', mm', up', un', ?_, ?_, q5 ⟨b1, b2⟩, q6, q7⟩
            · rw [clsA]
              unfold X2_addLate
              rw [below_J hF x3 hLK.2.2.2.2.1 hx]
              simp only [Option.bind_some]
              rw [e1]
              simp only [Option.bind_some]
              rw [length_J e2, hlen]
              simp only [Option.bind_some]
              rw [if_neg (by rw [J_lt (by omega) (by omega)]; omega), q1]
              simp only [Option.bind_some]
              rw [length_J q6.2.2.1]
              simp only [Option.bind_some, List.length_nil]
              rw [J_00]
            · rw [refA, if_pos (by rw [g]), q2]
              simp only [Option.bind_some]
              rw [q4]
          · refine Or.inr ⟨J ((B.length + 1 : Nat) : Int), K, M, insAt B (cl B x) x, S, mg, sp, jc, zk, zm, zb', zs, zr, zu, zt, zf, zg, zmc, yrow, ymk, _, yst, _, _, _, md, bg, mm, up, un, ?_, ?_, ⟨hlate, b1, b2, by rw [hlen]; omega⟩, hX2, hY2⟩
            · rw [clsA]
              unfold X2_addLate
              rw [below_J hF x3 hLK.2.2.2.2.1 hx]
              simp only [Option.bind_some]
              rw [e1]
              simp only [Option.bind_some]
              rw [length_J e2, hlen]
              simp only [Option.bind_some]
              rw [if_pos (by rw [J_lt (by omega) (by omega)]; omega)]
              simp only [Option.bind_some]
              rw [length_J e2, hlen]
              rfl
            · rw [refA, if_neg (by rw [J_eq (by omega) (by omega)]; exact g), hlen]
  · refine Or.inl ⟨1, 1, Or.inl ⟨rfl, rfl⟩, ?_, ?_⟩
    · unfold X2_insert
      rw [J_wide hx, (needKey_J (by omega)).2 c]
      rfl
    · unfold X3_insert
      by_cases k : x ∈ K
      · rw [ir.1 k, (isKey_J hx).2 c]
        simp only [Option.bind_some, if_true]
        rw [if_neg (by decide)]
      · rw [ir.2 k, (isKey_J hx).2 c]
        simp only [Option.bind_some, if_true]
        rw [if_neg (by decide)]
end MINS
