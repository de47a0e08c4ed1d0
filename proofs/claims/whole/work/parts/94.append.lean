/-! the calls append, appendMany and merge -/
section MAP2
variable {F : Nat}
theorem op_append (hF : 2000 ≤ F) {K M B S : List Int} {bd ro : Int} {zk zm zb zs zr zu : zN} {zt : zT} {zmc : Int32} {yrow ymk yst ybu : Nat → Int32} {yrm ypc ybn : Int32} (yth : Int32) (up un : Int64) (h : ST K M B S bd ro) (hX : XS K M B S bd zk zm zb zs zr zu zt zmc) (hY : YS K M B S yrow ymk yrm yst ypc ybu ybn) (p : Int32) : (∃ e y, ((e = 1 ∧ y = 1) ∨ (e = 2 ∧ y = 2)) ∧ X2_append F zk zm zb zs zr zu zt (J bd) p = some (Sum.inl e) ∧ X3_append F yth (J bd) yrow ymk yrm yst ypc ybu ybn up un p = some (ypc, y, yrow, ymk, yrm, yst, ypc, up, un)) ∨ (∃ v K' M' S' zk' zm' zs' zr' zu' zt' yrow' ymk' yrm' yst' ypc' up' un', X2_append F zk zm zb zs zr zu zt (J bd) p = some (Sum.inr (v, zk', zm', zs', zr', zu', zt')) ∧ X3_append F yth (J bd) yrow ymk yrm yst ypc ybu ybn up un p = some (v, 0, yrow', ymk', yrm', yst', ypc', up', un') ∧ ST K' M' B S' bd ro ∧ XS K' M' B S' bd zk' zm' zb zs' zr' zu' zt' zmc ∧ YS K' M' B S' yrow' ymk' yrm' yst' ypc' ybu ybn) := by
  have hx := int_rng p
  have ep := J_of p
  generalize p.toInt = x at hx ep
  subst ep
  have hYY := hY
  obtain ⟨y1, y2, y3, y4, y5, y6, y7⟩ := hY
  have hl := y1.1
  have hbl := y4.1
  have hLK := h.1
  have h256 := hLK.2.2.2.2.2.2.2.1
  unfold X2_append X3_append
  rw [J_wide hx]
  by_cases c : -1000000 ≤ x ∧ x ≤ 1000000
  · rw [(needKey_J (by omega)).1 c, (isKey_J hx).1 c]
    simp only [Option.bind_some]
    rw [if_neg (by decide), J_1]
    have nf := needToFollow_J (x := x) (m := 1) hF hLK hX.1 hX.2.2.1 hx (by omega)
    have ia := isAbove_J (F := F) (x := x) hLK y1 y4 hx
    unfold X3_many
    simp only [Option.bind_some]
    by_cases d : K.length + B.length = 256
    · rw [nf.2 (fun q => by have := q.2.2; omega)]
      refine Or.inl ⟨2, 2, Or.inr ⟨rfl, rfl⟩, rfl, ?_⟩
      rw [if_pos (by rw [y5, y7, J_add, J_256]; congr 1; omega)]
      simp only [Option.bind_some]
      rw [if_neg (by decide)]
    · have e1 : ¬ yrm + ybn = 256 := by
        rw [y5, y7, J_add, J_256, J_eq (by omega) (by omega)]
        omega
      rw [if_neg e1, y5, y7]
      by_cases d2 : (∀ y, y ∈ K → y < x) ∧ (∀ y, y ∈ B → y < x)
      · rw [nf.1 ⟨d2.1, d2.2, by omega⟩, ia.1 d2]
        simp only [Option.bind_some]
        rw [if_neg (by decide)]
        simp only [Option.bind_some, if_true]
        obtain ⟨S', zk', zm', zs', zr', zu', zt', yrow', ymk', yrm', yst', ypc', up', un', e2, e3, e4, e5, e6⟩ := append1 hF up un h hX hYY c d2.1 d2.2 (by omega)
        rw [e2, ← y5, e3]
        simp only [Option.bind_some]
        rw [length_J e5.2.2.2.1.1]
        refine Or.inr ⟨J S'.length, K ++ [x], M ++ [0], S', zk', zm', zs', zr', zu', zt', yrow', ymk', yrm', yst', ypc', up', un', rfl, ?_, e4, e5, by rw [← y7]; exact e6⟩
        rw [e6.2.2.2.2.2.1]
      · rw [nf.2 (fun q => d2 ⟨q.1, q.2.1⟩), ia.2 d2]
        simp only [Option.bind_some, if_true]
        refine Or.inl ⟨2, 2, Or.inr ⟨rfl, rfl⟩, by first | rfl | trivial, ?_⟩
        rw [if_neg (by decide)]
  · rw [(needKey_J (by omega)).2 c, (isKey_J hx).2 c]
    simp only [Option.bind_some, if_true]
    refine Or.inl ⟨1, 1, Or.inl ⟨rfl, rfl⟩, by first | rfl | trivial, ?_⟩
    rw [if_neg (by decide)]
theorem many_LL (hF : 2000 ≤ F) {B : List Int} {bd ro x s : Int} {m : Nat} {zb : zN} {zmc : Int32} {ybu : Nat → Int32} {ybn : Int32} (hx : -1000000 ≤ x) (hs : 1 ≤ s ∧ s ≤ 10000) (hm : m ≤ 100) (hlast : ∀ i : Nat, i < m → x + s * i ≤ 1000000) (hB : ∀ y, y ∈ B → y < x) : ∀ (d n n' i : Nat) (K M S : List Int) (zk zm zs zr zu : zN) (zt : zT) (yrow ymk yst : Nat → Int32) (yrm ypc : Int32) (up un : Int64), d < n → d < n' → i + d = m → ST K M B S bd ro → XS K M B S bd zk zm zb zs zr zu zt zmc → YS K M B S yrow ymk yrm yst ypc ybu ybn → (∀ y, y ∈ K → y < x + s * i) → K.length + B.length + d ≤ 256 → ∃ K' M' S' zk' zm' zs' zr' zu' zt' yrow' ymk' yrm' yst' ypc' up' un', X2_appendMany_L64 (J x) (J s) (J m) (J bd) F n (J i) zk zm zs zr zu zt = some (zk', zm', zs', zr', zu', zt') ∧ X3_appendMany_L91 (J x) (J s) (J m) (J bd) F 0 n' (J i) yrow ymk yrm yst ypc up un = some (yrow', ymk', yrm', yst', ypc', up', un') ∧ ST K' M' B S' bd ro ∧ XS K' M' B S' bd zk' zm' zb zs' zr' zu' zt' zmc ∧ YS K' M' B S' yrow' ymk' yrm' yst' ypc' ybu ybn
  | d, 0, n', i, K, M, S, zk, zm, zs, zr, zu, zt, yrow, ymk, yst, yrm, ypc, up, un, hn, _, _, _, _, _, _, _ => absurd hn (Nat.not_lt_zero d)
  | d, n, 0, i, K, M, S, zk, zm, zs, zr, zu, zt, yrow, ymk, yst, yrm, ypc, up, un, _, hn, _, _, _, _, _, _ => absurd hn (Nat.not_lt_zero d)
  | 0, n + 1, n' + 1, i, K, M, S, zk, zm, zs, zr, zu, zt, yrow, ymk, yst, yrm, ypc, up, un, _, _, hd, h, hX, hY, _, _ => by
    have e1 : i = m := by omega
    refine ⟨K, M, S, zk, zm, zs, zr, zu, zt, yrow, ymk, yrm, yst, ypc, up, un, ?_, ?_, h, hX, hY⟩
    · rw [e1, X2_appendMany_L64, if_pos (by exact Int32.le_refl _)]
    · rw [e1, X3_appendMany_L91, if_pos (by exact Int32.le_refl _)]
  | d + 1, n + 1, n' + 1, i, K, M, S, zk, zm, zs, zr, zu, zt, yrow, ymk, yst, yrm, ypc, up, un, hn, hn', hd, h, hX, hY, hK, hc => by
    have hi : s * (i : Int) + s = s * ((i + 1 : Nat) : Int) := by
      rw [show ((i + 1 : Nat) : Int) = (i : Int) + 1 by omega, Int.mul_add, Int.mul_one]
    have h0 : 0 ≤ s * (i : Int) := Int.mul_nonneg (by omega) (by omega)
    have hl1 := hlast i (by omega)
    obtain ⟨S', zk', zm', zs', zr', zu', zt', yrow', ymk', yrm', yst', ypc', up', un', e2, e3, e4, e5, e6⟩ := append1 hF up un h hX hY (x := x + s * i) (by omega) hK (fun y hy => by have := hB y hy; omega) (by omega)
    obtain ⟨K2, M2, S2, zk2, zm2, zs2, zr2, zu2, zt2, yrow2, ymk2, yrm2, yst2, ypc2, up2, un2, f1, f2, f3⟩ := many_LL hF hx hs hm hlast hB d n n' (i + 1) (K ++ [x + s * i]) (M ++ [0]) S' zk' zm' zs' zr' zu' zt' yrow' ymk' yst' yrm' ypc' up' un' (by omega) (by omega) (by omega) e4 e5 e6 (fun y hy => by
      rcases List.mem_append.mp hy with q | q
      · have := hK y q
        omega
      · simp at q
        omega) (by simp; omega)
    refine ⟨K2, M2, S2, zk2, zm2, zs2, zr2, zu2, zt2, yrow2, ymk2, yrm2, yst2, ypc2, up2, un2, ?_, ?_, f3⟩
    · rw [X2_appendMany_L64, if_neg (by rw [J_leN (by omega) (by omega)]; omega), J_mul, J_add, e2]
      simp only [Option.bind_some, bnd]
      rw [J_succ]
      exact f1
    · rw [X3_appendMany_L91, if_neg (by rw [J_leN (by omega) (by omega)]; omega), if_pos rfl, J_mul, J_add, e3]
      simp only [Option.bind_some, bnd]
      rw [J_succ]
      exact f2
theorem GM_rep0 {K : List Int} {x : Int} {n : Nat} : GM K (List.replicate K.length 0) 0 n x ↔ ∃ j, j < n ∧ K.getD j 0 = x := by
  constructor
  · rintro ⟨j, q1, q2, q3, q4⟩
    exact ⟨j, q2, q3⟩
  · rintro ⟨j, q2, q3⟩
    exact ⟨j, Nat.zero_le _, q2, q3, getD_rep _ _⟩
theorem cU_rep (K : List Int) : ∀ n, (cU K (List.replicate K.length 0) n).length = n
  | 0 => rfl
  | n + 1 => by
    rw [cU, getD_rep, if_pos rfl, List.length_append, cU_rep K n]
    rfl
/-- the state behind a merge -/
theorem LK_new {G T : List Int} {bd : Int} (hs : Srt G) (hr : KR G) (hl : G.length ≤ 256) (hS : SOK T G.length) (hP : PF bd G T G.length) (hb : 0 ≤ bd ∧ bd ≤ 20) : LK G (List.replicate G.length 0) [] T bd := by
  refine ⟨hs, hr, by simp, fun j hj => Or.inl (getD_rep _ _), Srt_nil, fun i hi => by simp at hi, fun i j _ hj => by simp at hj, by simpa using hl, hS, hP, hb⟩
theorem op_merge (hF : 2000 ≤ F) {K M B S : List Int} {bd ro : Int} {zk zm zb zs zr zu zf zg : zN} {zt : zT} {zmc mg sp jc ymm : Int32} {yrow ymk yst ybu : Nat → Int32} {yrm ypc ybn : Int32} (yth : Int32) (md bg : Nat → Int32) (up un : Int64) (h : LK K M B S bd) (hX : XS K M B S bd zk zm zb zs zr zu zt zmc) (hY : YS K M B S yrow ymk yrm yst ypc ybu ybn) : ∃ K' M' S' sp' jc' zk' zm' zb' zs' zr' zu' zt' zf' zg' zmc' yrow' ymk' yrm' yst' ypc' ybn' md' bg' mm' up' un', X2_mergeAll F zk zm zb zs zr zu zt zf zg (J bd) zmc mg sp jc = some (zk', zm', zb', zs', zr', zu', zt', zf', zg', zmc', mg + 1, sp', jc') ∧ X3_mergesAll F (J bd) yrow ymk yrm yst ypc ybu ybn mg sp jc md bg ymm up un = some (yrow', ymk', yrm', yst', ypc', ybn', mg + 1, sp', jc', md', bg', mm', up', un') ∧ ypc' = J (S' : List Int).length ∧ ybn' = 0 ∧ (1 ≤ ro ∧ ro ≤ 16 → ST K' M' [] S' bd ro) ∧ XS K' M' [] S' bd zk' zm' zb' zs' zr' zu' zt' zmc' ∧ YS K' M' [] S' yrow' ymk' yrm' yst' ypc' ybu ybn' := by
  obtain ⟨x1, x2, x3, x4, x5⟩ := hX
  obtain ⟨y1, y2, y3, y4, y5, y6, y7⟩ := hY
  subst y5 y6 y7
  obtain ⟨G, T, ⟨g1, g2, g3⟩, sp', jc', ⟨zk', zm', zb', zs', zr', zu', zt', zf', zg', e1, e2, e3, e4, e5⟩, row', mk', st', md', bg', mm', up', un', f1, f2, f3, f4⟩ := mergeAll_JJ (Lf := []) (Lg := []) (zf := zf) (zg := zg) hF zt zmc mg sp jc ymm md bg up un h x1 x2 x3 x4.1 y1 y2 y4 y3
  have hl := e2.len
  refine ⟨G, List.replicate G.length 0, T, sp', jc', zk', zm', zb', zs', zr', zu', zt', zf', zg', 0, row', mk', _, st', _, _, md', bg', mm', up', un', e1, f1, rfl, rfl, fun hro => ⟨LK_new g1 g2 hl e5.2.1 e5.2.2.1 h.2.2.2.2.2.2.2.2.2.2, hro.1, hro.2, by simp; omega⟩, ⟨e2, e3, e4, e5, ?_⟩, f2, f3, f4, ⟨by simp, fun i hi => by simp at hi⟩, rfl, rfl, J_0⟩
  rw [cU_rep]
  rw [show (G.length : Int) - (G.length : Int) = 0 by omega]
  exact J_0
end MAP2
