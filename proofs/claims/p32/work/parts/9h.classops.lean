/-! the class's calls, what each answers -/
section LCO
variable {F : Nat}
theorem cx_plain {K M B S : List Int} {bd : Int} {zk zm zb zs zr zu : zN} {zt : zT} {zmc : Int32} (hX : XS K M B S bd zk zm zb zs zr zu zt zmc) : X2_pieces F zs = some (J S.length) ∧ X2_buffered F zb = some (J B.length) ∧ X2_rowSize F zk = some (J K.length) ∧ X2_marked F zmc = some (J ((K.length : Int) - (cU K M K.length).length)) := by
  obtain ⟨x1, x2, x3, x4, x5⟩ := hX
  refine ⟨?_, ?_, ?_, ?_⟩
  · unfold X2_pieces
    rw [length_J x4.1]
    rfl
  · unfold X2_buffered
    rw [length_J x3]
    rfl
  · unfold X2_rowSize
    rw [length_J x1]
    rfl
  · unfold X2_marked
    rw [x5]
theorem cx_start {S : List Int} {zs : zN} {i : Nat} (hs : RN 256 zs S) (hi : i < S.length) : X2_start F zs (J i) = some (Sum.inr (J (S.getD i 0))) := by
  have hl := hs.len
  unfold X2_start
  rw [(needPiece_J hs (by omega)).1 ⟨by omega, by omega⟩]
  simp only [Option.bind_some]
  rw [at_in hs hi]
  rfl
theorem cx_start_no {S : List Int} {zs : zN} (hs : RN 256 zs S) : X2_start F zs (J S.length) = some (Sum.inl 3) := by
  have hl := hs.len
  unfold X2_start
  rw [(needPiece_J hs (by omega)).2 (by omega)]
  rfl
theorem cx_firstKey {K S : List Int} {zk zs : zN} {i : Nat} (hk : RN 256 zk K) (hs : RN 256 zs S) (hS : SOK S K.length) (hi : i < S.length) : X2_firstKey F zk zs (J i) = some (Sum.inr (J (K.getD (S.getD i 0).toNat 0))) := by
  have hl := hs.len
  unfold X2_firstKey
  rw [(needPiece_J hs (by omega)).1 ⟨by omega, by omega⟩]
  simp only [Option.bind_some]
  rw [firstOf_J hk hs hS hi]
  rfl
theorem cx_rise {K S : List Int} {bd : Int} {zs zr zu : zN} {zt : zT} {i : Nat} (hp : PI bd K S K.length zs zr zu zt) (hi : i < S.length) : X2_rise F zs zr (J i) = some (Sum.inr (J (qS K S bd i).1)) := by
  obtain ⟨p1, p2, p3, p4, R, U, p5, p6, p7, p8, p9⟩ := hp
  have hl := p1.len
  have e1 : R.getD i 0 = (qS K S bd i).1 := (p9 i hi).1
  unfold X2_rise
  rw [(needPiece_J p1 (by omega)).1 ⟨by omega, by omega⟩]
  simp only [Option.bind_some]
  rw [at_in p5 (by omega), e1]
  rfl
theorem cx_run {K S : List Int} {bd : Int} {zs zr zu : zN} {zt : zT} {i : Nat} (hp : PI bd K S K.length zs zr zu zt) (hi : i < S.length) : X2_run F zs zu (J i) = some (Sum.inr (J (qS K S bd i).2)) := by
  obtain ⟨p1, p2, p3, p4, R, U, p5, p6, p7, p8, p9⟩ := hp
  have hl := p1.len
  have e1 : U.getD i 0 = (qS K S bd i).2 := (p9 i hi).2
  unfold X2_run
  rw [(needPiece_J p1 (by omega)).1 ⟨by omega, by omega⟩]
  simp only [Option.bind_some]
  rw [at_in p6 (by omega), e1]
  rfl
theorem cx_guess (hF : 2000 ≤ F) {K M B S : List Int} {bd : Int} {zk zs zr zu : zN} {zt : zT} {x : Int} (h : LK K M B S bd) (hk : RN 256 zk K) (hp : PI bd K S K.length zs zr zu zt) (hx : -1000000 ≤ x ∧ x ≤ 1000000) : X2_guess F zk zs zr zu (J x) = some (Sum.inr (L (if pcN K S x = 0 then -1 else gK K S bd (pcN K S x - 1) x))) := by
  have hS := h.2.2.2.2.2.2.2.2.1
  have hpl := pcN_le K S x
  have hsl := hp.1.len
  unfold X2_guess
  rw [J_wide (by omega), (needKey_J (by omega)).1 hx]
  simp only [Option.bind_some]
  rw [pieceOf_JX hF hk hp.1 h.1 hS hx]
  simp only [Option.bind_some]
  by_cases c2 : pcN K S x = 0
  · obtain ⟨p1, p2, p3, p4, R, U, p5, p6, p7⟩ := hp
    rw [if_pos c2, c2]
    unfold X2_guessBy
    rw [at_out p6 (by omega) (Or.inl (by omega))]
    simp only [Option.bind_some, bnd]
    rw [J_wide (by omega), L_1, if_neg (by rw [L_le (by omega) (by omega)]; omega)]
    simp only [Option.bind_some]
    rw [L_neg]
  · obtain ⟨g1, g2⟩ := pcN_in h (x := x) (by omega)
    have e : ((pcN K S x : Int) - 1) = ((pcN K S x - 1 : Nat) : Int) := by omega
    rw [if_neg c2, e, guessBy_J hF h hk hp g1 hx g2]
    rfl
theorem cx_worst (hF : 2000 ≤ F) {K M B S : List Int} {bd : Int} {zk zs zr zu : zN} {zt : zT} (h : LK K M B S bd) (hk : RN 256 zk K) (hp : PI bd K S K.length zs zr zu zt) : X2_worstError F zk zs zr zu = some (J (wE K S bd K.length)) := by
  have hS := h.2.2.2.2.2.2.2.2.1
  have hl := hk.len
  have hsl := SOK_len hS
  have e0 : posK S K.length 0 = 0 := by
    unfold posK
    by_cases c : 0 < S.length
    · rw [if_pos c, hS.2.2.1 c]
      rfl
    · rw [if_neg c]
      exact LK_nil h (by omega)
  have q1 := err4_L hF h hk hp S.length F 0 (by omega) (by omega)
  rw [e0, J_00] at q1
  rw [show wE K S bd 0 = 0 from rfl, ← L_0] at q1
  have hw := wE_rng h K.length (Nat.le_refl _)
  unfold X2_worstError
  rw [q1]
  simp only [Option.bind_some]
  rw [L_nar (by omega)]
theorem cx_slopes (hF : 2000 ≤ F) {K M B S : List Int} {bd : Int} {zs zr zu : zN} {zt : zT} (h : LK K M B S bd) (hp : PI bd K S K.length zs zr zu zt) : X2_slopes F zs zr zu = some (J (fc (qS K S bd) S.length)) := by
  have hsl := hp.1.len
  have q1 := slopesX_L hF h hp S.length F 0 (by omega) (by omega)
  rw [show fc (qS K S bd) 0 = 0 from rfl, J_00] at q1
  unfold X2_slopes
  rw [q1]
  rfl
theorem cx_size {K M B S : List Int} {bd : Int} {zk zm zb zs zr zu : zN} {zt : zT} {zmc : Int32} (h : LK K M B S bd) (hX : XS K M B S bd zk zm zb zs zr zu zt zmc) : X2_size F zk zb zmc = some (J (allN K M B)) := by
  obtain ⟨x1, x2, x3, x4, x5⟩ := hX
  unfold X2_size
  rw [x5, keysThere_J h x1 x3]
  rfl
theorem cx_contains (hF : 2000 ≤ F) {K M B S : List Int} {bd : Int} {zk zm zb zs zr zu : zN} {zt : zT} {zmc : Int32} (h : LK K M B S bd) (hX : XS K M B S bd zk zm zb zs zr zu zt zmc) {x : Int} (hx : -2147483648 ≤ x ∧ x < 2147483648) : (TH K M B x → X2_contains F zk zm zb (J x) = some 1) ∧ (¬ TH K M B x → X2_contains F zk zm zb (J x) = some 0) := by
  obtain ⟨x1, x2, x3, x4, x5⟩ := hX
  have a1 := isThere_J (x := x) hF h x1 x2 x3 hx
  unfold X2_contains
  refine ⟨fun c => ?_, fun c => ?_⟩
  · rw [a1.1 c]
    rfl
  · rw [a1.2 c]
    rfl
theorem cx_rank (hF : 2000 ≤ F) {K M B S : List Int} {bd : Int} {zk zm zb zs zr zu : zN} {zt : zT} {zmc : Int32} (h : LK K M B S bd) (hX : XS K M B S bd zk zm zb zs zr zu zt zmc) {x : Int} (hx : -2147483648 ≤ x ∧ x < 2147483648) : X2_rank F zk zm zb (J x) = some (J (thN K M B x)) := by
  unfold X2_rank
  rw [thereBelow_J hF h hX.1 hX.2.1 hX.2.2.1 hx]
  rfl
theorem cx_place (hF : 2000 ≤ F) {K : List Int} {zk : zN} (hk : RN 256 zk K) (hs : Srt K) {x : Int} (hx : -2147483648 ≤ x ∧ x < 2147483648) : X2_place F zk (J x) = some (J (cl K x)) := by
  unfold X2_place
  rw [below_J hF hk hs hx]
  rfl
/-- the keys that are there, in their order: a list of its own -/
theorem th_list (hF : 2000 ≤ F) {K M B S : List Int} {bd : Int} {zk zm zb zs zr zu : zN} {zt : zT} {zmc : Int32} (h : LK K M B S bd) (hX : XS K M B S bd zk zm zb zs zr zu zt zmc) : ∃ T, Srt T ∧ (∀ x, x ∈ T ↔ GM K M 0 K.length x ∨ BM B 0 B.length x) ∧ T.length = allN K M B ∧ (∀ x, cl T x = thN K M B x) ∧ ∀ x, TH K M B x ↔ x ∈ T := by
  obtain ⟨zf0, T, t1, t2, t3, t4⟩ := gatherAll_J hF zk h hX.1 hX.2.1 hX.2.2.1
  have hp := th_perm h t3 t4
  refine ⟨T, t3, t4, hp.1, hp.2, fun x => ?_⟩
  unfold TH
  rw [t4, BM_all]
  exact or_comm
theorem cx_select (hF : 2000 ≤ F) {K M B S T : List Int} {bd : Int} {zk zm zb zs zr zu : zN} {zt : zT} {zmc : Int32} (zf : zN) (h : LK K M B S bd) (hX : XS K M B S bd zk zm zb zs zr zu zt zmc) (hT : Srt T) (hTm : ∀ x, x ∈ T ↔ GM K M 0 K.length x ∨ BM B 0 B.length x) {q : Nat} (hq : q < T.length) : ∃ zf', X2_select F zk zm zb zf zmc (J q) = some (Sum.inr (J (T.getD q 0), zf')) := by
  obtain ⟨x1, x2, x3, x4, x5⟩ := hX
  have hp := th_perm h hT hTm
  have ha := allN_le h
  obtain ⟨zf', e1⟩ := keyThere_J hF zf h x1 x2 x3 hT hTm (q := q) hq
  refine ⟨zf', ?_⟩
  unfold X2_select
  rw [x5, keysThere_J h x1 x3, ← hp.1, if_neg (by rw [J_0, J_lt (by omega) (by omega)]; omega)]
  simp only [Option.bind_some]
  rw [if_pos (by rw [J_ltN (by omega) (by omega)]; exact hq), e1]
  rfl
theorem cx_select_no {K M B S : List Int} {bd : Int} {zk zm zb zs zr zu : zN} {zt : zT} {zmc : Int32} (zf : zN) (h : LK K M B S bd) (hX : XS K M B S bd zk zm zb zs zr zu zt zmc) : X2_select F zk zm zb zf zmc (J (allN K M B)) = some (Sum.inl 3) := by
  obtain ⟨x1, x2, x3, x4, x5⟩ := hX
  have ha := allN_le h
  unfold X2_select
  rw [x5, keysThere_J h x1 x3, if_neg (by rw [J_0, J_lt (by omega) (by omega)]; omega)]
  simp only [Option.bind_some]
  rw [if_neg (by rw [J_ltN (by omega) (by omega)]; omega)]
theorem cx_ceiling (hF : 2000 ≤ F) {K M B S T : List Int} {bd : Int} {zk zm zb zs zr zu : zN} {zt : zT} {zmc : Int32} (zf : zN) (h : LK K M B S bd) (hX : XS K M B S bd zk zm zb zs zr zu zt zmc) (hT : Srt T) (hTm : ∀ x, x ∈ T ↔ GM K M 0 K.length x ∨ BM B 0 B.length x) {x : Int} (hx : -2147483648 ≤ x ∧ x < 2147483648) : (cl T x < T.length → ∃ zf', X2_ceiling F zk zm zb zf zmc (J x) = some (Sum.inr (J (T.getD (cl T x) 0), zf'))) ∧ (cl T x = T.length → X2_ceiling F zk zm zb zf zmc (J x) = some (Sum.inl 4)) := by
  obtain ⟨x1, x2, x3, x4, x5⟩ := hX
  have hp := th_perm h hT hTm
  have ha := allN_le h
  rw [← hp.1] at ha
  unfold X2_ceiling
  rw [thereBelow_J hF h x1 x2 x3 hx, x5, keysThere_J h x1 x3, ← hp.1, ← hp.2 x]
  simp only [Option.bind_some]
  refine ⟨fun c => ?_, fun c => ?_⟩
  · obtain ⟨zf', e1⟩ := keyThere_J hF zf h x1 x2 x3 hT hTm (q := cl T x) c
    refine ⟨zf', ?_⟩
    rw [if_pos (by rw [J_ltN (by omega) (by omega)]; exact c), e1]
    rfl
  · rw [if_neg (by rw [J_ltN (by omega) (by omega)]; omega)]
theorem cx_count (hF : 2000 ≤ F) {K M B S : List Int} {bd : Int} {zk zm zb zs zr zu : zN} {zt : zT} {zmc : Int32} (h : LK K M B S bd) (hX : XS K M B S bd zk zm zb zs zr zu zt zmc) {x y : Int} (hx : -2147483648 ≤ x ∧ x < 2147483648) (hz : -2147483648 ≤ y ∧ y < 2147483648) : X2_count F zk zm zb (J x) (J y) = some (if x ≤ y then J ((thN K M B (y + 1) : Int) - thN K M B x) else 0) := by
  obtain ⟨T, t1, t2, t3, t4, t5⟩ := th_list hF h hX
  obtain ⟨x1, x2, x3, x4, x5⟩ := hX
  have a1 := isThere_J (x := y) hF h x1 x2 x3 hz
  unfold X2_count
  by_cases c : x ≤ y
  · rw [if_pos (by rw [J_le hx hz]; exact c), if_pos c, thereBelow_J hF h x1 x2 x3 hz, thereBelow_J hF h x1 x2 x3 hx]
    simp only [Option.bind_some]
    rw [← t4, ← t4, ← t4]
    by_cases c2 : TH K M B y
    · rw [a1.1 c2, (cl_next t1).1 ((t5 y).mp c2)]
      simp only [Option.bind_some]
      rw [if_neg (by decide), J_1, J_sub, J_add]
      congr 2
      omega
    · rw [a1.2 c2, (cl_next t1).2 (fun q => c2 ((t5 y).mpr q))]
      simp only [Option.bind_some, if_true]
      rw [Int32.add_zero, J_sub]
  · rw [if_neg (by rw [J_le hx hz]; exact c), if_neg c]
/-- one key more at the end -/
theorem cx_addLast (hF : 2000 ≤ F) {K M B S : List Int} {bd ro x : Int} {zk zm zb zs zr zu : zN} {zt : zT} {zmc : Int32} (h : ST K M B S bd ro) (hX : XS K M B S bd zk zm zb zs zr zu zt zmc) (hx : -1000000 ≤ x ∧ x ≤ 1000000) (h1 : ∀ y, y ∈ K → y < x) (h2 : ∀ y, y ∈ B → y < x) (hl : K.length + B.length < 256) : ∃ zk' zm' zs' zr' zu' zt', X2_addLast F zk zm zs zr zu zt (J bd) (J x) = some (zk', zm', zs', zr', zu', zt') ∧ ST (K ++ [x]) (M ++ [0]) B (cutS bd (K ++ [x]) S 0 K.length) bd ro ∧ XS (K ++ [x]) (M ++ [0]) B (cutS bd (K ++ [x]) S 0 K.length) bd zk' zm' zb zs' zr' zu' zt' zmc := by
  obtain ⟨x1, x2, x3, x4, x5⟩ := hX
  subst x5
  obtain ⟨⟨a1, a2, a3, a4, a5, a6, a7, a8, a9, a10, a11⟩, b1, b2, b3⟩ := h
  have hs : Srt (K ++ [x]) := Srt_snoc a1 (fun i hi => h1 _ (getD_mem hi))
  have hr : KR (K ++ [x]) := KR_mem.mpr (fun y hy => by
    rcases List.mem_append.mp hy with q | q
    · exact KR_mem.mp a2 y q
    · simp at q
      omega)
  obtain ⟨zk', zm', zs', zr', zu', zt', e1, e2, e3, e4⟩ := addLast_J hF x1 x2 a3 hs hr a11 (by omega) x4
  have hlen : (K ++ [x]).length = K.length + 1 := by simp
  have hml : (M ++ [0]).length = M.length + 1 := by simp
  have hcu : cU (K ++ [x]) (M ++ [0]) (K.length + 1) = cU K M K.length ++ [x] := by
    have c1 : cU (K ++ [x]) (M ++ [0]) K.length = cU K M K.length := cU_cong _ (fun j hj => by
      rw [getD_app_l hj, getD_app_l (by omega)]
      exact ⟨rfl, rfl⟩)
    rw [cU, c1, getD_snoc, getD_snoc, ← a3, if_neg (Nat.lt_irrefl _), if_pos rfl, if_pos rfl, a3, if_neg (Nat.lt_irrefl _), if_pos rfl]
  refine ⟨zk', zm', zs', zr', zu', zt', e1, ⟨⟨hs, hr, by omega, fun j hj => ?_, a5, a6, fun i j hi hj => ?_, by omega, by rw [hlen]; exact e4.2.1, by rw [hlen]; exact e4.2.2.1, a11⟩, b1, b2, b3⟩, ⟨e2, e3, x3, by rw [hlen]; exact e4, ?_⟩⟩
  · rw [getD_snoc]
    by_cases c : j < M.length
    · rw [if_pos c]
      exact a4 j c
    · rw [if_neg c, if_pos (by omega)]
      exact Or.inl rfl
  · rw [getD_snoc]
    by_cases c : i < K.length
    · rw [if_pos c]
      exact a7 i j c hj
    · rw [if_neg c, if_pos (by omega)]
      have := h2 _ (getD_mem hj (d := 0))
      omega
  · rw [hlen, hcu, List.length_append]
    simp only [List.length_cons, List.length_nil]
    congr 1
    omega
theorem cx_append_no1 {zk zm zb zs zr zu : zN} {zt : zT} {bd : Int} {x : Int} (hx : -2147483648 ≤ x ∧ x < 2147483648) (c : ¬ (-1000000 ≤ x ∧ x ≤ 1000000)) : X2_append F zk zm zb zs zr zu zt (J bd) (J x) = some (Sum.inl 1) := by
  unfold X2_append
  rw [J_wide hx, (needKey_J (by omega)).2 c]
  rfl
theorem cx_append_no2 (hF : 2000 ≤ F) {K M B S : List Int} {bd : Int} {zk zm zb zs zr zu : zN} {zt : zT} {zmc : Int32} {x : Int} (h : LK K M B S bd) (hX : XS K M B S bd zk zm zb zs zr zu zt zmc) (c : -1000000 ≤ x ∧ x ≤ 1000000) (h1 : ¬ ∀ y, y ∈ K → y < x) : X2_append F zk zm zb zs zr zu zt (J bd) (J x) = some (Sum.inl 2) := by
  unfold X2_append
  rw [J_wide (by omega), (needKey_J (by omega)).1 c]
  simp only [Option.bind_some]
  rw [J_1, (needToFollow_J (x := x) (m := 1) hF h hX.1 hX.2.2.1 (by omega) (by omega)).2 (fun q => h1 q.1)]
  rfl
theorem cx_append (hF : 2000 ≤ F) {K M B S : List Int} {bd ro : Int} {zk zm zb zs zr zu : zN} {zt : zT} {zmc : Int32} {x : Int} (h : ST K M B S bd ro) (hX : XS K M B S bd zk zm zb zs zr zu zt zmc) (hx : -1000000 ≤ x ∧ x ≤ 1000000) (h1 : ∀ y, y ∈ K → y < x) (h2 : ∀ y, y ∈ B → y < x) (hl : K.length + B.length < 256) : ∃ zk' zm' zs' zr' zu' zt', X2_append F zk zm zb zs zr zu zt (J bd) (J x) = some (Sum.inr (J (cutS bd (K ++ [x]) S 0 K.length).length, zk', zm', zs', zr', zu', zt')) ∧ ST (K ++ [x]) (M ++ [0]) B (cutS bd (K ++ [x]) S 0 K.length) bd ro ∧ XS (K ++ [x]) (M ++ [0]) B (cutS bd (K ++ [x]) S 0 K.length) bd zk' zm' zb zs' zr' zu' zt' zmc := by
  obtain ⟨zk', zm', zs', zr', zu', zt', e1, e2, e3⟩ := cx_addLast hF h hX hx h1 h2 hl
  refine ⟨zk', zm', zs', zr', zu', zt', ?_, e2, e3⟩
  unfold X2_append
  rw [J_wide (by omega), (needKey_J (by omega)).1 hx]
  simp only [Option.bind_some]
  rw [J_1, (needToFollow_J (x := x) (m := 1) hF h.1 hX.1 hX.2.2.1 (by omega) (by omega)).1 ⟨h1, h2, by omega⟩]
  simp only [Option.bind_some]
  rw [e1]
  simp only [Option.bind_some]
  rw [length_J e3.2.2.2.1.1]
  rfl
/-- keys that are appended one by one: row, marks and pieces then -/
def apK (K : List Int) (x s : Int) : Nat → Nat → List Int
  | _, 0 => K
  | i, d + 1 => apK (K ++ [x + s * i]) x s (i + 1) d
def apS (bd : Int) (K S : List Int) (x s : Int) : Nat → Nat → List Int
  | _, 0 => S
  | i, d + 1 => apS bd (K ++ [x + s * i]) (cutS bd (K ++ [x + s * i]) S 0 K.length) x s (i + 1) d
def apM (M : List Int) : Nat → List Int
  | 0 => M
  | d + 1 => apM (M ++ [0]) d
theorem cx_many (hF : 2000 ≤ F) {B : List Int} {bd ro x s : Int} {m : Nat} {zb : zN} {zmc : Int32} (hx : -1000000 ≤ x) (hs : 1 ≤ s ∧ s ≤ 10000) (hm : m ≤ 100) (hlast : ∀ i : Nat, i < m → x + s * i ≤ 1000000) (hB : ∀ y, y ∈ B → y < x) : ∀ (d n i : Nat) (K M S : List Int) (zk zm zs zr zu : zN) (zt : zT), d < n → i + d = m → ST K M B S bd ro → XS K M B S bd zk zm zb zs zr zu zt zmc → (∀ y, y ∈ K → y < x + s * i) → K.length + B.length + d ≤ 256 → ∃ zk' zm' zs' zr' zu' zt', X2_appendMany_L64 (J x) (J s) (J m) (J bd) F n (J i) zk zm zs zr zu zt = some (zk', zm', zs', zr', zu', zt') ∧ ST (apK K x s i d) (apM M d) B (apS bd K S x s i d) bd ro ∧ XS (apK K x s i d) (apM M d) B (apS bd K S x s i d) bd zk' zm' zb zs' zr' zu' zt' zmc
  | d, 0, i, K, M, S, zk, zm, zs, zr, zu, zt, hn, _, _, _, _, _ => absurd hn (Nat.not_lt_zero d)
  | 0, n + 1, i, K, M, S, zk, zm, zs, zr, zu, zt, _, hd, h, hX, _, _ => by
    have e1 : i = m := by omega
    refine ⟨zk, zm, zs, zr, zu, zt, ?_, h, hX⟩
    rw [e1, X2_appendMany_L64, if_pos (by exact Int32.le_refl _)]
  | d + 1, n + 1, i, K, M, S, zk, zm, zs, zr, zu, zt, hn, hd, h, hX, hK, hc => by
    have hi : s * (i : Int) + s = s * ((i + 1 : Nat) : Int) := by
      rw [show ((i + 1 : Nat) : Int) = (i : Int) + 1 by omega, Int.mul_add, Int.mul_one]
    have h0 : 0 ≤ s * (i : Int) := Int.mul_nonneg (by omega) (by omega)
    have hl1 := hlast i (by omega)
    obtain ⟨zk', zm', zs', zr', zu', zt', e2, e4, e5⟩ := cx_addLast hF h hX (x := x + s * i) (by omega) hK (fun y hy => by have := hB y hy; omega) (by omega)
    obtain ⟨zk2, zm2, zs2, zr2, zu2, zt2, f1, f3⟩ := cx_many hF hx hs hm hlast hB d n (i + 1) (K ++ [x + s * i]) (M ++ [0]) _ zk' zm' zs' zr' zu' zt' (by omega) (by omega) e4 e5 (fun y hy => by
      rcases List.mem_append.mp hy with q | q
      · have := hK y q
        omega
      · simp at q
        omega) (by simp; omega)
    refine ⟨zk2, zm2, zs2, zr2, zu2, zt2, ?_, f3⟩
    rw [X2_appendMany_L64, if_neg (by rw [J_leN (by omega) (by omega)]; omega), J_mul, J_add, e2]
    simp only [Option.bind_some, bnd]
    rw [J_succ]
    exact f1
theorem cx_appendMany (hF : 2000 ≤ F) {K M B S : List Int} {bd ro : Int} {zk zm zb zs zr zu : zN} {zt : zT} {zmc : Int32} {x s : Int} {m : Nat} (h : ST K M B S bd ro) (hX : XS K M B S bd zk zm zb zs zr zu zt zmc) (hx : -1000000 ≤ x) (hs : 1 ≤ s ∧ s ≤ 10000) (hm : 1 ≤ m ∧ m ≤ 100) (hlast : x + s * (m - 1 : Int) ≤ 1000000) (h1 : ∀ y, y ∈ K → y < x) (h2 : ∀ y, y ∈ B → y < x) (hl : K.length + B.length + m ≤ 256) : ∃ zk' zm' zs' zr' zu' zt', X2_appendMany F zk zm zb zs zr zu zt (J bd) (J x) (J s) (J m) = some (Sum.inr (J (apS bd K S x s 0 m).length, zk', zm', zs', zr', zu', zt')) ∧ ST (apK K x s 0 m) (apM M m) B (apS bd K S x s 0 m) bd ro ∧ XS (apK K x s 0 m) (apM M m) B (apS bd K S x s 0 m) bd zk' zm' zb zs' zr' zu' zt' zmc := by
  have hms : s * ((m : Int) - 1) ≤ 10000 * 99 := Int.mul_le_mul hs.2 (by omega) (by omega) (by omega)
  have hms0 : 0 ≤ s * ((m : Int) - 1) := Int.mul_nonneg (by omega) (by omega)
  obtain ⟨zk', zm', zs', zr', zu', zt', e1, e2, e3⟩ := cx_many hF (x := x) (s := s) (m := m) hx hs hm.2 (fun i hi => by
    have : s * (i : Int) ≤ s * ((m : Int) - 1) := Int.mul_le_mul_of_nonneg_left (by omega) (by omega)
    omega) h2 m F 0 K M S zk zm zs zr zu zt (by omega) (by omega) h hX (fun y hy => by have := h1 y hy; simp; omega) hl
  rw [J_00] at e1
  refine ⟨zk', zm', zs', zr', zu', zt', ?_, e2, e3⟩
  unfold X2_appendMany
  rw [if_neg (by rw [J_1, J_lt (by omega) (by omega)]; omega), if_neg (by rw [J_10000, J_lt (by omega) (by omega)]; omega), if_neg (by rw [J_1, J_lt (by omega) (by omega)]; omega), if_pos (by rw [J_100, J_le (by omega) (by omega)]; omega)]
  simp only [bnd]
  rw [J_wide (by omega), J_wide (by omega), J_1, J_sub, J_wide (by omega), L_mul, L_add, (needKey_J (by omega)).1 ⟨hx, by omega⟩]
  simp only [Option.bind_some]
  rw [(needKey_J (by omega)).1 ⟨by omega, hlast⟩]
  simp only [Option.bind_some]
  rw [(needToFollow_J (x := x) (m := m) hF h.1 hX.1 hX.2.2.1 (by omega) (by omega)).1 ⟨h1, h2, by omega⟩]
  simp only [Option.bind_some]
  rw [e1]
  simp only [Option.bind_some]
  rw [length_J e3.2.2.2.1.1]
  rfl
end LCO
